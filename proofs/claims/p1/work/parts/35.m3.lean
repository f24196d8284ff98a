/-! the reference on a fresh object, what makes cells, counts, goes ways: by program (wip/p1/m3.py) -/
theorem drop1 {c : rC} {ad ad1 : Nat → Nat} {k : Nat} {e : Option va_E} (hk : c k = none) (h : ∀ j, j ≠ k → ad1 j = ad j) : ∀ n x, c n = some x → va_up c k e n = some x ∧ ad n = ad1 n := fun n x hn => by
  have hne : n ≠ k := fun z => by rw [z, hk] at hn; cases hn
  exact ⟨by rw [va_up_ne _ _ hne]; exact hn, (h n hne).symm⟩
set_option maxRecDepth 100000 in
set_option maxHeartbeats 4000000 in
theorem c_AL_grow_92f84 (l : Launch) (D : va_G) (cy : Nat → ClassId) (t0 : Nat) (ad : Nat → Nat) (c : rC) (n k : Nat) (hnk : n ≠ k) (m9 : Int32) (hc : c n = some (.inr (12, [.int m9, .ref t0, .int 0]))) (hk : c k = none) : xMq l D cls (TY cy) NW t0 y_AL_grow_92f84 (Cond.code y_AL_grow_92f84 b_AL_grow_92f84 4 rt_AL_grow_92f84 :: W0) { frames := 1, cells := 1, slots := 10, locals := 21 } [.ref (ad n), .int 1] ad c (fun r ad' c' => r = some (ad' k) ∧ (∀ j, j ≠ k → ad' j = ad j) ∧ va_up (va_up c k (some (.inl (cy 8, 10, .inr (.inr (.inr (.inr (fun _ => none)))))))) n (some (.inr (12, [.int m9, .ref (ad' k), .int 0]))) = c') := by
  intro sz
  refine x_of (own := R_AL) rfl (by decide +kernel) (Nat.le_of_ble_eq_true rfl) ?_
  intro p e s m below meth cd hsz X hr hlk hN hE hin
  refine r_lv [0, 1] [(0, .ref (ad n)), (1, .int 1)] rfl ?_
  refine r_aload_n X 0 d_AL_grow_92f84_0 rfl rfl ?_
  refine r_get X k_AL 1 (by decide) f_AL_9 rfl hc rfl d_AL_grow_92f84_1 ?_
  refine x_alen X hE d_AL_grow_92f84_4 ?_
  refine r_istore_n X [(2, .int 0), (0, .ref (ad n)), (1, .int 1)] d_AL_grow_92f84_5 rfl (by decide) rfl ?_
  refine r_iload_n X 0 d_AL_grow_92f84_6 rfl rfl ?_
  refine r_if_gt X 20 d_AL_grow_92f84_7 (by decide) (fun h9 => absurd h9 (by decide)) (fun _ => ?_)
  refine r_aload_n X 1 d_AL_grow_92f84_10 rfl rfl ?_
  refine r_get X k_AL 1 (by decide) f_AL_9 rfl hc rfl d_AL_grow_92f84_11 ?_
  refine x_gets X hE f_AL_39 d_AL_grow_92f84_14 ?_
  refine r_acmp_eq (x := some t0) (y := some t0) X 45 d_AL_grow_92f84_17 (by decide) (fun _ => ?_) (fun h9 => absurd rfl h9)
  refine r_aload_n X 1 d_AL_grow_92f84_45 rfl rfl ?_
  refine r_bipush X 10 d_AL_grow_92f84_46 (by decide) ?_
  refine r_iload_n X 2 d_AL_grow_92f84_48 rfl rfl ?_
  refine r_max X m_AL_79 s_max i_Math cd_max ⟨by decide, by decide, by decide, by decide⟩ (Nat.le_of_ble_eq_true rfl) d_AL_grow_92f84_49 ?_
  refine r_top (y := 10) (by decide) ?_
  refine x_newqO (N := 10) X 8 rfl c_AL_7 (hE.1 _ ov_obj rfl) (by decide) (by decide) (by decide) (Nat.le_of_ble_eq_true rfl) (Nat.le_of_ble_eq_true rfl) d_AL_grow_92f84_52 k hk (fun a9 => [(2, .int 0), (0, .ref (a9 n)), (1, .int 1)]) (fun a9 => [.ref (a9 n)]) (fun a9 h9 => by rw [h9 n (by omega)]) (fun a9 h9 => by rw [h9 n (by omega)]) (fun a_1 ha_1 => ?_)
  refine r_dup_x1 X d_AL_grow_92f84_55 rfl rfl ?_
  refine r_put X k_AL 1 (by decide) f_AL_9 rfl (rup_ne (by omega) (hc)) rfl rfl rfl (Nat.le_of_ble_eq_true rfl) [.int m9, .ref (a_1 k), .int 0] rfl (va_up (va_up c k (some (.inl (cy 8, 10, .inr (.inr (.inr (.inr (fun _ => none)))))))) n (some (.inr (12, [.int m9, .ref (a_1 k), .int 0])))) rfl d_AL_grow_92f84_56 ?_
  exact r_aret (post := fun r ad' c' => r = some (ad' k) ∧ (∀ j, j ≠ k → ad' j = ad j) ∧ va_up (va_up c k (some (.inl (cy 8, 10, .inr (.inr (.inr (.inr (fun _ => none)))))))) n (some (.inr (12, [.int m9, .ref (ad' k), .int 0]))) = c') X hr hlk (Or.inr ⟨_, rfl⟩) (v := some (a_1 k)) rfl d_AL_grow_92f84_59 (by decide) (by decide) ⟨rfl, ha_1, rfl⟩
set_option maxRecDepth 100000 in
set_option maxHeartbeats 4000000 in
theorem c_AL_grow_d5877 (l : Launch) (D : va_G) (cy : Nat → ClassId) (t0 : Nat) (ad : Nat → Nat) (c : rC) (n k : Nat) (hnk : n ≠ k) (m9 : Int32) (hc : c n = some (.inr (12, [.int m9, .ref t0, .int 0]))) (hk : c k = none) : xMq l D cls (TY cy) NW t0 y_AL_grow_d5877 (Cond.code y_AL_grow_d5877 b_AL_grow_d5877 1 rt_AL_grow_d5877 :: W0) { frames := 2, cells := 1, slots := 10, locals := 44 } [.ref (ad n)] ad c (fun r ad' c' => r = some (ad' k) ∧ (∀ j, j ≠ k → ad' j = ad j) ∧ va_up (va_up c k (some (.inl (cy 8, 10, .inr (.inr (.inr (.inr (fun _ => none)))))))) n (some (.inr (12, [.int m9, .ref (ad' k), .int 0]))) = c') := by
  intro sz
  refine x_of (own := R_AL) rfl (by decide +kernel) (Nat.le_of_ble_eq_true rfl) ?_
  intro p e s m below meth cd hsz X hr hlk hN hE hin
  refine r_lv [0] [(0, .ref (ad n))] rfl ?_
  refine r_aload_n X 0 d_AL_grow_d5877_0 rfl rfl ?_
  refine r_aload_n X 0 d_AL_grow_d5877_1 rfl rfl ?_
  refine r_get X k_AL 2 (by decide) f_AL_48 rfl hc rfl d_AL_grow_d5877_2 ?_
  refine r_iconst X 1 d_AL_grow_d5877_5 (by decide) ?_
  refine r_iadd X d_AL_grow_d5877_6 ?_
  refine r_top (y := 1) (by decide) ?_
  refine x_Vq X W0_good hN hE (c_AL_grow_92f84 l D cy t0 ad (c) n k hnk m9 hc hk) yv_AL_grow_92f84 m_AL_69 hc k_AL.2.1 rfl rfl rfl ⟨by decide, by decide⟩ (Nat.le_of_ble_eq_true rfl) ⟨by decide, by decide⟩ d_AL_grow_d5877_7 (fun r9 ad9 c9 hp9 => ?_)
  obtain ⟨rfl, hb9, rfl⟩ := hp9
  refine r_show (va_up (va_up c k (some (.inl (cy 8, 10, .inr (.inr (.inr (.inr (fun _ => none)))))))) n (some (.inr (12, [.int m9, .ref (ad9 k), .int 0])))) [(0, .ref (ad9 n))] [.ref (ad9 k)] rfl (by rw [hb9 n (by omega)]) rfl ?_
  exact r_aret (post := fun r ad' c' => r = some (ad' k) ∧ (∀ j, j ≠ k → ad' j = ad j) ∧ va_up (va_up c k (some (.inl (cy 8, 10, .inr (.inr (.inr (.inr (fun _ => none)))))))) n (some (.inr (12, [.int m9, .ref (ad' k), .int 0]))) = c') X hr hlk (Or.inr ⟨_, rfl⟩) (v := some (ad9 k)) rfl d_AL_grow_d5877_10 (by decide) (by decide) ⟨rfl, hb9, rfl⟩
set_option maxRecDepth 100000 in
set_option maxHeartbeats 4000000 in
theorem c_AL_add_72be8 (l : Launch) (D : va_G) (cy : Nat → ClassId) (t0 : Nat) (ad : Nat → Nat) (c : rC) (n x k ci : Nat) (r8 : vw_C) (vs : List Value) (hnk : n ≠ k) (hxn : x ≠ n) (hxk : x ≠ k) (m9 : Int32) (hc : c n = some (.inr (12, [.int m9, .ref t0, .int 0]))) (hx : c x = some (.inr (ci, vs))) (hcl : cls[ci]? = some r8) (hca : Cond.castable r8.1 "java/lang/Object" ∈ lw_tbl) (hk : c k = none) : xMv l D cls (TY cy) NW t0 y_AL_add_72be8 (Cond.code y_AL_add_72be8 b_AL_add_72be8 4 rt_AL_add_72be8 :: W0) { frames := 3, cells := 1, slots := 10, locals := 64 } [.ref (ad n), .ref (ad x), .ref t0, .int 0] ad c (fun ad' c' => (∀ j, j ≠ k → ad' j = ad j) ∧ ∃ e9, va_up (va_up c k (some e9)) n (some (.inr (12, [.int m9, .ref (ad' k), .int 1]))) = c') := by
  intro sz
  refine x_of (own := R_AL) rfl (by decide +kernel) (Nat.le_of_ble_eq_true rfl) ?_
  intro p e s m below meth cd hsz X hr hlk hN hE hin
  refine r_lv [0, 1, 2, 3] [(0, .ref (ad n)), (1, .ref (ad x)), (2, .ref t0), (3, .int 0)] rfl ?_
  refine r_iload_n X 3 d_AL_add_72be8_0 rfl rfl ?_
  refine r_aload_n X 2 d_AL_add_72be8_1 rfl rfl ?_
  refine x_alen X hE d_AL_add_72be8_2 ?_
  refine r_icmp_ne X 11 d_AL_add_72be8_3 (by decide) (fun h9 => absurd h9 (by decide)) (fun _ => ?_)
  refine r_aload_n X 0 d_AL_add_72be8_6 rfl rfl ?_
  refine x_Vq X W0_good hN hE (c_AL_grow_d5877 l D cy t0 ad (c) n k hnk m9 hc hk) yv_AL_grow_d5877 m_AL_129 hc k_AL.2.1 rfl rfl rfl ⟨by decide, by decide⟩ (Nat.le_of_ble_eq_true rfl) ⟨by decide, by decide⟩ d_AL_add_72be8_7 (fun r9 ad9 c9 hp9 => ?_)
  obtain ⟨rfl, hb9, rfl⟩ := hp9
  refine r_show (va_up (va_up c k (some (.inl (cy 8, 10, .inr (.inr (.inr (.inr (fun _ => none)))))))) n (some (.inr (12, [.int m9, .ref (ad9 k), .int 0])))) [(0, .ref (ad9 n)), (1, .ref (ad9 x)), (2, .ref t0), (3, .int 0)] [.ref (ad9 k)] rfl (by rw [hb9 n (by omega), hb9 x (by omega)]) rfl ?_
  refine r_astore_n X [(2, .ref (ad9 k)), (0, .ref (ad9 n)), (1, .ref (ad9 x)), (3, .int 0)] d_AL_add_72be8_10 rfl (by decide) rfl ?_
  refine r_aload_n X 0 d_AL_add_72be8_11 rfl rfl ?_
  refine r_iload_n X 3 d_AL_add_72be8_12 rfl rfl ?_
  refine r_aload_n X 2 d_AL_add_72be8_13 rfl rfl ?_
  refine x_aastO X 8 (rup_ne (by omega) (rup_self)) rfl (hE.1 _ hca rfl) (rup_ne (by omega) (rup_ne (by omega) hx)) hcl (by unfold vp_in; decide +kernel) rfl (va_up (va_up c k (some (.inl (cy 8, 10, .inr (.inr (.inr (.inr (va_up (fun _ => none) 0 (some (ad9 x)))))))))) n (some (.inr (12, [.int m9, .ref (ad9 k), .int 0])))) (rup_in (by omega) rup_up rfl) d_AL_add_72be8_14 ?_
  refine r_aload_n X 1 d_AL_add_72be8_15 rfl rfl ?_
  refine r_iload_n X 3 d_AL_add_72be8_16 rfl rfl ?_
  refine r_iconst X 1 d_AL_add_72be8_17 (by decide) ?_
  refine r_iadd X d_AL_add_72be8_18 ?_
  refine r_top (y := 1) (by decide) ?_
  refine r_put X k_AL 2 (by decide) f_AL_48 rfl rup_self rfl rfl rfl (Nat.le_of_ble_eq_true rfl) [.int m9, .ref (ad9 k), .int 1] rfl (va_up (va_up c k (some (.inl (cy 8, 10, .inr (.inr (.inr (.inr (va_up (fun _ => none) 0 (some (ad9 x)))))))))) n (some (.inr (12, [.int m9, .ref (ad9 k), .int 1])))) rup_up d_AL_add_72be8_19 ?_
  exact r_vret (post := fun ad' c' => (∀ j, j ≠ k → ad' j = ad j) ∧ ∃ e9, va_up (va_up c k (some e9)) n (some (.inr (12, [.int m9, .ref (ad' k), .int 1]))) = c') X hr hlk d_AL_add_72be8_22 (by decide) (by decide) ⟨hb9, _, rfl⟩
set_option maxRecDepth 100000 in
set_option maxHeartbeats 4000000 in
theorem c_AL_add_9ea2d (l : Launch) (D : va_G) (cy : Nat → ClassId) (t0 : Nat) (ad : Nat → Nat) (c : rC) (n x k ci : Nat) (r8 : vw_C) (vs : List Value) (hnk : n ≠ k) (hxn : x ≠ n) (hxk : x ≠ k) (hc : c n = some (.inr (12, [.int 0, .ref t0, .int 0]))) (hx : c x = some (.inr (ci, vs))) (hcl : cls[ci]? = some r8) (hca : Cond.castable r8.1 "java/lang/Object" ∈ lw_tbl) (hk : c k = none) : xMi l D cls (TY cy) NW t0 y_AL_add_9ea2d (Cond.code y_AL_add_9ea2d b_AL_add_9ea2d 2 rt_AL_add_9ea2d :: W0) { frames := 4, cells := 1, slots := 10, locals := 87 } [.ref (ad n), .ref (ad x)] ad c (fun r ad' c' => 1 = r ∧ (∀ j, j ≠ k → ad' j = ad j) ∧ ∃ e9, va_up (va_up c n (some (.inr (12, [.int 1, .ref (ad' k), .int 1])))) k (some e9) = c') := by
  intro sz
  refine x_of (own := R_AL) rfl (by decide +kernel) (Nat.le_of_ble_eq_true rfl) ?_
  intro p e s m below meth cd hsz X hr hlk hN hE hin
  refine r_lv [0, 1] [(0, .ref (ad n)), (1, .ref (ad x))] rfl ?_
  refine r_aload_n X 0 d_AL_add_9ea2d_0 rfl rfl ?_
  refine r_dup X d_AL_add_9ea2d_1 rfl ?_
  refine x_get X k_AL 0 (by decide) f_AL_63 sf_mod hc rfl d_AL_add_9ea2d_2 ?_
  refine r_iconst X 1 d_AL_add_9ea2d_5 (by decide) ?_
  refine r_iadd X d_AL_add_9ea2d_6 ?_
  refine r_top (y := 1) (by decide) ?_
  refine x_put X k_AL 0 (by decide) f_AL_63 sf_mod hc rfl rfl rfl (Nat.le_of_ble_eq_true rfl) [.int 1, .ref t0, .int 0] rfl (va_up c n (some (.inr (12, [.int 1, .ref t0, .int 0])))) rfl d_AL_add_9ea2d_7 ?_
  refine r_aload_n X 0 d_AL_add_9ea2d_10 rfl rfl ?_
  refine r_aload_n X 1 d_AL_add_9ea2d_11 rfl rfl ?_
  refine r_aload_n X 0 d_AL_add_9ea2d_12 rfl rfl ?_
  refine r_get X k_AL 1 (by decide) f_AL_9 rfl rup_self rfl d_AL_add_9ea2d_13 ?_
  refine r_aload_n X 0 d_AL_add_9ea2d_16 rfl rfl ?_
  refine r_get X k_AL 2 (by decide) f_AL_48 rfl rup_self rfl d_AL_add_9ea2d_17 ?_
  refine x_Vv X W0_good hN hE (c_AL_add_72be8 l D cy t0 ad (va_up c n (some (.inr (12, [.int 1, .ref t0, .int 0])))) n x k ci r8 vs hnk hxn hxk 1 rup_self (rup_ne (by omega) hx) hcl hca (rup_ne (by omega) hk)) yv_AL_add_72be8 m_AL_131 rup_self k_AL.2.1 rfl rfl rfl ⟨by decide, by decide⟩ (Nat.le_of_ble_eq_true rfl) ⟨by decide, by decide⟩ d_AL_add_9ea2d_20 (fun ad9 c9 hp9 => ?_)
  obtain ⟨hb9, e9, rfl⟩ := hp9
  refine r_c (va_up (va_up c n (some (.inr (12, [.int 1, .ref (ad9 k), .int 1])))) k (some (e9))) (rup_in (by omega) rup_up rfl) ?_
  refine r_show (va_up (va_up c n (some (.inr (12, [.int 1, .ref (ad9 k), .int 1])))) k (some (e9))) [(0, .ref (ad9 n)), (1, .ref (ad9 x))] [] rfl (by rw [hb9 n (by omega), hb9 x (by omega)]) rfl ?_
  refine r_iconst X 1 d_AL_add_9ea2d_23 (by decide) ?_
  exact r_zret (post := fun r ad' c' => 1 = r ∧ (∀ j, j ≠ k → ad' j = ad j) ∧ ∃ e9, va_up (va_up c n (some (.inr (12, [.int 1, .ref (ad' k), .int 1])))) k (some e9) = c') X hr hlk (by decide) d_AL_add_9ea2d_24 (by decide) (by decide) ⟨rfl, hb9, e9, rfl⟩
theorem ca_MLor : Cond.castable (R_MLor, T_MLor, 10).1 "java/lang/Object" ∈ lw_tbl := List.mem_append_right _ (List.mem_of_getElem? (i := 1382) (by decide +kernel))
theorem ca_MRoad : Cond.castable (R_MRoad, T_MRoad, 19).1 "java/lang/Object" ∈ lw_tbl := List.mem_append_right _ (List.mem_of_getElem? (i := 1381) (by decide +kernel))
set_option maxRecDepth 100000 in
set_option maxHeartbeats 4000000 in
/-- MLor_init -/
theorem c_MLor_init (l : Launch) (D : va_G) (cy : Nat → ClassId) (ad : Nat → Nat) (c : rC) (n ka : Nat) (hc : c n = some (.inr (10, [.int 0, .int 0, .int 0, .int 0, .int 0, .int 0, .int 0, .int 0, .int 0, .null]))) (hka : c ka = none) (hnnka : n ≠ ka) (z : Int32) (hz : z = 0 ∨ z = 1) : rMv l D cls (TY cy) NW y_MLor_init (Cond.code y_MLor_init b_MLor_init 2 none :: W0) { frames := 1, cells := 1, slots := 8, locals := 20 } [.ref (ad n), .int z] ad c (fun ad' c' => (∀ j, j ≠ ka → ad' j = ad j) ∧ (∀ j, j ≠ n → j ≠ ka → c' j = c j) ∧ ∃ vs, c' n = some (.inr (10, vs))) := by
  intro sz
  refine r_of (own := R_MLor) rfl (by decide +kernel) (Nat.le_of_ble_eq_true rfl) ?_
  intro p e s m below meth cd hsz X hr hlk hN hin
  refine r_lv [0, 1] [(0, .ref (ad n)), (1, .int z)] rfl ?_
  refine r_aload_n X 0 d_MLor_init_0 rfl rfl ?_
  refine r_obj X m_MLor_3 s_obj cd_obj ⟨by decide, by decide⟩ (Nat.le_of_ble_eq_true rfl) d_MLor_init_1 ?_
  refine r_aload_n X 0 d_MLor_init_4 rfl rfl ?_
  refine r_iconst X (-1) d_MLor_init_5 (by decide) ?_
  refine r_put X k_MLor 2 (by decide) f_MLor_9 rfl hc rfl rfl rfl (Nat.le_of_ble_eq_true rfl) [.int 0, .int 0, .int (-1), .int 0, .int 0, .int 0, .int 0, .int 0, .int 0, .null] rfl (va_up c n (some (.inr (10, [.int 0, .int 0, .int (-1), .int 0, .int 0, .int 0, .int 0, .int 0, .int 0, .null])))) rfl d_MLor_init_6 ?_
  refine r_aload_n X 0 d_MLor_init_9 rfl rfl ?_
  refine r_iconst X 2 d_MLor_init_10 (by decide) ?_
  refine r_put X k_MLor 5 (by decide) f_MLor_15 rfl rup_self rfl rfl rfl (Nat.le_of_ble_eq_true rfl) [.int 0, .int 0, .int (-1), .int 0, .int 0, .int 2, .int 0, .int 0, .int 0, .null] rfl (va_up c n (some (.inr (10, [.int 0, .int 0, .int (-1), .int 0, .int 0, .int 2, .int 0, .int 0, .int 0, .null])))) rup_up d_MLor_init_11 ?_
  refine r_aload_n X 0 d_MLor_init_14 rfl rfl ?_
  refine r_bipush X 8 d_MLor_init_15 (by decide) ?_
  refine r_newa (ty := .int) (N := 8) X 0 rfl rfl rfl (fun q9 => q9) a_int (by decide) (by decide) (by decide) (Nat.le_of_ble_eq_true rfl) (Nat.le_of_ble_eq_true rfl) d_MLor_init_17 ka (rup_ne (by omega) hka) (fun a9 => [(0, .ref (a9 n)), (1, .int z)]) (fun a9 => [.ref (a9 n)]) (fun a9 h9 => by rw [h9 n (by omega)]) (fun a9 h9 => by rw [h9 n (by omega)]) (fun a_1 ha_1 => ?_)
  refine r_putF X k_MLor 9 (by decide) f_MLor_18 rfl (rup_ne (by omega) (rup_self)) rfl rfl hin rfl rfl (Nat.le_of_ble_eq_true rfl) [.int 0, .int 0, .int (-1), .int 0, .int 0, .int 2, .int 0, .int 0, .int 0, .ref (a_1 ka)] rfl (va_up (va_up c n (some (.inr (10, [.int 0, .int 0, .int (-1), .int 0, .int 0, .int 2, .int 0, .int 0, .int 0, .ref (a_1 ka)])))) ka (some (.inl (cy 0, 8, .inl (fun _ => 0))))) (rup_in (by omega) rup_up rfl) d_MLor_init_19 ?_
  refine r_aload_n X 0 d_MLor_init_22 rfl rfl ?_
  refine r_iload_n X 1 d_MLor_init_23 rfl rfl ?_
  refine r_putF X k_MLor 0 (by decide) f_MLor_22 rfl (rup_ne (by omega) (rup_self)) rfl rfl hin (nb_bit hz) (fb_bit hz) (Nat.le_of_ble_eq_true rfl) [.int z, .int 0, .int (-1), .int 0, .int 0, .int 2, .int 0, .int 0, .int 0, .ref (a_1 ka)] rfl (va_up (va_up c n (some (.inr (10, [.int z, .int 0, .int (-1), .int 0, .int 0, .int 2, .int 0, .int 0, .int 0, .ref (a_1 ka)])))) ka (some (.inl (cy 0, 8, .inl (fun _ => 0))))) (rup_in (by omega) rup_up rfl) d_MLor_init_24 ?_
  exact r_vret (post := fun ad' c' => (∀ j, j ≠ ka → ad' j = ad j) ∧ (∀ j, j ≠ n → j ≠ ka → c' j = c j) ∧ ∃ vs, c' n = some (.inr (10, vs))) X hr hlk d_MLor_init_27 (by decide) (by decide) ⟨(fun j hka9 => (ha_1 j (by assumption))), (fun j hj9 hka9 => (rup_ne (by omega) (rup_ne (by omega) rfl))), _, rup_ne (by omega) (rup_self)⟩
set_option maxRecDepth 100000 in
set_option maxHeartbeats 4000000 in
/-- MRoad_init -/
theorem c_MRoad_init (l : Launch) (D : va_G) (cy : Nat → ClassId) (ad : Nat → Nat) (c : rC) (n ka kb : Nat) (hc : c n = some (.inr (9, [.int 0, .int 0, .int 0, .int 0, .int 0, .int 0, .int 0, .int 0, .int 0, .int 0, .int 0, .int 0, .int 0, .int 0, .int 0, .int 0, .int 0, .null, .null]))) (hka : c ka = none) (hkb : c kb = none) (hnnka : n ≠ ka) (hnnkb : n ≠ kb) (hnkakb : ka ≠ kb) (a0 a1 a2 a3 a4 a5 z : Int32) (hz : z = 0 ∨ z = 1) : rMv l D cls (TY cy) NW y_MRoad_init (Cond.code y_MRoad_init b_MRoad_init 8 none :: W0) { frames := 1, cells := 2, slots := 400, locals := 20 } [.ref (ad n), .int a0, .int a1, .int a2, .int a3, .int a4, .int a5, .int z] ad c (fun ad' c' => (∀ j, j ≠ ka → j ≠ kb → ad' j = ad j) ∧ (∀ j, j ≠ n → j ≠ ka → j ≠ kb → c' j = c j) ∧ ∃ vs, c' n = some (.inr (9, vs))) := by
  intro sz
  refine r_of (own := R_MRoad) rfl (by decide +kernel) (Nat.le_of_ble_eq_true rfl) ?_
  intro p e s m below meth cd hsz X hr hlk hN hin
  refine r_lv [0, 1, 2, 3, 4, 5, 6, 7] [(0, .ref (ad n)), (1, .int a0), (2, .int a1), (3, .int a2), (4, .int a3), (5, .int a4), (6, .int a5), (7, .int z)] rfl ?_
  refine r_aload_n X 0 d_MRoad_init_0 rfl rfl ?_
  refine r_obj X m_MRoad_3 s_obj cd_obj ⟨by decide, by decide⟩ (Nat.le_of_ble_eq_true rfl) d_MRoad_init_1 ?_
  refine r_aload_n X 0 d_MRoad_init_4 rfl rfl ?_
  refine r_iconst X 3 d_MRoad_init_5 (by decide) ?_
  refine r_put X k_MRoad 7 (by decide) f_MRoad_9 rfl hc rfl rfl rfl (Nat.le_of_ble_eq_true rfl) [.int 0, .int 0, .int 0, .int 0, .int 0, .int 0, .int 0, .int 3, .int 0, .int 0, .int 0, .int 0, .int 0, .int 0, .int 0, .int 0, .int 0, .null, .null] rfl (va_up c n (some (.inr (9, [.int 0, .int 0, .int 0, .int 0, .int 0, .int 0, .int 0, .int 3, .int 0, .int 0, .int 0, .int 0, .int 0, .int 0, .int 0, .int 0, .int 0, .null, .null])))) rfl d_MRoad_init_6 ?_
  refine r_aload_n X 0 d_MRoad_init_9 rfl rfl ?_
  refine r_iconst X (-1) d_MRoad_init_10 (by decide) ?_
  refine r_put X k_MRoad 13 (by decide) f_MRoad_15 rfl rup_self rfl rfl rfl (Nat.le_of_ble_eq_true rfl) [.int 0, .int 0, .int 0, .int 0, .int 0, .int 0, .int 0, .int 3, .int 0, .int 0, .int 0, .int 0, .int 0, .int (-1), .int 0, .int 0, .int 0, .null, .null] rfl (va_up c n (some (.inr (9, [.int 0, .int 0, .int 0, .int 0, .int 0, .int 0, .int 0, .int 3, .int 0, .int 0, .int 0, .int 0, .int 0, .int (-1), .int 0, .int 0, .int 0, .null, .null])))) rup_up d_MRoad_init_11 ?_
  refine r_aload_n X 0 d_MRoad_init_14 rfl rfl ?_
  refine r_sipush X 200 d_MRoad_init_15 (by decide) ?_
  refine r_newa (ty := .boolean) (N := 200) X 1 rfl rfl rfl (fun q9 => q9) a_boolean (by decide) (by decide) (by decide) (Nat.le_of_ble_eq_true rfl) (Nat.le_of_ble_eq_true rfl) d_MRoad_init_18 ka (rup_ne (by omega) hka) (fun a9 => [(0, .ref (a9 n)), (1, .int a0), (2, .int a1), (3, .int a2), (4, .int a3), (5, .int a4), (6, .int a5), (7, .int z)]) (fun a9 => [.ref (a9 n)]) (fun a9 h9 => by rw [h9 n (by omega)]) (fun a9 h9 => by rw [h9 n (by omega)]) (fun a_1 ha_1 => ?_)
  refine r_putF X k_MRoad 17 (by decide) f_MRoad_18 rfl (rup_ne (by omega) (rup_self)) rfl rfl hin rfl rfl (Nat.le_of_ble_eq_true rfl) [.int 0, .int 0, .int 0, .int 0, .int 0, .int 0, .int 0, .int 3, .int 0, .int 0, .int 0, .int 0, .int 0, .int (-1), .int 0, .int 0, .int 0, .ref (a_1 ka), .null] rfl (va_up (va_up c n (some (.inr (9, [.int 0, .int 0, .int 0, .int 0, .int 0, .int 0, .int 0, .int 3, .int 0, .int 0, .int 0, .int 0, .int 0, .int (-1), .int 0, .int 0, .int 0, .ref (a_1 ka), .null])))) ka (some (.inl (cy 1, 200, .inl (fun _ => 0))))) (rup_in (by omega) rup_up rfl) d_MRoad_init_20 ?_
  refine r_aload_n X 0 d_MRoad_init_23 rfl rfl ?_
  refine r_sipush X 200 d_MRoad_init_24 (by decide) ?_
  refine r_newa (ty := .boolean) (N := 200) X 1 rfl rfl rfl (fun q9 => q9) a_boolean (by decide) (by decide) (by decide) (Nat.le_of_ble_eq_true rfl) (Nat.le_of_ble_eq_true rfl) d_MRoad_init_27 kb (rup_ne (by omega) (rup_ne (by omega) hkb)) (fun a9 => [(0, .ref (a9 n)), (1, .int a0), (2, .int a1), (3, .int a2), (4, .int a3), (5, .int a4), (6, .int a5), (7, .int z)]) (fun a9 => [.ref (a9 n)]) (fun a9 h9 => by rw [h9 n (by omega)]) (fun a9 h9 => by rw [h9 n (by omega)]) (fun a_2 ha_2 => ?_)
  refine r_c (va_up (va_up (va_up c n (some (.inr (9, [.int 0, .int 0, .int 0, .int 0, .int 0, .int 0, .int 0, .int 3, .int 0, .int 0, .int 0, .int 0, .int 0, .int (-1), .int 0, .int 0, .int 0, .ref (a_2 ka), .null])))) ka (some (.inl (cy 1, 200, .inl (fun _ => 0))))) kb (some (.inl (cy 1, 200, .inl (fun _ => 0))))) (by rw [ha_2 ka (by omega)]) ?_
  refine r_putF X k_MRoad 18 (by decide) f_MRoad_22 rfl (rup_ne (by omega) (rup_ne (by omega) (rup_self))) rfl rfl hin rfl rfl (Nat.le_of_ble_eq_true rfl) [.int 0, .int 0, .int 0, .int 0, .int 0, .int 0, .int 0, .int 3, .int 0, .int 0, .int 0, .int 0, .int 0, .int (-1), .int 0, .int 0, .int 0, .ref (a_2 ka), .ref (a_2 kb)] rfl (va_up (va_up (va_up c n (some (.inr (9, [.int 0, .int 0, .int 0, .int 0, .int 0, .int 0, .int 0, .int 3, .int 0, .int 0, .int 0, .int 0, .int 0, .int (-1), .int 0, .int 0, .int 0, .ref (a_2 ka), .ref (a_2 kb)])))) ka (some (.inl (cy 1, 200, .inl (fun _ => 0))))) kb (some (.inl (cy 1, 200, .inl (fun _ => 0))))) (rup_in (by omega) (rup_in (by omega) rup_up rfl) rfl) d_MRoad_init_29 ?_
  refine r_aload_n X 0 d_MRoad_init_32 rfl rfl ?_
  refine r_iload_n X 1 d_MRoad_init_33 rfl rfl ?_
  refine r_putF X k_MRoad 0 (by decide) f_MRoad_25 rfl (rup_ne (by omega) (rup_ne (by omega) (rup_self))) rfl rfl hin rfl rfl (Nat.le_of_ble_eq_true rfl) [.int a0, .int 0, .int 0, .int 0, .int 0, .int 0, .int 0, .int 3, .int 0, .int 0, .int 0, .int 0, .int 0, .int (-1), .int 0, .int 0, .int 0, .ref (a_2 ka), .ref (a_2 kb)] rfl (va_up (va_up (va_up c n (some (.inr (9, [.int a0, .int 0, .int 0, .int 0, .int 0, .int 0, .int 0, .int 3, .int 0, .int 0, .int 0, .int 0, .int 0, .int (-1), .int 0, .int 0, .int 0, .ref (a_2 ka), .ref (a_2 kb)])))) ka (some (.inl (cy 1, 200, .inl (fun _ => 0))))) kb (some (.inl (cy 1, 200, .inl (fun _ => 0))))) (rup_in (by omega) (rup_in (by omega) rup_up rfl) rfl) d_MRoad_init_34 ?_
  refine r_aload_n X 0 d_MRoad_init_37 rfl rfl ?_
  refine r_iload_n X 2 d_MRoad_init_38 rfl rfl ?_
  refine r_putF X k_MRoad 1 (by decide) f_MRoad_28 rfl (rup_ne (by omega) (rup_ne (by omega) (rup_self))) rfl rfl hin rfl rfl (Nat.le_of_ble_eq_true rfl) [.int a0, .int a1, .int 0, .int 0, .int 0, .int 0, .int 0, .int 3, .int 0, .int 0, .int 0, .int 0, .int 0, .int (-1), .int 0, .int 0, .int 0, .ref (a_2 ka), .ref (a_2 kb)] rfl (va_up (va_up (va_up c n (some (.inr (9, [.int a0, .int a1, .int 0, .int 0, .int 0, .int 0, .int 0, .int 3, .int 0, .int 0, .int 0, .int 0, .int 0, .int (-1), .int 0, .int 0, .int 0, .ref (a_2 ka), .ref (a_2 kb)])))) ka (some (.inl (cy 1, 200, .inl (fun _ => 0))))) kb (some (.inl (cy 1, 200, .inl (fun _ => 0))))) (rup_in (by omega) (rup_in (by omega) rup_up rfl) rfl) d_MRoad_init_39 ?_
  refine r_aload_n X 0 d_MRoad_init_42 rfl rfl ?_
  refine r_iload_n X 3 d_MRoad_init_43 rfl rfl ?_
  refine r_putF X k_MRoad 2 (by decide) f_MRoad_31 rfl (rup_ne (by omega) (rup_ne (by omega) (rup_self))) rfl rfl hin rfl rfl (Nat.le_of_ble_eq_true rfl) [.int a0, .int a1, .int a2, .int 0, .int 0, .int 0, .int 0, .int 3, .int 0, .int 0, .int 0, .int 0, .int 0, .int (-1), .int 0, .int 0, .int 0, .ref (a_2 ka), .ref (a_2 kb)] rfl (va_up (va_up (va_up c n (some (.inr (9, [.int a0, .int a1, .int a2, .int 0, .int 0, .int 0, .int 0, .int 3, .int 0, .int 0, .int 0, .int 0, .int 0, .int (-1), .int 0, .int 0, .int 0, .ref (a_2 ka), .ref (a_2 kb)])))) ka (some (.inl (cy 1, 200, .inl (fun _ => 0))))) kb (some (.inl (cy 1, 200, .inl (fun _ => 0))))) (rup_in (by omega) (rup_in (by omega) rup_up rfl) rfl) d_MRoad_init_44 ?_
  refine r_aload_n X 0 d_MRoad_init_47 rfl rfl ?_
  refine r_iload X 4 d_MRoad_init_48 rfl ?_
  refine r_putF X k_MRoad 3 (by decide) f_MRoad_34 rfl (rup_ne (by omega) (rup_ne (by omega) (rup_self))) rfl rfl hin rfl rfl (Nat.le_of_ble_eq_true rfl) [.int a0, .int a1, .int a2, .int a3, .int 0, .int 0, .int 0, .int 3, .int 0, .int 0, .int 0, .int 0, .int 0, .int (-1), .int 0, .int 0, .int 0, .ref (a_2 ka), .ref (a_2 kb)] rfl (va_up (va_up (va_up c n (some (.inr (9, [.int a0, .int a1, .int a2, .int a3, .int 0, .int 0, .int 0, .int 3, .int 0, .int 0, .int 0, .int 0, .int 0, .int (-1), .int 0, .int 0, .int 0, .ref (a_2 ka), .ref (a_2 kb)])))) ka (some (.inl (cy 1, 200, .inl (fun _ => 0))))) kb (some (.inl (cy 1, 200, .inl (fun _ => 0))))) (rup_in (by omega) (rup_in (by omega) rup_up rfl) rfl) d_MRoad_init_50 ?_
  refine r_aload_n X 0 d_MRoad_init_53 rfl rfl ?_
  refine r_iload X 5 d_MRoad_init_54 rfl ?_
  refine r_putF X k_MRoad 4 (by decide) f_MRoad_37 rfl (rup_ne (by omega) (rup_ne (by omega) (rup_self))) rfl rfl hin rfl rfl (Nat.le_of_ble_eq_true rfl) [.int a0, .int a1, .int a2, .int a3, .int a4, .int 0, .int 0, .int 3, .int 0, .int 0, .int 0, .int 0, .int 0, .int (-1), .int 0, .int 0, .int 0, .ref (a_2 ka), .ref (a_2 kb)] rfl (va_up (va_up (va_up c n (some (.inr (9, [.int a0, .int a1, .int a2, .int a3, .int a4, .int 0, .int 0, .int 3, .int 0, .int 0, .int 0, .int 0, .int 0, .int (-1), .int 0, .int 0, .int 0, .ref (a_2 ka), .ref (a_2 kb)])))) ka (some (.inl (cy 1, 200, .inl (fun _ => 0))))) kb (some (.inl (cy 1, 200, .inl (fun _ => 0))))) (rup_in (by omega) (rup_in (by omega) rup_up rfl) rfl) d_MRoad_init_56 ?_
  refine r_aload_n X 0 d_MRoad_init_59 rfl rfl ?_
  refine r_iload X 6 d_MRoad_init_60 rfl ?_
  refine r_putF X k_MRoad 5 (by decide) f_MRoad_40 rfl (rup_ne (by omega) (rup_ne (by omega) (rup_self))) rfl rfl hin rfl rfl (Nat.le_of_ble_eq_true rfl) [.int a0, .int a1, .int a2, .int a3, .int a4, .int a5, .int 0, .int 3, .int 0, .int 0, .int 0, .int 0, .int 0, .int (-1), .int 0, .int 0, .int 0, .ref (a_2 ka), .ref (a_2 kb)] rfl (va_up (va_up (va_up c n (some (.inr (9, [.int a0, .int a1, .int a2, .int a3, .int a4, .int a5, .int 0, .int 3, .int 0, .int 0, .int 0, .int 0, .int 0, .int (-1), .int 0, .int 0, .int 0, .ref (a_2 ka), .ref (a_2 kb)])))) ka (some (.inl (cy 1, 200, .inl (fun _ => 0))))) kb (some (.inl (cy 1, 200, .inl (fun _ => 0))))) (rup_in (by omega) (rup_in (by omega) rup_up rfl) rfl) d_MRoad_init_62 ?_
  refine r_aload_n X 0 d_MRoad_init_65 rfl rfl ?_
  refine r_iload X 7 d_MRoad_init_66 rfl ?_
  refine r_putF X k_MRoad 6 (by decide) f_MRoad_43 rfl (rup_ne (by omega) (rup_ne (by omega) (rup_self))) rfl rfl hin (nb_bit hz) (fb_bit hz) (Nat.le_of_ble_eq_true rfl) [.int a0, .int a1, .int a2, .int a3, .int a4, .int a5, .int z, .int 3, .int 0, .int 0, .int 0, .int 0, .int 0, .int (-1), .int 0, .int 0, .int 0, .ref (a_2 ka), .ref (a_2 kb)] rfl (va_up (va_up (va_up c n (some (.inr (9, [.int a0, .int a1, .int a2, .int a3, .int a4, .int a5, .int z, .int 3, .int 0, .int 0, .int 0, .int 0, .int 0, .int (-1), .int 0, .int 0, .int 0, .ref (a_2 ka), .ref (a_2 kb)])))) ka (some (.inl (cy 1, 200, .inl (fun _ => 0))))) kb (some (.inl (cy 1, 200, .inl (fun _ => 0))))) (rup_in (by omega) (rup_in (by omega) rup_up rfl) rfl) d_MRoad_init_68 ?_
  exact r_vret (post := fun ad' c' => (∀ j, j ≠ ka → j ≠ kb → ad' j = ad j) ∧ (∀ j, j ≠ n → j ≠ ka → j ≠ kb → c' j = c j) ∧ ∃ vs, c' n = some (.inr (9, vs))) X hr hlk d_MRoad_init_71 (by decide) (by decide) ⟨(fun j hka9 hkb9 => ((ha_2 j (by assumption)).trans (ha_1 j (by assumption)))), (fun j hj9 hka9 hkb9 => (rup_ne (by omega) (rup_ne (by omega) (rup_ne (by omega) rfl)))), _, rup_ne (by omega) (rup_ne (by omega) (rup_self))⟩
set_option maxRecDepth 100000 in
set_option maxHeartbeats 4000000 in
theorem c_M_lorry (l : Launch) (D : va_G) (cy : Nat → ClassId) (t0 : Nat) (ad : Nat → Nat) (c : rC) (f1 f2 : Nat → Option Nat) (hm : mC t0 f1 f2 cy ad c) (p0 : Int32) (hz : p0 = 0 ∨ p0 = 1) : xMi l D cls (TY cy) NW t0 y_M_lorry (Cond.code y_M_lorry b_M_lorry 2 rt_M_lorry :: W0) { frames := 5, cells := 3, slots := 28, locals := 108 } [.ref (ad 128), .int p0] ad c (fun r ad' c' => ((kF_lorry p0) = 0 → r = 0) ∧ (∀ j, j < 160 → ad' j = ad j) ∧ (∀ j, j < 128 → c' j = c j) ∧ ∃ fs, c' 128 = some (.inr (11, .int (kF_lorry p0) :: fs))) := by
  intro sz
  refine x_of (own := R_M) rfl (by decide +kernel) (Nat.le_of_ble_eq_true rfl) ?_
  intro p e s m below meth cd hsz X hr hlk hN hE hin
  refine r_lv [0, 1] [(0, .ref (ad 128)), (1, .int p0)] rfl ?_
  refine r_aload_n X 0 d_M_lorry_0 rfl rfl ?_
  refine r_iconst X 0 d_M_lorry_1 (by decide) ?_
  refine r_put X k_M 0 (by decide) f_M_38 rfl (hm.1) rfl rfl rfl (Nat.le_of_ble_eq_true rfl) [.int 0, .ref (ad 129), .ref (ad 130), .ref (ad 131), .ref (ad 152), .ref (ad 158), .int 0, .int 0, .int 0, .int 100, .int 0, .int 0, .int 0, .int 0, .int 0, .int 0] rfl (va_up c 128 (some (.inr (11, [.int 0, .ref (ad 129), .ref (ad 130), .ref (ad 131), .ref (ad 152), .ref (ad 158), .int 0, .int 0, .int 0, .int 100, .int 0, .int 0, .int 0, .int 0, .int 0, .int 0])))) rfl d_M_lorry_2 ?_
  refine r_c c (rup_id hm.1) ?_
  refine r_aload_n X 0 d_M_lorry_5 rfl rfl ?_
  refine r_get X k_M 2 (by decide) f_M_16 rfl (hm.1) rfl d_M_lorry_6 ?_
  refine x_Fi X W0_good hN hE (c_AL_size_8abf5 l D cy t0 ad (c) 130 (.int 0) (.ref t0) 0 (hm.2.2.1)) yF_size (by decide +kernel) m9_M_124 (hm.2.2.1) k_AL.2.1 rfl rfl rfl ⟨by decide, by decide⟩ (Nat.le_of_ble_eq_true rfl) ⟨by decide, by decide⟩ d_M_lorry_9 (fun r9 ad9 c9 hp9 => ?_)
  obtain ⟨rfl, rfl, rfl⟩ := hp9
  refine r_iconst X 3 d_M_lorry_14 (by decide) ?_
  refine r_icmp_ne X 24 d_M_lorry_15 (by decide) (fun _ => ?_) (fun h9 => absurd h9 (by decide))
  refine r_aload_n X 0 d_M_lorry_24 rfl rfl ?_
  refine r_get X k_M 2 (by decide) f_M_16 rfl (hm.1) rfl d_M_lorry_25 ?_
  refine r_new X k_MLor c_M_42 n_MLor i_MLor (fs := [.int 0, .int 0, .int 0, .int 0, .int 0, .int 0, .int 0, .int 0, .int 0, .null]) (by intro j hj; obtain rfl | rfl | rfl | rfl | rfl | rfl | rfl | rfl | rfl | rfl : j = 0 ∨ j = 1 ∨ j = 2 ∨ j = 3 ∨ j = 4 ∨ j = 5 ∨ j = 6 ∨ j = 7 ∨ j = 8 ∨ j = 9 := (by omega); all_goals rfl) (Nat.le_of_ble_eq_true rfl) (Nat.le_of_ble_eq_true rfl) d_M_lorry_28 160 (hm.2.2.2.2.2.2.2.2.2.2 160 (by decide)) (fun a9 => [(0, .ref (a9 128)), (1, .int p0)]) (fun a9 => [.ref (a9 130)]) (fun a9 h9 => by rw [h9 128 (by decide)]) (fun a9 h9 => by rw [h9 130 (by decide)]) (fun a_1 ha_1 => ?_)
  have hb_1_128 : c 128 = some (.inr (11, [.int 0, .ref (a_1 129), .ref (a_1 130), .ref (a_1 131), .ref (a_1 152), .ref (a_1 158), .int 0, .int 0, .int 0, .int 100, .int 0, .int 0, .int 0, .int 0, .int 0, .int 0])) := by rw [ha_1 129 (by decide), ha_1 130 (by decide), ha_1 131 (by decide), ha_1 152 (by decide), ha_1 158 (by decide)]; exact (hm.1)
  have he_1_131 : f1 0 = some (a_1 132) := by rw [ha_1 132 (by decide)]; exact hm.2.2.2.2.2.2.2.2.1
  have he_1_152 : f2 0 = some (a_1 153) := by rw [ha_1 153 (by decide)]; exact hm.2.2.2.2.2.2.2.2.2.1
  refine r_dup X d_M_lorry_31 rfl ?_
  refine r_iload_n X 1 d_M_lorry_32 rfl rfl ?_
  refine r_Iv X W0_good hN (c_MLor_init l D cy a_1 (va_up c 160 (some (.inr (10, [.int 0, .int 0, .int 0, .int 0, .int 0, .int 0, .int 0, .int 0, .int 0, .null])))) 160 161 rup_self (rup_ne (by decide) (hm.2.2.2.2.2.2.2.2.2.2 161 (by decide))) (by decide) p0 hz) yi_MLor_init m_M_223 rfl rfl ⟨by decide, by decide⟩ (Nat.le_of_ble_eq_true rfl) ⟨by decide, by decide⟩ d_M_lorry_33 (fun ad9 c9 hp9 => ?_)
  obtain ⟨hb8, hc8, vs8, hv8⟩ := hp9
  have h1288 : c9 128 = some (.inr (11, [.int 0, .ref (ad9 129), .ref (ad9 130), .ref (ad9 131), .ref (ad9 152), .ref (ad9 158), .int 0, .int 0, .int 0, .int 100, .int 0, .int 0, .int 0, .int 0, .int 0, .int 0])) := by rw [hc8 128 (by decide) (by decide), (hb8 129 (by decide)), (hb8 130 (by decide)), (hb8 131 (by decide)), (hb8 152 (by decide)), (hb8 158 (by decide))]; exact rup_ne (by omega) (hb_1_128)
  have h1298 : c9 129 = some (.inr (12, [.int 0, .ref t0, .int 0])) := by rw [hc8 129 (by decide) (by decide)]; exact rup_ne (by omega) ((hm.2.1))
  have h1308 : c9 130 = some (.inr (12, [.int 0, .ref t0, .int 0])) := by rw [hc8 130 (by decide) (by decide)]; exact rup_ne (by omega) ((hm.2.2.1))
  have n1628 : c9 162 = none := by rw [hc8 162 (by decide) (by decide)]; exact (rup_ne (by decide) (hm.2.2.2.2.2.2.2.2.2.2 162 (by decide)))
  have hlo8 : ∀ j, j < 128 → c9 j = c j := fun j hj => (hc8 j (by omega) (by omega)).trans (rup_ne (by omega) (rfl))
  have he8_131 : f1 0 = some (ad9 132) := by rw [(hb8 132 (by decide))]; exact he_1_131
  have he8_152 : f2 0 = some (ad9 153) := by rw [(hb8 153 (by decide))]; exact he_1_152
  refine r_show (c9) [(0, .ref (ad9 128)), (1, .int p0)] [.ref (ad9 160), .ref (ad9 130)] rfl (by rw [(hb8 128 (by decide))]) (by rw [(hb8 160 (by decide)), (hb8 130 (by decide))]) ?_
  refine x_Fi X W0_good hN hE (c_AL_add_9ea2d l D cy t0 ad9 (c9) 130 160 162 10 _ _ (by decide) (by decide) (by decide) h1308 hv8 k_MLor.2.1 ca_MLor n1628) yF_add (by decide +kernel) m9_M_181 h1308 k_AL.2.1 rfl rfl rfl ⟨by decide, by decide⟩ (Nat.le_of_ble_eq_true rfl) ⟨by decide, by decide⟩ d_M_lorry_36 (fun r9 ad9 c9 hp9 => ?_)
  obtain ⟨rfl, hb9, e9, rfl⟩ := hp9
  refine r_show (va_up (va_up c9 130 (some (.inr (12, [.int 1, .ref (ad9 162), .int 1])))) 162 (some (e9))) [(0, .ref (ad9 128)), (1, .int p0)] [.int 1] rfl (by rw [hb9 128 (by decide)]) rfl ?_
  have hb_2_128 : c9 128 = some (.inr (11, [.int 0, .ref (ad9 129), .ref (ad9 130), .ref (ad9 131), .ref (ad9 152), .ref (ad9 158), .int 0, .int 0, .int 0, .int 100, .int 0, .int 0, .int 0, .int 0, .int 0, .int 0])) := by rw [hb9 129 (by decide), hb9 130 (by decide), hb9 131 (by decide), hb9 152 (by decide), hb9 158 (by decide)]; exact h1288
  have he_2_131 : f1 0 = some (ad9 132) := by rw [hb9 132 (by decide)]; exact he8_131
  have he_2_152 : f2 0 = some (ad9 153) := by rw [hb9 153 (by decide)]; exact he8_152
  refine r_pop X d_M_lorry_41 rfl ?_
  refine r_aload_n X 0 d_M_lorry_42 rfl rfl ?_
  refine r_get X k_M 2 (by decide) f_M_16 rfl (rup_ne (by omega) (rup_ne (by omega) (hb_2_128))) rfl d_M_lorry_43 ?_
  refine x_Fi X W0_good hN hE (c_AL_size_8abf5 l D cy t0 ad9 (va_up (va_up c9 130 (some (.inr (12, [.int 1, .ref (ad9 162), .int 1])))) 162 (some (e9))) 130 (.int 1) (.ref (ad9 162)) 1 (rup_ne (by omega) (rup_self))) yF_size (by decide +kernel) m9_M_124 (rup_ne (by omega) (rup_self)) k_AL.2.1 rfl rfl rfl ⟨by decide, by decide⟩ (Nat.le_of_ble_eq_true rfl) ⟨by decide, by decide⟩ d_M_lorry_46 (fun r9 ad9 c9 hp9 => ?_)
  obtain ⟨rfl, rfl, rfl⟩ := hp9
  refine r_iconst X 1 d_M_lorry_51 (by decide) ?_
  refine r_isub X d_M_lorry_52 ?_
  refine r_top (y := 0) (by decide) ?_
  have hk_2 : (kF_lorry p0) = 0 := rfl
  exact r_iret (post := fun r ad' c' => ((kF_lorry p0) = 0 → r = 0) ∧ (∀ j, j < 160 → ad' j = ad j) ∧ (∀ j, j < 128 → c' j = c j) ∧ ∃ fs, c' 128 = some (.inr (11, .int (kF_lorry p0) :: fs))) X hr hlk d_M_lorry_53 (by decide) (by decide) ⟨(fun _ => rfl), (fun j hj => ((hb9 j (by omega)).trans ((hb8 j (by omega)).trans (ha_1 j (by omega))))), (fun j hj => (rup_ne (by omega) (rup_ne (by omega) (hlo8 j hj)))), _, (by rw [hk_2]; exact rup_ne (by omega) (rup_ne (by omega) (hb_2_128)))⟩
set_option maxRecDepth 100000 in
set_option maxHeartbeats 4000000 in
theorem c_M_road (l : Launch) (D : va_G) (cy : Nat → ClassId) (t0 : Nat) (ad : Nat → Nat) (c : rC) (f1 f2 : Nat → Option Nat) (hm : mC t0 f1 f2 cy ad c) (p0 p1 p2 p3 p4 p5 p6 : Int32) (hz : p6 = 0 ∨ p6 = 1) : xMi l D cls (TY cy) NW t0 y_M_road (Cond.code y_M_road b_M_road 8 rt_M_road :: W0) { frames := 5, cells := 4, slots := 440, locals := 108 } [.ref (ad 128), .int p0, .int p1, .int p2, .int p3, .int p4, .int p5, .int p6] ad c (fun r ad' c' => ((kF_road p0 p1 p2 p3 p4 p5 p6) = 0 → r = 0) ∧ (∀ j, j < 160 → ad' j = ad j) ∧ (∀ j, j < 128 → c' j = c j) ∧ ∃ fs, c' 128 = some (.inr (11, .int (kF_road p0 p1 p2 p3 p4 p5 p6) :: fs))) := by
  intro sz
  refine x_of (own := R_M) rfl (by decide +kernel) (Nat.le_of_ble_eq_true rfl) ?_
  intro p e s m below meth cd hsz X hr hlk hN hE hin
  refine r_lv [0, 1, 2, 3, 4, 5, 6, 7] [(0, .ref (ad 128)), (1, .int p0), (2, .int p1), (3, .int p2), (4, .int p3), (5, .int p4), (6, .int p5), (7, .int p6)] rfl ?_
  refine r_aload_n X 0 d_M_road_0 rfl rfl ?_
  refine r_iconst X 0 d_M_road_1 (by decide) ?_
  refine r_put X k_M 0 (by decide) f_M_38 rfl (hm.1) rfl rfl rfl (Nat.le_of_ble_eq_true rfl) [.int 0, .ref (ad 129), .ref (ad 130), .ref (ad 131), .ref (ad 152), .ref (ad 158), .int 0, .int 0, .int 0, .int 100, .int 0, .int 0, .int 0, .int 0, .int 0, .int 0] rfl (va_up c 128 (some (.inr (11, [.int 0, .ref (ad 129), .ref (ad 130), .ref (ad 131), .ref (ad 152), .ref (ad 158), .int 0, .int 0, .int 0, .int 100, .int 0, .int 0, .int 0, .int 0, .int 0, .int 0])))) rfl d_M_road_2 ?_
  refine r_c c (rup_id hm.1) ?_
  refine r_iload_n X 1 d_M_road_5 rfl rfl ?_
  refine r_Si X W0_good hN (c_M_isNode l D cy ad (c) p0) ys_M_isNode m_M_171 rfl rfl ⟨by decide, by decide⟩ (Nat.le_of_ble_eq_true rfl) ⟨by decide, by decide⟩ d_M_road_6 (fun r9 ad9 c9 hp9 => ?_)
  obtain ⟨rfl, rfl, rfl⟩ := hp9
  rcases inF_or p0 0 6 with hq_1 | hq_1
  · refine r_top (y := 1) hq_1 ?_
    refine r_if_eq X 19 d_M_road_9 (by decide) (fun h9 => absurd h9 (by decide)) (fun _ => ?_)
    refine r_iload_n X 2 d_M_road_12 rfl rfl ?_
    refine r_Si X W0_good hN (c_M_isNode l D cy ad (c) p1) ys_M_isNode m_M_171 rfl rfl ⟨by decide, by decide⟩ (Nat.le_of_ble_eq_true rfl) ⟨by decide, by decide⟩ d_M_road_13 (fun r9 ad9 c9 hp9 => ?_)
    obtain ⟨rfl, rfl, rfl⟩ := hp9
    rcases inF_or p1 0 6 with hq_2 | hq_2
    · refine r_top (y := 1) hq_2 ?_
      refine r_if_ne X 25 d_M_road_16 (by decide) (fun _ => ?_) (fun h9 => absurd h9 (by decide))
      refine r_iload_n X 1 d_M_road_25 rfl rfl ?_
      refine r_iload_n X 2 d_M_road_26 rfl rfl ?_
      refine r_icmp_eq X 71 d_M_road_27 (by decide) (fun he_3 => ?_) (fun he_3 => ?_)
      · refine r_aload_n X 0 d_M_road_71 rfl rfl ?_
        refine r_iconst X 2 d_M_road_72 (by decide) ?_
        refine r_Vi X W0_good hN (c_M_no l D cy ad (c) t0 f1 f2 hm 2) yv_M_no m_M_174 (hm.1) k_M.2.1 rfl rfl rfl ⟨by decide, by decide⟩ (Nat.le_of_ble_eq_true rfl) ⟨by decide, by decide⟩ d_M_road_73 (fun r9 ad9 c9 hp9 => ?_)
        obtain ⟨rfl, rfl, rfl⟩ := hp9
        have hk_4 : (kF_road p0 p1 p2 p3 p4 p5 p6) = 2 := by unfold kF_road; rw [if_pos hq_1, if_pos hq_2, if_pos he_3]
        exact r_iret (post := fun r ad' c' => ((kF_road p0 p1 p2 p3 p4 p5 p6) = 0 → r = 0) ∧ (∀ j, j < 160 → ad' j = ad j) ∧ (∀ j, j < 128 → c' j = c j) ∧ ∃ fs, c' 128 = some (.inr (11, .int (kF_road p0 p1 p2 p3 p4 p5 p6) :: fs))) X hr hlk d_M_road_76 (by decide) (by decide) ⟨(fun h9 => absurd (hk_4.symm.trans h9) (by decide)), (fun j hj => rfl), (fun j hj => (rup_ne (by omega) rfl)), _, (by rw [hk_4]; exact rup_self)⟩
      · refine r_iload_n X 3 d_M_road_30 rfl rfl ?_
        refine r_iconst X 1 d_M_road_31 (by decide) ?_
        refine r_bipush X 6 d_M_road_32 (by decide) ?_
        refine r_Si X W0_good hN (c_M_in l D cy ad (c) p2 1 6) ys_M_in m_M_167 rfl rfl ⟨by decide, by decide⟩ (Nat.le_of_ble_eq_true rfl) ⟨by decide, by decide⟩ d_M_road_34 (fun r9 ad9 c9 hp9 => ?_)
        obtain ⟨rfl, rfl, rfl⟩ := hp9
        rcases inF_or p2 1 6 with hq_5 | hq_5
        · refine r_top (y := 1) hq_5 ?_
          refine r_if_eq X 71 d_M_road_37 (by decide) (fun h9 => absurd h9 (by decide)) (fun _ => ?_)
          refine r_iload X 4 d_M_road_40 rfl ?_
          refine r_iconst X 0 d_M_road_42 (by decide) ?_
          refine r_iconst X 2 d_M_road_43 (by decide) ?_
          refine r_Si X W0_good hN (c_M_in l D cy ad (c) p3 0 2) ys_M_in m_M_167 rfl rfl ⟨by decide, by decide⟩ (Nat.le_of_ble_eq_true rfl) ⟨by decide, by decide⟩ d_M_road_44 (fun r9 ad9 c9 hp9 => ?_)
          obtain ⟨rfl, rfl, rfl⟩ := hp9
          rcases inF_or p3 0 2 with hq_6 | hq_6
          · refine r_top (y := 1) hq_6 ?_
            refine r_if_eq X 71 d_M_road_47 (by decide) (fun h9 => absurd h9 (by decide)) (fun _ => ?_)
            refine r_iload X 5 d_M_road_50 rfl ?_
            refine r_iconst X 0 d_M_road_52 (by decide) ?_
            refine r_bipush X 9 d_M_road_53 (by decide) ?_
            refine r_Si X W0_good hN (c_M_in l D cy ad (c) p4 0 9) ys_M_in m_M_167 rfl rfl ⟨by decide, by decide⟩ (Nat.le_of_ble_eq_true rfl) ⟨by decide, by decide⟩ d_M_road_55 (fun r9 ad9 c9 hp9 => ?_)
            obtain ⟨rfl, rfl, rfl⟩ := hp9
            rcases inF_or p4 0 9 with hq_7 | hq_7
            · refine r_top (y := 1) hq_7 ?_
              refine r_if_eq X 71 d_M_road_58 (by decide) (fun h9 => absurd h9 (by decide)) (fun _ => ?_)
              refine r_iload X 6 d_M_road_61 rfl ?_
              refine r_iconst X 0 d_M_road_63 (by decide) ?_
              refine r_iconst X 2 d_M_road_64 (by decide) ?_
              refine r_Si X W0_good hN (c_M_in l D cy ad (c) p5 0 2) ys_M_in m_M_167 rfl rfl ⟨by decide, by decide⟩ (Nat.le_of_ble_eq_true rfl) ⟨by decide, by decide⟩ d_M_road_65 (fun r9 ad9 c9 hp9 => ?_)
              obtain ⟨rfl, rfl, rfl⟩ := hp9
              rcases inF_or p5 0 2 with hq_8 | hq_8
              · refine r_top (y := 1) hq_8 ?_
                refine r_if_ne X 77 d_M_road_68 (by decide) (fun _ => ?_) (fun h9 => absurd h9 (by decide))
                refine r_aload_n X 0 d_M_road_77 rfl rfl ?_
                refine r_get X k_M 1 (by decide) f_M_10 rfl (hm.1) rfl d_M_road_78 ?_
                refine x_Fi X W0_good hN hE (c_AL_size_8abf5 l D cy t0 ad (c) 129 (.int 0) (.ref t0) 0 (hm.2.1)) yF_size (by decide +kernel) m9_M_124 (hm.2.1) k_AL.2.1 rfl rfl rfl ⟨by decide, by decide⟩ (Nat.le_of_ble_eq_true rfl) ⟨by decide, by decide⟩ d_M_road_81 (fun r9 ad9 c9 hp9 => ?_)
                obtain ⟨rfl, rfl, rfl⟩ := hp9
                refine r_bipush X 8 d_M_road_86 (by decide) ?_
                refine r_icmp_ne X 97 d_M_road_88 (by decide) (fun _ => ?_) (fun h9 => absurd h9 (by decide))
                refine r_aload_n X 0 d_M_road_97 rfl rfl ?_
                refine r_get X k_M 1 (by decide) f_M_10 rfl (hm.1) rfl d_M_road_98 ?_
                refine r_new X k_MRoad c_M_59 n_MRoad i_MRoad (fs := [.int 0, .int 0, .int 0, .int 0, .int 0, .int 0, .int 0, .int 0, .int 0, .int 0, .int 0, .int 0, .int 0, .int 0, .int 0, .int 0, .int 0, .null, .null]) (by intro j hj; obtain rfl | rfl | rfl | rfl | rfl | rfl | rfl | rfl | rfl | rfl | rfl | rfl | rfl | rfl | rfl | rfl | rfl | rfl | rfl : j = 0 ∨ j = 1 ∨ j = 2 ∨ j = 3 ∨ j = 4 ∨ j = 5 ∨ j = 6 ∨ j = 7 ∨ j = 8 ∨ j = 9 ∨ j = 10 ∨ j = 11 ∨ j = 12 ∨ j = 13 ∨ j = 14 ∨ j = 15 ∨ j = 16 ∨ j = 17 ∨ j = 18 := (by omega); all_goals rfl) (Nat.le_of_ble_eq_true rfl) (Nat.le_of_ble_eq_true rfl) d_M_road_101 160 (hm.2.2.2.2.2.2.2.2.2.2 160 (by decide)) (fun a9 => [(0, .ref (a9 128)), (1, .int p0), (2, .int p1), (3, .int p2), (4, .int p3), (5, .int p4), (6, .int p5), (7, .int p6)]) (fun a9 => [.ref (a9 129)]) (fun a9 h9 => by rw [h9 128 (by decide)]) (fun a9 h9 => by rw [h9 129 (by decide)]) (fun a_9 ha_9 => ?_)
                have hb_1_128 : c 128 = some (.inr (11, [.int 0, .ref (a_9 129), .ref (a_9 130), .ref (a_9 131), .ref (a_9 152), .ref (a_9 158), .int 0, .int 0, .int 0, .int 100, .int 0, .int 0, .int 0, .int 0, .int 0, .int 0])) := by rw [ha_9 129 (by decide), ha_9 130 (by decide), ha_9 131 (by decide), ha_9 152 (by decide), ha_9 158 (by decide)]; exact (hm.1)
                have he_1_131 : f1 0 = some (a_9 132) := by rw [ha_9 132 (by decide)]; exact hm.2.2.2.2.2.2.2.2.1
                have he_1_152 : f2 0 = some (a_9 153) := by rw [ha_9 153 (by decide)]; exact hm.2.2.2.2.2.2.2.2.2.1
                refine r_dup X d_M_road_104 rfl ?_
                refine r_iload_n X 1 d_M_road_105 rfl rfl ?_
                refine r_iload_n X 2 d_M_road_106 rfl rfl ?_
                refine r_iload_n X 3 d_M_road_107 rfl rfl ?_
                refine r_iload X 4 d_M_road_108 rfl ?_
                refine r_iload X 5 d_M_road_110 rfl ?_
                refine r_iload X 6 d_M_road_112 rfl ?_
                refine r_iload X 7 d_M_road_114 rfl ?_
                refine r_Iv X W0_good hN (c_MRoad_init l D cy a_9 (va_up c 160 (some (.inr (9, [.int 0, .int 0, .int 0, .int 0, .int 0, .int 0, .int 0, .int 0, .int 0, .int 0, .int 0, .int 0, .int 0, .int 0, .int 0, .int 0, .int 0, .null, .null])))) 160 161 162 rup_self (rup_ne (by decide) (hm.2.2.2.2.2.2.2.2.2.2 161 (by decide))) (rup_ne (by decide) (hm.2.2.2.2.2.2.2.2.2.2 162 (by decide))) (by decide) (by decide) (by decide) p0 p1 p2 p3 p4 p5 p6 hz) yi_MRoad_init m_M_178 rfl rfl ⟨by decide, by decide⟩ (Nat.le_of_ble_eq_true rfl) ⟨by decide, by decide⟩ d_M_road_116 (fun ad9 c9 hp9 => ?_)
                obtain ⟨hb8, hc8, vs8, hv8⟩ := hp9
                have h1288 : c9 128 = some (.inr (11, [.int 0, .ref (ad9 129), .ref (ad9 130), .ref (ad9 131), .ref (ad9 152), .ref (ad9 158), .int 0, .int 0, .int 0, .int 100, .int 0, .int 0, .int 0, .int 0, .int 0, .int 0])) := by rw [hc8 128 (by decide) (by decide) (by decide), (hb8 129 (by decide) (by decide)), (hb8 130 (by decide) (by decide)), (hb8 131 (by decide) (by decide)), (hb8 152 (by decide) (by decide)), (hb8 158 (by decide) (by decide))]; exact rup_ne (by omega) (hb_1_128)
                have h1298 : c9 129 = some (.inr (12, [.int 0, .ref t0, .int 0])) := by rw [hc8 129 (by decide) (by decide) (by decide)]; exact rup_ne (by omega) ((hm.2.1))
                have h1308 : c9 130 = some (.inr (12, [.int 0, .ref t0, .int 0])) := by rw [hc8 130 (by decide) (by decide) (by decide)]; exact rup_ne (by omega) ((hm.2.2.1))
                have n1638 : c9 163 = none := by rw [hc8 163 (by decide) (by decide) (by decide)]; exact (rup_ne (by decide) (hm.2.2.2.2.2.2.2.2.2.2 163 (by decide)))
                have hlo8 : ∀ j, j < 128 → c9 j = c j := fun j hj => (hc8 j (by omega) (by omega) (by omega)).trans (rup_ne (by omega) (rfl))
                have he8_131 : f1 0 = some (ad9 132) := by rw [(hb8 132 (by decide) (by decide))]; exact he_1_131
                have he8_152 : f2 0 = some (ad9 153) := by rw [(hb8 153 (by decide) (by decide))]; exact he_1_152
                refine r_show (c9) [(0, .ref (ad9 128)), (1, .int p0), (2, .int p1), (3, .int p2), (4, .int p3), (5, .int p4), (6, .int p5), (7, .int p6)] [.ref (ad9 160), .ref (ad9 129)] rfl (by rw [(hb8 128 (by decide) (by decide))]) (by rw [(hb8 160 (by decide) (by decide)), (hb8 129 (by decide) (by decide))]) ?_
                refine x_Fi X W0_good hN hE (c_AL_add_9ea2d l D cy t0 ad9 (c9) 129 160 163 9 _ _ (by decide) (by decide) (by decide) h1298 hv8 k_MRoad.2.1 ca_MRoad n1638) yF_add (by decide +kernel) m9_M_181 h1298 k_AL.2.1 rfl rfl rfl ⟨by decide, by decide⟩ (Nat.le_of_ble_eq_true rfl) ⟨by decide, by decide⟩ d_M_road_119 (fun r9 ad9 c9 hp9 => ?_)
                obtain ⟨rfl, hb9, e9, rfl⟩ := hp9
                refine r_show (va_up (va_up c9 129 (some (.inr (12, [.int 1, .ref (ad9 163), .int 1])))) 163 (some (e9))) [(0, .ref (ad9 128)), (1, .int p0), (2, .int p1), (3, .int p2), (4, .int p3), (5, .int p4), (6, .int p5), (7, .int p6)] [.int 1] rfl (by rw [hb9 128 (by decide)]) rfl ?_
                have hb_2_128 : c9 128 = some (.inr (11, [.int 0, .ref (ad9 129), .ref (ad9 130), .ref (ad9 131), .ref (ad9 152), .ref (ad9 158), .int 0, .int 0, .int 0, .int 100, .int 0, .int 0, .int 0, .int 0, .int 0, .int 0])) := by rw [hb9 129 (by decide), hb9 130 (by decide), hb9 131 (by decide), hb9 152 (by decide), hb9 158 (by decide)]; exact h1288
                have he_2_131 : f1 0 = some (ad9 132) := by rw [hb9 132 (by decide)]; exact he8_131
                have he_2_152 : f2 0 = some (ad9 153) := by rw [hb9 153 (by decide)]; exact he8_152
                refine r_pop X d_M_road_124 rfl ?_
                refine r_aload_n X 0 d_M_road_125 rfl rfl ?_
                refine r_get X k_M 1 (by decide) f_M_10 rfl (rup_ne (by omega) (rup_ne (by omega) (hb_2_128))) rfl d_M_road_126 ?_
                refine x_Fi X W0_good hN hE (c_AL_size_8abf5 l D cy t0 ad9 (va_up (va_up c9 129 (some (.inr (12, [.int 1, .ref (ad9 163), .int 1])))) 163 (some (e9))) 129 (.int 1) (.ref (ad9 163)) 1 (rup_ne (by omega) (rup_self))) yF_size (by decide +kernel) m9_M_124 (rup_ne (by omega) (rup_self)) k_AL.2.1 rfl rfl rfl ⟨by decide, by decide⟩ (Nat.le_of_ble_eq_true rfl) ⟨by decide, by decide⟩ d_M_road_129 (fun r9 ad9 c9 hp9 => ?_)
                obtain ⟨rfl, rfl, rfl⟩ := hp9
                refine r_iconst X 1 d_M_road_134 (by decide) ?_
                refine r_isub X d_M_road_135 ?_
                refine r_top (y := 0) (by decide) ?_
                have hk_10 : (kF_road p0 p1 p2 p3 p4 p5 p6) = 0 := by unfold kF_road; rw [if_pos hq_1, if_pos hq_2, if_neg he_3, if_pos hq_5, if_pos hq_6, if_pos hq_7, if_pos hq_8]
                exact r_iret (post := fun r ad' c' => ((kF_road p0 p1 p2 p3 p4 p5 p6) = 0 → r = 0) ∧ (∀ j, j < 160 → ad' j = ad j) ∧ (∀ j, j < 128 → c' j = c j) ∧ ∃ fs, c' 128 = some (.inr (11, .int (kF_road p0 p1 p2 p3 p4 p5 p6) :: fs))) X hr hlk d_M_road_136 (by decide) (by decide) ⟨(fun _ => rfl), (fun j hj => ((hb9 j (by omega)).trans ((hb8 j (by omega) (by omega)).trans (ha_9 j (by omega))))), (fun j hj => (rup_ne (by omega) (rup_ne (by omega) (hlo8 j hj)))), _, (by rw [hk_10]; exact rup_ne (by omega) (rup_ne (by omega) (hb_2_128)))⟩
              · refine r_top (y := 0) hq_8 ?_
                refine r_if_ne X 77 d_M_road_68 (by decide) (fun h9 => absurd h9 (by decide)) (fun _ => ?_)
                refine r_aload_n X 0 d_M_road_71 rfl rfl ?_
                refine r_iconst X 2 d_M_road_72 (by decide) ?_
                refine r_Vi X W0_good hN (c_M_no l D cy ad (c) t0 f1 f2 hm 2) yv_M_no m_M_174 (hm.1) k_M.2.1 rfl rfl rfl ⟨by decide, by decide⟩ (Nat.le_of_ble_eq_true rfl) ⟨by decide, by decide⟩ d_M_road_73 (fun r9 ad9 c9 hp9 => ?_)
                obtain ⟨rfl, rfl, rfl⟩ := hp9
                have hk_11 : (kF_road p0 p1 p2 p3 p4 p5 p6) = 2 := by unfold kF_road; rw [if_pos hq_1, if_pos hq_2, if_neg he_3, if_pos hq_5, if_pos hq_6, if_pos hq_7, if_neg (inF_n1 hq_8)]
                exact r_iret (post := fun r ad' c' => ((kF_road p0 p1 p2 p3 p4 p5 p6) = 0 → r = 0) ∧ (∀ j, j < 160 → ad' j = ad j) ∧ (∀ j, j < 128 → c' j = c j) ∧ ∃ fs, c' 128 = some (.inr (11, .int (kF_road p0 p1 p2 p3 p4 p5 p6) :: fs))) X hr hlk d_M_road_76 (by decide) (by decide) ⟨(fun h9 => absurd (hk_11.symm.trans h9) (by decide)), (fun j hj => rfl), (fun j hj => (rup_ne (by omega) rfl)), _, (by rw [hk_11]; exact rup_self)⟩
            · refine r_top (y := 0) hq_7 ?_
              refine r_if_eq X 71 d_M_road_58 (by decide) (fun _ => ?_) (fun h9 => absurd h9 (by decide))
              refine r_aload_n X 0 d_M_road_71 rfl rfl ?_
              refine r_iconst X 2 d_M_road_72 (by decide) ?_
              refine r_Vi X W0_good hN (c_M_no l D cy ad (c) t0 f1 f2 hm 2) yv_M_no m_M_174 (hm.1) k_M.2.1 rfl rfl rfl ⟨by decide, by decide⟩ (Nat.le_of_ble_eq_true rfl) ⟨by decide, by decide⟩ d_M_road_73 (fun r9 ad9 c9 hp9 => ?_)
              obtain ⟨rfl, rfl, rfl⟩ := hp9
              have hk_12 : (kF_road p0 p1 p2 p3 p4 p5 p6) = 2 := by unfold kF_road; rw [if_pos hq_1, if_pos hq_2, if_neg he_3, if_pos hq_5, if_pos hq_6, if_neg (inF_n1 hq_7)]
              exact r_iret (post := fun r ad' c' => ((kF_road p0 p1 p2 p3 p4 p5 p6) = 0 → r = 0) ∧ (∀ j, j < 160 → ad' j = ad j) ∧ (∀ j, j < 128 → c' j = c j) ∧ ∃ fs, c' 128 = some (.inr (11, .int (kF_road p0 p1 p2 p3 p4 p5 p6) :: fs))) X hr hlk d_M_road_76 (by decide) (by decide) ⟨(fun h9 => absurd (hk_12.symm.trans h9) (by decide)), (fun j hj => rfl), (fun j hj => (rup_ne (by omega) rfl)), _, (by rw [hk_12]; exact rup_self)⟩
          · refine r_top (y := 0) hq_6 ?_
            refine r_if_eq X 71 d_M_road_47 (by decide) (fun _ => ?_) (fun h9 => absurd h9 (by decide))
            refine r_aload_n X 0 d_M_road_71 rfl rfl ?_
            refine r_iconst X 2 d_M_road_72 (by decide) ?_
            refine r_Vi X W0_good hN (c_M_no l D cy ad (c) t0 f1 f2 hm 2) yv_M_no m_M_174 (hm.1) k_M.2.1 rfl rfl rfl ⟨by decide, by decide⟩ (Nat.le_of_ble_eq_true rfl) ⟨by decide, by decide⟩ d_M_road_73 (fun r9 ad9 c9 hp9 => ?_)
            obtain ⟨rfl, rfl, rfl⟩ := hp9
            have hk_13 : (kF_road p0 p1 p2 p3 p4 p5 p6) = 2 := by unfold kF_road; rw [if_pos hq_1, if_pos hq_2, if_neg he_3, if_pos hq_5, if_neg (inF_n1 hq_6)]
            exact r_iret (post := fun r ad' c' => ((kF_road p0 p1 p2 p3 p4 p5 p6) = 0 → r = 0) ∧ (∀ j, j < 160 → ad' j = ad j) ∧ (∀ j, j < 128 → c' j = c j) ∧ ∃ fs, c' 128 = some (.inr (11, .int (kF_road p0 p1 p2 p3 p4 p5 p6) :: fs))) X hr hlk d_M_road_76 (by decide) (by decide) ⟨(fun h9 => absurd (hk_13.symm.trans h9) (by decide)), (fun j hj => rfl), (fun j hj => (rup_ne (by omega) rfl)), _, (by rw [hk_13]; exact rup_self)⟩
        · refine r_top (y := 0) hq_5 ?_
          refine r_if_eq X 71 d_M_road_37 (by decide) (fun _ => ?_) (fun h9 => absurd h9 (by decide))
          refine r_aload_n X 0 d_M_road_71 rfl rfl ?_
          refine r_iconst X 2 d_M_road_72 (by decide) ?_
          refine r_Vi X W0_good hN (c_M_no l D cy ad (c) t0 f1 f2 hm 2) yv_M_no m_M_174 (hm.1) k_M.2.1 rfl rfl rfl ⟨by decide, by decide⟩ (Nat.le_of_ble_eq_true rfl) ⟨by decide, by decide⟩ d_M_road_73 (fun r9 ad9 c9 hp9 => ?_)
          obtain ⟨rfl, rfl, rfl⟩ := hp9
          have hk_14 : (kF_road p0 p1 p2 p3 p4 p5 p6) = 2 := by unfold kF_road; rw [if_pos hq_1, if_pos hq_2, if_neg he_3, if_neg (inF_n1 hq_5)]
          exact r_iret (post := fun r ad' c' => ((kF_road p0 p1 p2 p3 p4 p5 p6) = 0 → r = 0) ∧ (∀ j, j < 160 → ad' j = ad j) ∧ (∀ j, j < 128 → c' j = c j) ∧ ∃ fs, c' 128 = some (.inr (11, .int (kF_road p0 p1 p2 p3 p4 p5 p6) :: fs))) X hr hlk d_M_road_76 (by decide) (by decide) ⟨(fun h9 => absurd (hk_14.symm.trans h9) (by decide)), (fun j hj => rfl), (fun j hj => (rup_ne (by omega) rfl)), _, (by rw [hk_14]; exact rup_self)⟩
    · refine r_top (y := 0) hq_2 ?_
      refine r_if_ne X 25 d_M_road_16 (by decide) (fun h9 => absurd h9 (by decide)) (fun _ => ?_)
      refine r_aload_n X 0 d_M_road_19 rfl rfl ?_
      refine r_iconst X 1 d_M_road_20 (by decide) ?_
      refine r_Vi X W0_good hN (c_M_no l D cy ad (c) t0 f1 f2 hm 1) yv_M_no m_M_174 (hm.1) k_M.2.1 rfl rfl rfl ⟨by decide, by decide⟩ (Nat.le_of_ble_eq_true rfl) ⟨by decide, by decide⟩ d_M_road_21 (fun r9 ad9 c9 hp9 => ?_)
      obtain ⟨rfl, rfl, rfl⟩ := hp9
      have hk_15 : (kF_road p0 p1 p2 p3 p4 p5 p6) = 1 := by unfold kF_road; rw [if_pos hq_1, if_neg (inF_n1 hq_2)]
      exact r_iret (post := fun r ad' c' => ((kF_road p0 p1 p2 p3 p4 p5 p6) = 0 → r = 0) ∧ (∀ j, j < 160 → ad' j = ad j) ∧ (∀ j, j < 128 → c' j = c j) ∧ ∃ fs, c' 128 = some (.inr (11, .int (kF_road p0 p1 p2 p3 p4 p5 p6) :: fs))) X hr hlk d_M_road_24 (by decide) (by decide) ⟨(fun h9 => absurd (hk_15.symm.trans h9) (by decide)), (fun j hj => rfl), (fun j hj => (rup_ne (by omega) rfl)), _, (by rw [hk_15]; exact rup_self)⟩
  · refine r_top (y := 0) hq_1 ?_
    refine r_if_eq X 19 d_M_road_9 (by decide) (fun _ => ?_) (fun h9 => absurd h9 (by decide))
    refine r_aload_n X 0 d_M_road_19 rfl rfl ?_
    refine r_iconst X 1 d_M_road_20 (by decide) ?_
    refine r_Vi X W0_good hN (c_M_no l D cy ad (c) t0 f1 f2 hm 1) yv_M_no m_M_174 (hm.1) k_M.2.1 rfl rfl rfl ⟨by decide, by decide⟩ (Nat.le_of_ble_eq_true rfl) ⟨by decide, by decide⟩ d_M_road_21 (fun r9 ad9 c9 hp9 => ?_)
    obtain ⟨rfl, rfl, rfl⟩ := hp9
    have hk_16 : (kF_road p0 p1 p2 p3 p4 p5 p6) = 1 := by unfold kF_road; rw [if_neg (inF_n1 hq_1)]
    exact r_iret (post := fun r ad' c' => ((kF_road p0 p1 p2 p3 p4 p5 p6) = 0 → r = 0) ∧ (∀ j, j < 160 → ad' j = ad j) ∧ (∀ j, j < 128 → c' j = c j) ∧ ∃ fs, c' 128 = some (.inr (11, .int (kF_road p0 p1 p2 p3 p4 p5 p6) :: fs))) X hr hlk d_M_road_24 (by decide) (by decide) ⟨(fun h9 => absurd (hk_16.symm.trans h9) (by decide)), (fun j hj => rfl), (fun j hj => (rup_ne (by omega) rfl)), _, (by rw [hk_16]; exact rup_self)⟩
set_option maxRecDepth 100000 in
set_option maxHeartbeats 4000000 in
theorem c_M_inHoppers (l : Launch) (D : va_G) (cy : Nat → ClassId) (t0 : Nat) (ad : Nat → Nat) (c : rC) (h0 : c 128 = some (.inr (11, [.int 0, .ref (ad 129), .ref (ad 130), .ref (ad 131), .ref (ad 152), .ref (ad 158), .int 0, .int 0, .int 0, .int 100, .int 0, .int 0, .int 0, .int 0, .int 0, .int 0]))) (h1 : c 129 = some (.inr (12, [.int 0, .ref t0, .int 0]))) (h2 : c 130 = some (.inr (12, [.int 0, .ref t0, .int 0]))) : xMi l D cls (TY cy) NW t0 y_M_inHoppers (Cond.code y_M_inHoppers b_M_inHoppers 3 rt_M_inHoppers :: W0) { frames := 1, cells := 0, slots := 0, locals := 20 } [.ref (ad 128)] ad c (fun r ad' c' => 0 = r ∧ ad = ad' ∧ c = c') := by
  intro sz
  refine x_of (own := R_M) rfl (by decide +kernel) (Nat.le_of_ble_eq_true rfl) ?_
  intro p e s m below meth cd hsz X hr hlk hN hE hin
  refine r_lv [0] [(0, .ref (ad 128))] rfl ?_
  refine r_iconst X 0 d_M_inHoppers_0 (by decide) ?_
  refine r_istore_n X [(1, .int 0), (0, .ref (ad 128))] d_M_inHoppers_1 rfl (by decide) rfl ?_
  refine r_iconst X 0 d_M_inHoppers_2 (by decide) ?_
  refine r_istore_n X [(2, .int 0), (1, .int 0), (0, .ref (ad 128))] d_M_inHoppers_3 rfl (by decide) rfl ?_
  refine r_iload_n X 0 d_M_inHoppers_4 rfl rfl ?_
  refine r_aload_n X 2 d_M_inHoppers_5 rfl rfl ?_
  refine r_get X k_M 2 (by decide) f_M_16 rfl h0 rfl d_M_inHoppers_6 ?_
  refine x_Fi X W0_good hN hE (c_AL_size_8abf5 l D cy t0 ad (c) 130 (.int 0) (.ref t0) 0 h2) yF_size (by decide +kernel) m9_M_124 h2 k_AL.2.1 rfl rfl rfl ⟨by decide, by decide⟩ (Nat.le_of_ble_eq_true rfl) ⟨by decide, by decide⟩ d_M_inHoppers_9 (fun r9 ad9 c9 hp9 => ?_)
  obtain ⟨rfl, rfl, rfl⟩ := hp9
  refine r_icmp_ge X 42 d_M_inHoppers_14 (by decide) (fun _ => ?_) (fun h9 => absurd h9 (by decide))
  refine r_iload_n X 1 d_M_inHoppers_42 rfl rfl ?_
  exact r_iret (post := fun r ad' c' => 0 = r ∧ ad = ad' ∧ c = c') X hr hlk d_M_inHoppers_43 (by decide) (by decide) ⟨by (try simp only []); first | done | rfl | exact rup_id (by assumption), rfl, rfl⟩
set_option maxRecDepth 100000 in
set_option maxHeartbeats 4000000 in
theorem c_M_manyNow (l : Launch) (D : va_G) (cy : Nat → ClassId) (t0 : Nat) (ad : Nat → Nat) (c : rC) (f1 f2 : Nat → Option Nat) (hm : mC t0 f1 f2 cy ad c) (k : Nat) (hk : k ≤ 14) : xMi l D cls (TY cy) NW t0 y_M_manyNow (Cond.code y_M_manyNow b_M_manyNow 5 rt_M_manyNow :: W0) { frames := 2, cells := 1, slots := 15, locals := 42 } [.ref (ad 128), .int (nI k)] ad c (fun r ad' c' => cntF S00 k = r ∧ ad = ad' ∧ c = c') := by
  intro sz
  refine x_of (own := R_M) rfl (by decide +kernel) (Nat.le_of_ble_eq_true rfl) ?_
  intro p e s m below meth cd hsz X hr hlk hN hE hin
  refine r_lv [0, 1] [(0, .ref (ad 128)), (1, .int (nI k))] rfl ?_
  refine r_iconst X 0 d_M_manyNow_0 (by decide) ?_
  refine r_istore_n X [(2, .int 0), (0, .ref (ad 128)), (1, .int (nI k))] d_M_manyNow_1 rfl (by decide) rfl ?_
  refine r_iconst X 0 d_M_manyNow_2 (by decide) ?_
  refine r_istore_n X [(3, .int 0), (2, .int 0), (0, .ref (ad 128)), (1, .int (nI k))] d_M_manyNow_3 rfl (by decide) rfl ?_
  refine r_iconst X 0 d_M_manyNow_4 (by decide) ?_
  refine r_istore X [(4, .int 0), (3, .int 0), (2, .int 0), (0, .ref (ad 128)), (1, .int (nI k))] d_M_manyNow_5 (by decide) rfl ?_
  refine r_iload X 0 d_M_manyNow_7 rfl ?_
  refine r_aload_n X 3 d_M_manyNow_9 rfl rfl ?_
  refine r_get X k_M 1 (by decide) f_M_10 rfl (hm.1) rfl d_M_manyNow_10 ?_
  refine x_Fi X W0_good hN hE (c_AL_size_8abf5 l D cy t0 ad (c) 129 (.int 0) (.ref t0) 0 (hm.2.1)) yF_size (by decide +kernel) m9_M_124 (hm.2.1) k_AL.2.1 rfl rfl rfl ⟨by decide, by decide⟩ (Nat.le_of_ble_eq_true rfl) ⟨by decide, by decide⟩ d_M_manyNow_13 (fun r9 ad9 c9 hp9 => ?_)
  obtain ⟨rfl, rfl, rfl⟩ := hp9
  refine r_icmp_ge X 80 d_M_manyNow_18 (by decide) (fun _ => ?_) (fun h9 => absurd h9 (by decide))
  refine r_bipush X 15 d_M_manyNow_80 (by decide) ?_
  refine r_newa (ty := .int) (N := 15) X 0 rfl rfl rfl (fun q9 => q9) a_int (by decide) (by decide) (by decide) (Nat.le_of_ble_eq_true rfl) (Nat.le_of_ble_eq_true rfl) d_M_manyNow_82 160 (hm.2.2.2.2.2.2.2.2.2.2 160 (by decide)) (fun a9 => [(4, .int 0), (3, .int 0), (2, .int 0), (0, .ref (a9 128)), (1, .int (nI k))]) (fun a9 => []) (fun a9 h9 => by rw [h9 128 (by decide)]) (fun _ _ => rfl) (fun a_1 ha_1 => ?_)
  have hb_1_128 : c 128 = some (.inr (11, [.int 0, .ref (a_1 129), .ref (a_1 130), .ref (a_1 131), .ref (a_1 152), .ref (a_1 158), .int 0, .int 0, .int 0, .int 100, .int 0, .int 0, .int 0, .int 0, .int 0, .int 0])) := by rw [ha_1 129 (by decide), ha_1 130 (by decide), ha_1 131 (by decide), ha_1 152 (by decide), ha_1 158 (by decide)]; exact (hm.1)
  have he_1_131 : f1 0 = some (a_1 132) := by rw [ha_1 132 (by decide)]; exact hm.2.2.2.2.2.2.2.2.1
  have he_1_152 : f2 0 = some (a_1 153) := by rw [ha_1 153 (by decide)]; exact hm.2.2.2.2.2.2.2.2.2.1
  refine r_dup X d_M_manyNow_84 rfl ?_
  refine r_iconst X 0 d_M_manyNow_85 (by decide) ?_
  refine r_aload_n X 3 d_M_manyNow_86 rfl rfl ?_
  refine r_get X k_M 1 (by decide) f_M_10 rfl (rup_ne (by omega) (hb_1_128)) rfl d_M_manyNow_87 ?_
  refine x_Fi X W0_good hN hE (c_AL_size_8abf5 l D cy t0 a_1 (va_up c 160 (some (.inl (cy 0, 15, .inl (fun _ => 0))))) 129 (.int 0) (.ref t0) 0 (rup_ne (by omega) ((hm.2.1)))) yF_size (by decide +kernel) m9_M_124 (rup_ne (by omega) ((hm.2.1))) k_AL.2.1 rfl rfl rfl ⟨by decide, by decide⟩ (Nat.le_of_ble_eq_true rfl) ⟨by decide, by decide⟩ d_M_manyNow_90 (fun r9 ad9 c9 hp9 => ?_)
  obtain ⟨rfl, rfl, rfl⟩ := hp9
  refine r_iast X 0 rup_self rfl (by unfold vp_in; decide +kernel) (congrArg (fun q9 => upd _ q9 _) (by decide +kernel : (0 : Int32).toNatClampNeg = 0)) (va_up c 160 (some (.inl (cy 0, 15, .inl (upd (fun _ => 0) 0 0))))) rup_up d_M_manyNow_95 ?_
  refine r_dup X d_M_manyNow_96 rfl ?_
  refine r_iconst X 1 d_M_manyNow_97 (by decide) ?_
  refine r_aload_n X 3 d_M_manyNow_98 rfl rfl ?_
  refine r_get X k_M 8 (by decide) f_M_114 rfl (rup_ne (by omega) (hb_1_128)) rfl d_M_manyNow_99 ?_
  refine r_iast X 0 rup_self rfl (by unfold vp_in; decide +kernel) (congrArg (fun q9 => upd _ q9 _) (by decide +kernel : (1 : Int32).toNatClampNeg = 1)) (va_up c 160 (some (.inl (cy 0, 15, .inl (upd (upd (fun _ => 0) 0 0) 1 0))))) rup_up d_M_manyNow_102 ?_
  refine r_dup X d_M_manyNow_103 rfl ?_
  refine r_iconst X 2 d_M_manyNow_104 (by decide) ?_
  refine r_aload_n X 3 d_M_manyNow_105 rfl rfl ?_
  refine r_get X k_M 2 (by decide) f_M_16 rfl (rup_ne (by omega) (hb_1_128)) rfl d_M_manyNow_106 ?_
  refine x_Fi X W0_good hN hE (c_AL_size_8abf5 l D cy t0 a_1 (va_up c 160 (some (.inl (cy 0, 15, .inl (upd (upd (fun _ => 0) 0 0) 1 0))))) 130 (.int 0) (.ref t0) 0 (rup_ne (by omega) ((hm.2.2.1)))) yF_size (by decide +kernel) m9_M_124 (rup_ne (by omega) ((hm.2.2.1))) k_AL.2.1 rfl rfl rfl ⟨by decide, by decide⟩ (Nat.le_of_ble_eq_true rfl) ⟨by decide, by decide⟩ d_M_manyNow_109 (fun r9 ad9 c9 hp9 => ?_)
  obtain ⟨rfl, rfl, rfl⟩ := hp9
  refine r_iast X 0 rup_self rfl (by unfold vp_in; decide +kernel) (congrArg (fun q9 => upd _ q9 _) (by decide +kernel : (2 : Int32).toNatClampNeg = 2)) (va_up c 160 (some (.inl (cy 0, 15, .inl (upd (upd (upd (fun _ => 0) 0 0) 1 0) 2 0))))) rup_up d_M_manyNow_114 ?_
  refine r_dup X d_M_manyNow_115 rfl ?_
  refine r_iconst X 3 d_M_manyNow_116 (by decide) ?_
  refine r_aload_n X 3 d_M_manyNow_117 rfl rfl ?_
  refine r_get X k_M 9 (by decide) f_M_34 rfl (rup_ne (by omega) (hb_1_128)) rfl d_M_manyNow_118 ?_
  refine r_iast X 0 rup_self rfl (by unfold vp_in; decide +kernel) (congrArg (fun q9 => upd _ q9 _) (by decide +kernel : (3 : Int32).toNatClampNeg = 3)) (va_up c 160 (some (.inl (cy 0, 15, .inl (upd (upd (upd (upd (fun _ => 0) 0 0) 1 0) 2 0) 3 100))))) rup_up d_M_manyNow_121 ?_
  refine r_dup X d_M_manyNow_122 rfl ?_
  refine r_iconst X 4 d_M_manyNow_123 (by decide) ?_
  refine r_aload_n X 3 d_M_manyNow_124 rfl rfl ?_
  refine x_Vi X W0_good hN hE (c_M_inHoppers l D cy t0 a_1 (va_up c 160 (some (.inl (cy 0, 15, .inl (upd (upd (upd (upd (fun _ => 0) 0 0) 1 0) 2 0) 3 100))))) (rup_ne (by omega) (hb_1_128)) (rup_ne (by omega) ((hm.2.1))) (rup_ne (by omega) ((hm.2.2.1)))) yv_M_inHoppers m_M_207 (rup_ne (by omega) (hb_1_128)) k_M.2.1 rfl rfl rfl ⟨by decide, by decide⟩ (Nat.le_of_ble_eq_true rfl) ⟨by decide, by decide⟩ d_M_manyNow_125 (fun r9 ad9 c9 hp9 => ?_)
  obtain ⟨rfl, rfl, rfl⟩ := hp9
  refine r_iast X 0 rup_self rfl (by unfold vp_in; decide +kernel) (congrArg (fun q9 => upd _ q9 _) (by decide +kernel : (4 : Int32).toNatClampNeg = 4)) (va_up c 160 (some (.inl (cy 0, 15, .inl (upd (upd (upd (upd (upd (fun _ => 0) 0 0) 1 0) 2 0) 3 100) 4 0))))) rup_up d_M_manyNow_128 ?_
  refine r_dup X d_M_manyNow_129 rfl ?_
  refine r_iconst X 5 d_M_manyNow_130 (by decide) ?_
  refine r_iload_n X 2 d_M_manyNow_131 rfl rfl ?_
  refine r_iast X 0 rup_self rfl (by unfold vp_in; decide +kernel) (congrArg (fun q9 => upd _ q9 _) (by decide +kernel : (5 : Int32).toNatClampNeg = 5)) (va_up c 160 (some (.inl (cy 0, 15, .inl (upd (upd (upd (upd (upd (upd (fun _ => 0) 0 0) 1 0) 2 0) 3 100) 4 0) 5 0))))) rup_up d_M_manyNow_132 ?_
  refine r_dup X d_M_manyNow_133 rfl ?_
  refine r_bipush X 6 d_M_manyNow_134 (by decide) ?_
  refine r_aload_n X 3 d_M_manyNow_136 rfl rfl ?_
  refine r_get X k_M 10 (by decide) f_M_138 rfl (rup_ne (by omega) (hb_1_128)) rfl d_M_manyNow_137 ?_
  refine r_iast X 0 rup_self rfl (by unfold vp_in; decide +kernel) (congrArg (fun q9 => upd _ q9 _) (by decide +kernel : (6 : Int32).toNatClampNeg = 6)) (va_up c 160 (some (.inl (cy 0, 15, .inl (upd (upd (upd (upd (upd (upd (upd (fun _ => 0) 0 0) 1 0) 2 0) 3 100) 4 0) 5 0) 6 0))))) rup_up d_M_manyNow_140 ?_
  refine r_dup X d_M_manyNow_141 rfl ?_
  refine r_bipush X 7 d_M_manyNow_142 (by decide) ?_
  refine r_aload_n X 3 d_M_manyNow_144 rfl rfl ?_
  refine r_get X k_M 11 (by decide) f_M_144 rfl (rup_ne (by omega) (hb_1_128)) rfl d_M_manyNow_145 ?_
  refine r_iast X 0 rup_self rfl (by unfold vp_in; decide +kernel) (congrArg (fun q9 => upd _ q9 _) (by decide +kernel : (7 : Int32).toNatClampNeg = 7)) (va_up c 160 (some (.inl (cy 0, 15, .inl (upd (upd (upd (upd (upd (upd (upd (upd (fun _ => 0) 0 0) 1 0) 2 0) 3 100) 4 0) 5 0) 6 0) 7 0))))) rup_up d_M_manyNow_148 ?_
  refine r_dup X d_M_manyNow_149 rfl ?_
  refine r_bipush X 8 d_M_manyNow_150 (by decide) ?_
  refine r_aload_n X 3 d_M_manyNow_152 rfl rfl ?_
  refine r_get X k_M 12 (by decide) f_M_164 rfl (rup_ne (by omega) (hb_1_128)) rfl d_M_manyNow_153 ?_
  refine r_iast X 0 rup_self rfl (by unfold vp_in; decide +kernel) (congrArg (fun q9 => upd _ q9 _) (by decide +kernel : (8 : Int32).toNatClampNeg = 8)) (va_up c 160 (some (.inl (cy 0, 15, .inl (upd (upd (upd (upd (upd (upd (upd (upd (upd (fun _ => 0) 0 0) 1 0) 2 0) 3 100) 4 0) 5 0) 6 0) 7 0) 8 0))))) rup_up d_M_manyNow_156 ?_
  refine r_dup X d_M_manyNow_157 rfl ?_
  refine r_bipush X 9 d_M_manyNow_158 (by decide) ?_
  refine r_aload_n X 3 d_M_manyNow_160 rfl rfl ?_
  refine r_get X k_M 13 (by decide) f_M_150 rfl (rup_ne (by omega) (hb_1_128)) rfl d_M_manyNow_161 ?_
  refine r_iast X 0 rup_self rfl (by unfold vp_in; decide +kernel) (congrArg (fun q9 => upd _ q9 _) (by decide +kernel : (9 : Int32).toNatClampNeg = 9)) (va_up c 160 (some (.inl (cy 0, 15, .inl (upd (upd (upd (upd (upd (upd (upd (upd (upd (upd (fun _ => 0) 0 0) 1 0) 2 0) 3 100) 4 0) 5 0) 6 0) 7 0) 8 0) 9 0))))) rup_up d_M_manyNow_164 ?_
  refine r_dup X d_M_manyNow_165 rfl ?_
  refine r_bipush X 10 d_M_manyNow_166 (by decide) ?_
  refine r_aload_n X 3 d_M_manyNow_168 rfl rfl ?_
  refine r_get X k_M 14 (by decide) f_M_108 rfl (rup_ne (by omega) (hb_1_128)) rfl d_M_manyNow_169 ?_
  refine r_iast X 0 rup_self rfl (by unfold vp_in; decide +kernel) (congrArg (fun q9 => upd _ q9 _) (by decide +kernel : (10 : Int32).toNatClampNeg = 10)) (va_up c 160 (some (.inl (cy 0, 15, .inl (upd (upd (upd (upd (upd (upd (upd (upd (upd (upd (upd (fun _ => 0) 0 0) 1 0) 2 0) 3 100) 4 0) 5 0) 6 0) 7 0) 8 0) 9 0) 10 0))))) rup_up d_M_manyNow_172 ?_
  refine r_dup X d_M_manyNow_173 rfl ?_
  refine r_bipush X 11 d_M_manyNow_174 (by decide) ?_
  refine r_aload_n X 3 d_M_manyNow_176 rfl rfl ?_
  refine r_get X k_M 6 (by decide) f_M_204 rfl (rup_ne (by omega) (hb_1_128)) rfl d_M_manyNow_177 ?_
  refine r_iast X 0 rup_self rfl (by unfold vp_in; decide +kernel) (congrArg (fun q9 => upd _ q9 _) (by decide +kernel : (11 : Int32).toNatClampNeg = 11)) (va_up c 160 (some (.inl (cy 0, 15, .inl (upd (upd (upd (upd (upd (upd (upd (upd (upd (upd (upd (upd (fun _ => 0) 0 0) 1 0) 2 0) 3 100) 4 0) 5 0) 6 0) 7 0) 8 0) 9 0) 10 0) 11 0))))) rup_up d_M_manyNow_180 ?_
  refine r_dup X d_M_manyNow_181 rfl ?_
  refine r_bipush X 12 d_M_manyNow_182 (by decide) ?_
  refine r_aload_n X 3 d_M_manyNow_184 rfl rfl ?_
  refine r_get X k_M 7 (by decide) f_M_158 rfl (rup_ne (by omega) (hb_1_128)) rfl d_M_manyNow_185 ?_
  refine r_iast X 0 rup_self rfl (by unfold vp_in; decide +kernel) (congrArg (fun q9 => upd _ q9 _) (by decide +kernel : (12 : Int32).toNatClampNeg = 12)) (va_up c 160 (some (.inl (cy 0, 15, .inl (upd (upd (upd (upd (upd (upd (upd (upd (upd (upd (upd (upd (upd (fun _ => 0) 0 0) 1 0) 2 0) 3 100) 4 0) 5 0) 6 0) 7 0) 8 0) 9 0) 10 0) 11 0) 12 0))))) rup_up d_M_manyNow_188 ?_
  refine r_dup X d_M_manyNow_189 rfl ?_
  refine r_bipush X 13 d_M_manyNow_190 (by decide) ?_
  refine r_aload_n X 3 d_M_manyNow_192 rfl rfl ?_
  refine r_get X k_M 15 (by decide) f_M_161 rfl (rup_ne (by omega) (hb_1_128)) rfl d_M_manyNow_193 ?_
  refine r_iast X 0 rup_self rfl (by unfold vp_in; decide +kernel) (congrArg (fun q9 => upd _ q9 _) (by decide +kernel : (13 : Int32).toNatClampNeg = 13)) (va_up c 160 (some (.inl (cy 0, 15, .inl (upd (upd (upd (upd (upd (upd (upd (upd (upd (upd (upd (upd (upd (upd (fun _ => 0) 0 0) 1 0) 2 0) 3 100) 4 0) 5 0) 6 0) 7 0) 8 0) 9 0) 10 0) 11 0) 12 0) 13 0))))) rup_up d_M_manyNow_196 ?_
  refine r_dup X d_M_manyNow_197 rfl ?_
  refine r_bipush X 14 d_M_manyNow_198 (by decide) ?_
  refine r_iload_n X 1 d_M_manyNow_200 rfl rfl ?_
  refine r_iast X 0 rup_self rfl (by unfold vp_in; decide +kernel) (congrArg (fun q9 => upd _ q9 _) (by decide +kernel : (14 : Int32).toNatClampNeg = 14)) (va_up c 160 (some (.inl (cy 0, 15, .inl (upd (upd (upd (upd (upd (upd (upd (upd (upd (upd (upd (upd (upd (upd (upd (fun _ => 0) 0 0) 1 0) 2 0) 3 100) 4 0) 5 0) 6 0) 7 0) 8 0) 9 0) 10 0) 11 0) 12 0) 13 0) 14 0))))) rup_up d_M_manyNow_201 ?_
  refine r_astore X [(4, .ref (a_1 160)), (3, .int 0), (2, .int 0), (0, .ref (a_1 128)), (1, .int (nI k))] d_M_manyNow_202 (by decide) rfl ?_
  refine r_aload X 0 d_M_manyNow_204 rfl ?_
  refine r_iload_n X 4 d_M_manyNow_206 rfl rfl ?_
  have hf9 : ∀ k9, k9 < 15 → (upd (upd (upd (upd (upd (upd (upd (upd (upd (upd (upd (upd (upd (upd (upd (fun _ => 0) 0 0) 1 0) 2 0) 3 100) 4 0) 5 0) 6 0) 7 0) 8 0) 9 0) 10 0) 11 0) 12 0) 13 0) 14 0) k9 = cntF S00 k9 := by decide +kernel
  refine r_iald (v := cntF S00 k) X 0 rup_self rfl (nI_in (by omega) (by decide)) (by rw [nI_clamp (by omega)]; exact hf9 k (by omega)) d_M_manyNow_207 ?_
  refine r_drop ad c (drop1 (hm.2.2.2.2.2.2.2.2.2.2 160 (by decide)) ha_1) ?_
  exact r_iret (post := fun r ad' c' => cntF S00 k = r ∧ ad = ad' ∧ c = c') X hr hlk d_M_manyNow_208 (by decide) (by decide) ⟨rfl, rfl, rfl⟩
set_option maxRecDepth 100000 in
set_option maxHeartbeats 4000000 in
theorem c_M_wayNow (l : Launch) (D : va_G) (cy : Nat → ClassId) (t0 : Nat) (ad : Nat → Nat) (c : rC) (f1 f2 : Nat → Option Nat) (hm : mC t0 f1 f2 cy ad c) (a z : Nat) (ha6 : a ≤ 6) (hz6 : z ≤ 6) : xMi l D cls (TY cy) NW t0 y_M_wayNow (Cond.code y_M_wayNow b_M_wayNow 7 rt_M_wayNow :: W0) { frames := 1, cells := 1, slots := 7, locals := 21 } [.ref (ad 128), .int (nI a), .int (nI z)] ad c (fun r ad' c' => (if nI a = nI z then (0 : Int32) else -1) = r ∧ ad = ad' ∧ c = c') := by
  intro sz
  refine x_of (own := R_M) rfl (by decide +kernel) (Nat.le_of_ble_eq_true rfl) ?_
  intro p e s m below meth cd hsz X hr hlk hN hE hin
  refine r_lv [0, 1, 2] [(0, .ref (ad 128)), (1, .int (nI a)), (2, .int (nI z))] rfl ?_
  refine r_bipush X 7 d_M_wayNow_0 (by decide) ?_
  refine r_newa (ty := .int) (N := 7) X 0 rfl rfl rfl (fun q9 => q9) a_int (by decide) (by decide) (by decide) (Nat.le_of_ble_eq_true rfl) (Nat.le_of_ble_eq_true rfl) d_M_wayNow_2 160 (hm.2.2.2.2.2.2.2.2.2.2 160 (by decide)) (fun a9 => [(0, .ref (a9 128)), (1, .int (nI a)), (2, .int (nI z))]) (fun a9 => []) (fun a9 h9 => by rw [h9 128 (by decide)]) (fun _ _ => rfl) (fun a_1 ha_1 => ?_)
  have hb_1_128 : c 128 = some (.inr (11, [.int 0, .ref (a_1 129), .ref (a_1 130), .ref (a_1 131), .ref (a_1 152), .ref (a_1 158), .int 0, .int 0, .int 0, .int 100, .int 0, .int 0, .int 0, .int 0, .int 0, .int 0])) := by rw [ha_1 129 (by decide), ha_1 130 (by decide), ha_1 131 (by decide), ha_1 152 (by decide), ha_1 158 (by decide)]; exact (hm.1)
  have he_1_131 : f1 0 = some (a_1 132) := by rw [ha_1 132 (by decide)]; exact hm.2.2.2.2.2.2.2.2.1
  have he_1_152 : f2 0 = some (a_1 153) := by rw [ha_1 153 (by decide)]; exact hm.2.2.2.2.2.2.2.2.2.1
  refine r_astore_n X [(3, .ref (a_1 160)), (0, .ref (a_1 128)), (1, .int (nI a)), (2, .int (nI z))] d_M_wayNow_4 rfl (by decide) rfl ?_
  refine r_iconst X 0 d_M_wayNow_5 (by decide) ?_
  refine r_istore X [(4, .int 0), (3, .ref (a_1 160)), (0, .ref (a_1 128)), (1, .int (nI a)), (2, .int (nI z))] d_M_wayNow_6 (by decide) rfl ?_
  refine r_iload X 0 d_M_wayNow_8 rfl ?_
  refine r_bipush X 7 d_M_wayNow_10 (by decide) ?_
  refine r_icmp_ge X 38 d_M_wayNow_12 (by decide) (fun h9 => absurd h9 (by decide)) (fun _ => ?_)
  refine r_aload_n X 1 d_M_wayNow_15 rfl rfl ?_
  refine r_iload X 0 d_M_wayNow_16 rfl ?_
  refine r_iload X 0 d_M_wayNow_18 rfl ?_
  refine r_iload_n X 3 d_M_wayNow_20 rfl rfl ?_
  refine r_cut (fun u9 : Int32 => u9 = (if 0 = (nI a) then 0 else 999)) (fun _ => va_up c 160 (some (.inl (cy 0, 7, .inl (fun _ => 0))))) 31 (fun _ => [(4, .int 0), (3, .ref (a_1 160)), (0, .ref (a_1 128)), (1, .int (nI a)), (2, .int (nI z))]) (fun u9 => [.int u9, .int 0, .ref (a_1 160)]) (fun J9 => ?_) (fun t_2 ht_2 => ?_)
  · refine r_icmp_ne X 28 d_M_wayNow_21 (by decide) (fun h9 => ?_) (fun h9 => ?_)
    · refine r_sipush X 999 d_M_wayNow_28 (by decide) ?_
      exact J9 _ (if_neg h9).symm
    · refine r_iconst X 0 d_M_wayNow_24 (by decide) ?_
      refine r_goto X 31 d_M_wayNow_25 (by decide) ?_
      exact J9 _ (if_pos h9).symm
  subst ht_2
  refine r_iast X 0 rup_self rfl (by unfold vp_in; decide +kernel) (congrArg (fun q9 => upd _ q9 _) (by decide +kernel : (0 : Int32).toNatClampNeg = 0)) (va_up c 160 (some (.inl (cy 0, 7, .inl (upd (fun _ => 0) 0 (if 0 = (nI a) then 0 else 999)))))) rup_up d_M_wayNow_31 ?_
  refine r_iinc X 0 [(4, .int 1), (3, .ref (a_1 160)), (0, .ref (a_1 128)), (1, .int (nI a)), (2, .int (nI z))] d_M_wayNow_32 rfl (by decide) (by decide) rfl ?_
  refine r_goto X 8 d_M_wayNow_35 (by decide) ?_
  refine r_iload X 0 d_M_wayNow_8 rfl ?_
  refine r_bipush X 7 d_M_wayNow_10 (by decide) ?_
  refine r_icmp_ge X 38 d_M_wayNow_12 (by decide) (fun h9 => absurd h9 (by decide)) (fun _ => ?_)
  refine r_aload_n X 1 d_M_wayNow_15 rfl rfl ?_
  refine r_iload X 0 d_M_wayNow_16 rfl ?_
  refine r_iload X 0 d_M_wayNow_18 rfl ?_
  refine r_iload_n X 3 d_M_wayNow_20 rfl rfl ?_
  refine r_cut (fun u9 : Int32 => u9 = (if 1 = (nI a) then 0 else 999)) (fun _ => va_up c 160 (some (.inl (cy 0, 7, .inl (upd (fun _ => 0) 0 (if 0 = (nI a) then 0 else 999)))))) 31 (fun _ => [(4, .int 1), (3, .ref (a_1 160)), (0, .ref (a_1 128)), (1, .int (nI a)), (2, .int (nI z))]) (fun u9 => [.int u9, .int 1, .ref (a_1 160)]) (fun J9 => ?_) (fun t_3 ht_3 => ?_)
  · refine r_icmp_ne X 28 d_M_wayNow_21 (by decide) (fun h9 => ?_) (fun h9 => ?_)
    · refine r_sipush X 999 d_M_wayNow_28 (by decide) ?_
      exact J9 _ (if_neg h9).symm
    · refine r_iconst X 0 d_M_wayNow_24 (by decide) ?_
      refine r_goto X 31 d_M_wayNow_25 (by decide) ?_
      exact J9 _ (if_pos h9).symm
  subst ht_3
  refine r_iast X 0 rup_self rfl (by unfold vp_in; decide +kernel) (congrArg (fun q9 => upd _ q9 _) (by decide +kernel : (1 : Int32).toNatClampNeg = 1)) (va_up c 160 (some (.inl (cy 0, 7, .inl (upd (upd (fun _ => 0) 0 (if 0 = (nI a) then 0 else 999)) 1 (if 1 = (nI a) then 0 else 999)))))) rup_up d_M_wayNow_31 ?_
  refine r_iinc X 0 [(4, .int 2), (3, .ref (a_1 160)), (0, .ref (a_1 128)), (1, .int (nI a)), (2, .int (nI z))] d_M_wayNow_32 rfl (by decide) (by decide) rfl ?_
  refine r_goto X 8 d_M_wayNow_35 (by decide) ?_
  refine r_iload X 0 d_M_wayNow_8 rfl ?_
  refine r_bipush X 7 d_M_wayNow_10 (by decide) ?_
  refine r_icmp_ge X 38 d_M_wayNow_12 (by decide) (fun h9 => absurd h9 (by decide)) (fun _ => ?_)
  refine r_aload_n X 1 d_M_wayNow_15 rfl rfl ?_
  refine r_iload X 0 d_M_wayNow_16 rfl ?_
  refine r_iload X 0 d_M_wayNow_18 rfl ?_
  refine r_iload_n X 3 d_M_wayNow_20 rfl rfl ?_
  refine r_cut (fun u9 : Int32 => u9 = (if 2 = (nI a) then 0 else 999)) (fun _ => va_up c 160 (some (.inl (cy 0, 7, .inl (upd (upd (fun _ => 0) 0 (if 0 = (nI a) then 0 else 999)) 1 (if 1 = (nI a) then 0 else 999)))))) 31 (fun _ => [(4, .int 2), (3, .ref (a_1 160)), (0, .ref (a_1 128)), (1, .int (nI a)), (2, .int (nI z))]) (fun u9 => [.int u9, .int 2, .ref (a_1 160)]) (fun J9 => ?_) (fun t_4 ht_4 => ?_)
  · refine r_icmp_ne X 28 d_M_wayNow_21 (by decide) (fun h9 => ?_) (fun h9 => ?_)
    · refine r_sipush X 999 d_M_wayNow_28 (by decide) ?_
      exact J9 _ (if_neg h9).symm
    · refine r_iconst X 0 d_M_wayNow_24 (by decide) ?_
      refine r_goto X 31 d_M_wayNow_25 (by decide) ?_
      exact J9 _ (if_pos h9).symm
  subst ht_4
  refine r_iast X 0 rup_self rfl (by unfold vp_in; decide +kernel) (congrArg (fun q9 => upd _ q9 _) (by decide +kernel : (2 : Int32).toNatClampNeg = 2)) (va_up c 160 (some (.inl (cy 0, 7, .inl (upd (upd (upd (fun _ => 0) 0 (if 0 = (nI a) then 0 else 999)) 1 (if 1 = (nI a) then 0 else 999)) 2 (if 2 = (nI a) then 0 else 999)))))) rup_up d_M_wayNow_31 ?_
  refine r_iinc X 0 [(4, .int 3), (3, .ref (a_1 160)), (0, .ref (a_1 128)), (1, .int (nI a)), (2, .int (nI z))] d_M_wayNow_32 rfl (by decide) (by decide) rfl ?_
  refine r_goto X 8 d_M_wayNow_35 (by decide) ?_
  refine r_iload X 0 d_M_wayNow_8 rfl ?_
  refine r_bipush X 7 d_M_wayNow_10 (by decide) ?_
  refine r_icmp_ge X 38 d_M_wayNow_12 (by decide) (fun h9 => absurd h9 (by decide)) (fun _ => ?_)
  refine r_aload_n X 1 d_M_wayNow_15 rfl rfl ?_
  refine r_iload X 0 d_M_wayNow_16 rfl ?_
  refine r_iload X 0 d_M_wayNow_18 rfl ?_
  refine r_iload_n X 3 d_M_wayNow_20 rfl rfl ?_
  refine r_cut (fun u9 : Int32 => u9 = (if 3 = (nI a) then 0 else 999)) (fun _ => va_up c 160 (some (.inl (cy 0, 7, .inl (upd (upd (upd (fun _ => 0) 0 (if 0 = (nI a) then 0 else 999)) 1 (if 1 = (nI a) then 0 else 999)) 2 (if 2 = (nI a) then 0 else 999)))))) 31 (fun _ => [(4, .int 3), (3, .ref (a_1 160)), (0, .ref (a_1 128)), (1, .int (nI a)), (2, .int (nI z))]) (fun u9 => [.int u9, .int 3, .ref (a_1 160)]) (fun J9 => ?_) (fun t_5 ht_5 => ?_)
  · refine r_icmp_ne X 28 d_M_wayNow_21 (by decide) (fun h9 => ?_) (fun h9 => ?_)
    · refine r_sipush X 999 d_M_wayNow_28 (by decide) ?_
      exact J9 _ (if_neg h9).symm
    · refine r_iconst X 0 d_M_wayNow_24 (by decide) ?_
      refine r_goto X 31 d_M_wayNow_25 (by decide) ?_
      exact J9 _ (if_pos h9).symm
  subst ht_5
  refine r_iast X 0 rup_self rfl (by unfold vp_in; decide +kernel) (congrArg (fun q9 => upd _ q9 _) (by decide +kernel : (3 : Int32).toNatClampNeg = 3)) (va_up c 160 (some (.inl (cy 0, 7, .inl (upd (upd (upd (upd (fun _ => 0) 0 (if 0 = (nI a) then 0 else 999)) 1 (if 1 = (nI a) then 0 else 999)) 2 (if 2 = (nI a) then 0 else 999)) 3 (if 3 = (nI a) then 0 else 999)))))) rup_up d_M_wayNow_31 ?_
  refine r_iinc X 0 [(4, .int 4), (3, .ref (a_1 160)), (0, .ref (a_1 128)), (1, .int (nI a)), (2, .int (nI z))] d_M_wayNow_32 rfl (by decide) (by decide) rfl ?_
  refine r_goto X 8 d_M_wayNow_35 (by decide) ?_
  refine r_iload X 0 d_M_wayNow_8 rfl ?_
  refine r_bipush X 7 d_M_wayNow_10 (by decide) ?_
  refine r_icmp_ge X 38 d_M_wayNow_12 (by decide) (fun h9 => absurd h9 (by decide)) (fun _ => ?_)
  refine r_aload_n X 1 d_M_wayNow_15 rfl rfl ?_
  refine r_iload X 0 d_M_wayNow_16 rfl ?_
  refine r_iload X 0 d_M_wayNow_18 rfl ?_
  refine r_iload_n X 3 d_M_wayNow_20 rfl rfl ?_
  refine r_cut (fun u9 : Int32 => u9 = (if 4 = (nI a) then 0 else 999)) (fun _ => va_up c 160 (some (.inl (cy 0, 7, .inl (upd (upd (upd (upd (fun _ => 0) 0 (if 0 = (nI a) then 0 else 999)) 1 (if 1 = (nI a) then 0 else 999)) 2 (if 2 = (nI a) then 0 else 999)) 3 (if 3 = (nI a) then 0 else 999)))))) 31 (fun _ => [(4, .int 4), (3, .ref (a_1 160)), (0, .ref (a_1 128)), (1, .int (nI a)), (2, .int (nI z))]) (fun u9 => [.int u9, .int 4, .ref (a_1 160)]) (fun J9 => ?_) (fun t_6 ht_6 => ?_)
  · refine r_icmp_ne X 28 d_M_wayNow_21 (by decide) (fun h9 => ?_) (fun h9 => ?_)
    · refine r_sipush X 999 d_M_wayNow_28 (by decide) ?_
      exact J9 _ (if_neg h9).symm
    · refine r_iconst X 0 d_M_wayNow_24 (by decide) ?_
      refine r_goto X 31 d_M_wayNow_25 (by decide) ?_
      exact J9 _ (if_pos h9).symm
  subst ht_6
  refine r_iast X 0 rup_self rfl (by unfold vp_in; decide +kernel) (congrArg (fun q9 => upd _ q9 _) (by decide +kernel : (4 : Int32).toNatClampNeg = 4)) (va_up c 160 (some (.inl (cy 0, 7, .inl (upd (upd (upd (upd (upd (fun _ => 0) 0 (if 0 = (nI a) then 0 else 999)) 1 (if 1 = (nI a) then 0 else 999)) 2 (if 2 = (nI a) then 0 else 999)) 3 (if 3 = (nI a) then 0 else 999)) 4 (if 4 = (nI a) then 0 else 999)))))) rup_up d_M_wayNow_31 ?_
  refine r_iinc X 0 [(4, .int 5), (3, .ref (a_1 160)), (0, .ref (a_1 128)), (1, .int (nI a)), (2, .int (nI z))] d_M_wayNow_32 rfl (by decide) (by decide) rfl ?_
  refine r_goto X 8 d_M_wayNow_35 (by decide) ?_
  refine r_iload X 0 d_M_wayNow_8 rfl ?_
  refine r_bipush X 7 d_M_wayNow_10 (by decide) ?_
  refine r_icmp_ge X 38 d_M_wayNow_12 (by decide) (fun h9 => absurd h9 (by decide)) (fun _ => ?_)
  refine r_aload_n X 1 d_M_wayNow_15 rfl rfl ?_
  refine r_iload X 0 d_M_wayNow_16 rfl ?_
  refine r_iload X 0 d_M_wayNow_18 rfl ?_
  refine r_iload_n X 3 d_M_wayNow_20 rfl rfl ?_
  refine r_cut (fun u9 : Int32 => u9 = (if 5 = (nI a) then 0 else 999)) (fun _ => va_up c 160 (some (.inl (cy 0, 7, .inl (upd (upd (upd (upd (upd (fun _ => 0) 0 (if 0 = (nI a) then 0 else 999)) 1 (if 1 = (nI a) then 0 else 999)) 2 (if 2 = (nI a) then 0 else 999)) 3 (if 3 = (nI a) then 0 else 999)) 4 (if 4 = (nI a) then 0 else 999)))))) 31 (fun _ => [(4, .int 5), (3, .ref (a_1 160)), (0, .ref (a_1 128)), (1, .int (nI a)), (2, .int (nI z))]) (fun u9 => [.int u9, .int 5, .ref (a_1 160)]) (fun J9 => ?_) (fun t_7 ht_7 => ?_)
  · refine r_icmp_ne X 28 d_M_wayNow_21 (by decide) (fun h9 => ?_) (fun h9 => ?_)
    · refine r_sipush X 999 d_M_wayNow_28 (by decide) ?_
      exact J9 _ (if_neg h9).symm
    · refine r_iconst X 0 d_M_wayNow_24 (by decide) ?_
      refine r_goto X 31 d_M_wayNow_25 (by decide) ?_
      exact J9 _ (if_pos h9).symm
  subst ht_7
  refine r_iast X 0 rup_self rfl (by unfold vp_in; decide +kernel) (congrArg (fun q9 => upd _ q9 _) (by decide +kernel : (5 : Int32).toNatClampNeg = 5)) (va_up c 160 (some (.inl (cy 0, 7, .inl (upd (upd (upd (upd (upd (upd (fun _ => 0) 0 (if 0 = (nI a) then 0 else 999)) 1 (if 1 = (nI a) then 0 else 999)) 2 (if 2 = (nI a) then 0 else 999)) 3 (if 3 = (nI a) then 0 else 999)) 4 (if 4 = (nI a) then 0 else 999)) 5 (if 5 = (nI a) then 0 else 999)))))) rup_up d_M_wayNow_31 ?_
  refine r_iinc X 0 [(4, .int 6), (3, .ref (a_1 160)), (0, .ref (a_1 128)), (1, .int (nI a)), (2, .int (nI z))] d_M_wayNow_32 rfl (by decide) (by decide) rfl ?_
  refine r_goto X 8 d_M_wayNow_35 (by decide) ?_
  refine r_iload X 0 d_M_wayNow_8 rfl ?_
  refine r_bipush X 7 d_M_wayNow_10 (by decide) ?_
  refine r_icmp_ge X 38 d_M_wayNow_12 (by decide) (fun h9 => absurd h9 (by decide)) (fun _ => ?_)
  refine r_aload_n X 1 d_M_wayNow_15 rfl rfl ?_
  refine r_iload X 0 d_M_wayNow_16 rfl ?_
  refine r_iload X 0 d_M_wayNow_18 rfl ?_
  refine r_iload_n X 3 d_M_wayNow_20 rfl rfl ?_
  refine r_cut (fun u9 : Int32 => u9 = (if 6 = (nI a) then 0 else 999)) (fun _ => va_up c 160 (some (.inl (cy 0, 7, .inl (upd (upd (upd (upd (upd (upd (fun _ => 0) 0 (if 0 = (nI a) then 0 else 999)) 1 (if 1 = (nI a) then 0 else 999)) 2 (if 2 = (nI a) then 0 else 999)) 3 (if 3 = (nI a) then 0 else 999)) 4 (if 4 = (nI a) then 0 else 999)) 5 (if 5 = (nI a) then 0 else 999)))))) 31 (fun _ => [(4, .int 6), (3, .ref (a_1 160)), (0, .ref (a_1 128)), (1, .int (nI a)), (2, .int (nI z))]) (fun u9 => [.int u9, .int 6, .ref (a_1 160)]) (fun J9 => ?_) (fun t_8 ht_8 => ?_)
  · refine r_icmp_ne X 28 d_M_wayNow_21 (by decide) (fun h9 => ?_) (fun h9 => ?_)
    · refine r_sipush X 999 d_M_wayNow_28 (by decide) ?_
      exact J9 _ (if_neg h9).symm
    · refine r_iconst X 0 d_M_wayNow_24 (by decide) ?_
      refine r_goto X 31 d_M_wayNow_25 (by decide) ?_
      exact J9 _ (if_pos h9).symm
  subst ht_8
  refine r_iast X 0 rup_self rfl (by unfold vp_in; decide +kernel) (congrArg (fun q9 => upd _ q9 _) (by decide +kernel : (6 : Int32).toNatClampNeg = 6)) (va_up c 160 (some (.inl (cy 0, 7, .inl (upd (upd (upd (upd (upd (upd (upd (fun _ => 0) 0 (if 0 = (nI a) then 0 else 999)) 1 (if 1 = (nI a) then 0 else 999)) 2 (if 2 = (nI a) then 0 else 999)) 3 (if 3 = (nI a) then 0 else 999)) 4 (if 4 = (nI a) then 0 else 999)) 5 (if 5 = (nI a) then 0 else 999)) 6 (if 6 = (nI a) then 0 else 999)))))) rup_up d_M_wayNow_31 ?_
  refine r_iinc X 0 [(4, .int 7), (3, .ref (a_1 160)), (0, .ref (a_1 128)), (1, .int (nI a)), (2, .int (nI z))] d_M_wayNow_32 rfl (by decide) (by decide) rfl ?_
  refine r_goto X 8 d_M_wayNow_35 (by decide) ?_
  refine r_iload X 0 d_M_wayNow_8 rfl ?_
  refine r_bipush X 7 d_M_wayNow_10 (by decide) ?_
  refine r_icmp_ge X 38 d_M_wayNow_12 (by decide) (fun _ => ?_) (fun h9 => absurd h9 (by decide))
  refine r_iconst X 0 d_M_wayNow_38 (by decide) ?_
  refine r_istore X [(4, .int 0), (3, .ref (a_1 160)), (0, .ref (a_1 128)), (1, .int (nI a)), (2, .int (nI z))] d_M_wayNow_39 (by decide) rfl ?_
  refine r_iload X 0 d_M_wayNow_41 rfl ?_
  refine r_bipush X 7 d_M_wayNow_43 (by decide) ?_
  refine r_icmp_ge X 153 d_M_wayNow_45 (by decide) (fun h9 => absurd h9 (by decide)) (fun _ => ?_)
  refine r_iconst X 0 d_M_wayNow_48 (by decide) ?_
  refine r_istore X [(5, .int 0), (4, .int 0), (3, .ref (a_1 160)), (0, .ref (a_1 128)), (1, .int (nI a)), (2, .int (nI z))] d_M_wayNow_49 (by decide) rfl ?_
  refine r_iload X 0 d_M_wayNow_51 rfl ?_
  refine r_aload_n X 3 d_M_wayNow_53 rfl rfl ?_
  refine r_get X k_M 1 (by decide) f_M_10 rfl (rup_ne (by omega) (hb_1_128)) rfl d_M_wayNow_54 ?_
  refine x_Fi X W0_good hN hE (c_AL_size_8abf5 l D cy t0 a_1 (va_up c 160 (some (.inl (cy 0, 7, .inl (upd (upd (upd (upd (upd (upd (upd (fun _ => 0) 0 (if 0 = (nI a) then 0 else 999)) 1 (if 1 = (nI a) then 0 else 999)) 2 (if 2 = (nI a) then 0 else 999)) 3 (if 3 = (nI a) then 0 else 999)) 4 (if 4 = (nI a) then 0 else 999)) 5 (if 5 = (nI a) then 0 else 999)) 6 (if 6 = (nI a) then 0 else 999)))))) 129 (.int 0) (.ref t0) 0 (rup_ne (by omega) ((hm.2.1)))) yF_size (by decide +kernel) m9_M_124 (rup_ne (by omega) ((hm.2.1))) k_AL.2.1 rfl rfl rfl ⟨by decide, by decide⟩ (Nat.le_of_ble_eq_true rfl) ⟨by decide, by decide⟩ d_M_wayNow_57 (fun r9 ad9 c9 hp9 => ?_)
  obtain ⟨rfl, rfl, rfl⟩ := hp9
  refine r_icmp_ge X 147 d_M_wayNow_62 (by decide) (fun _ => ?_) (fun h9 => absurd h9 (by decide))
  refine r_iinc X 1 [(4, .int 1), (5, .int 0), (3, .ref (a_1 160)), (0, .ref (a_1 128)), (1, .int (nI a)), (2, .int (nI z))] d_M_wayNow_147 rfl (by decide) (by decide) rfl ?_
  refine r_goto X 41 d_M_wayNow_150 (by decide) ?_
  refine r_iload X 0 d_M_wayNow_41 rfl ?_
  refine r_bipush X 7 d_M_wayNow_43 (by decide) ?_
  refine r_icmp_ge X 153 d_M_wayNow_45 (by decide) (fun h9 => absurd h9 (by decide)) (fun _ => ?_)
  refine r_iconst X 0 d_M_wayNow_48 (by decide) ?_
  refine r_istore X [(5, .int 0), (4, .int 1), (3, .ref (a_1 160)), (0, .ref (a_1 128)), (1, .int (nI a)), (2, .int (nI z))] d_M_wayNow_49 (by decide) rfl ?_
  refine r_iload X 0 d_M_wayNow_51 rfl ?_
  refine r_aload_n X 3 d_M_wayNow_53 rfl rfl ?_
  refine r_get X k_M 1 (by decide) f_M_10 rfl (rup_ne (by omega) (hb_1_128)) rfl d_M_wayNow_54 ?_
  refine x_Fi X W0_good hN hE (c_AL_size_8abf5 l D cy t0 a_1 (va_up c 160 (some (.inl (cy 0, 7, .inl (upd (upd (upd (upd (upd (upd (upd (fun _ => 0) 0 (if 0 = (nI a) then 0 else 999)) 1 (if 1 = (nI a) then 0 else 999)) 2 (if 2 = (nI a) then 0 else 999)) 3 (if 3 = (nI a) then 0 else 999)) 4 (if 4 = (nI a) then 0 else 999)) 5 (if 5 = (nI a) then 0 else 999)) 6 (if 6 = (nI a) then 0 else 999)))))) 129 (.int 0) (.ref t0) 0 (rup_ne (by omega) ((hm.2.1)))) yF_size (by decide +kernel) m9_M_124 (rup_ne (by omega) ((hm.2.1))) k_AL.2.1 rfl rfl rfl ⟨by decide, by decide⟩ (Nat.le_of_ble_eq_true rfl) ⟨by decide, by decide⟩ d_M_wayNow_57 (fun r9 ad9 c9 hp9 => ?_)
  obtain ⟨rfl, rfl, rfl⟩ := hp9
  refine r_icmp_ge X 147 d_M_wayNow_62 (by decide) (fun _ => ?_) (fun h9 => absurd h9 (by decide))
  refine r_iinc X 1 [(4, .int 2), (5, .int 0), (3, .ref (a_1 160)), (0, .ref (a_1 128)), (1, .int (nI a)), (2, .int (nI z))] d_M_wayNow_147 rfl (by decide) (by decide) rfl ?_
  refine r_goto X 41 d_M_wayNow_150 (by decide) ?_
  refine r_iload X 0 d_M_wayNow_41 rfl ?_
  refine r_bipush X 7 d_M_wayNow_43 (by decide) ?_
  refine r_icmp_ge X 153 d_M_wayNow_45 (by decide) (fun h9 => absurd h9 (by decide)) (fun _ => ?_)
  refine r_iconst X 0 d_M_wayNow_48 (by decide) ?_
  refine r_istore X [(5, .int 0), (4, .int 2), (3, .ref (a_1 160)), (0, .ref (a_1 128)), (1, .int (nI a)), (2, .int (nI z))] d_M_wayNow_49 (by decide) rfl ?_
  refine r_iload X 0 d_M_wayNow_51 rfl ?_
  refine r_aload_n X 3 d_M_wayNow_53 rfl rfl ?_
  refine r_get X k_M 1 (by decide) f_M_10 rfl (rup_ne (by omega) (hb_1_128)) rfl d_M_wayNow_54 ?_
  refine x_Fi X W0_good hN hE (c_AL_size_8abf5 l D cy t0 a_1 (va_up c 160 (some (.inl (cy 0, 7, .inl (upd (upd (upd (upd (upd (upd (upd (fun _ => 0) 0 (if 0 = (nI a) then 0 else 999)) 1 (if 1 = (nI a) then 0 else 999)) 2 (if 2 = (nI a) then 0 else 999)) 3 (if 3 = (nI a) then 0 else 999)) 4 (if 4 = (nI a) then 0 else 999)) 5 (if 5 = (nI a) then 0 else 999)) 6 (if 6 = (nI a) then 0 else 999)))))) 129 (.int 0) (.ref t0) 0 (rup_ne (by omega) ((hm.2.1)))) yF_size (by decide +kernel) m9_M_124 (rup_ne (by omega) ((hm.2.1))) k_AL.2.1 rfl rfl rfl ⟨by decide, by decide⟩ (Nat.le_of_ble_eq_true rfl) ⟨by decide, by decide⟩ d_M_wayNow_57 (fun r9 ad9 c9 hp9 => ?_)
  obtain ⟨rfl, rfl, rfl⟩ := hp9
  refine r_icmp_ge X 147 d_M_wayNow_62 (by decide) (fun _ => ?_) (fun h9 => absurd h9 (by decide))
  refine r_iinc X 1 [(4, .int 3), (5, .int 0), (3, .ref (a_1 160)), (0, .ref (a_1 128)), (1, .int (nI a)), (2, .int (nI z))] d_M_wayNow_147 rfl (by decide) (by decide) rfl ?_
  refine r_goto X 41 d_M_wayNow_150 (by decide) ?_
  refine r_iload X 0 d_M_wayNow_41 rfl ?_
  refine r_bipush X 7 d_M_wayNow_43 (by decide) ?_
  refine r_icmp_ge X 153 d_M_wayNow_45 (by decide) (fun h9 => absurd h9 (by decide)) (fun _ => ?_)
  refine r_iconst X 0 d_M_wayNow_48 (by decide) ?_
  refine r_istore X [(5, .int 0), (4, .int 3), (3, .ref (a_1 160)), (0, .ref (a_1 128)), (1, .int (nI a)), (2, .int (nI z))] d_M_wayNow_49 (by decide) rfl ?_
  refine r_iload X 0 d_M_wayNow_51 rfl ?_
  refine r_aload_n X 3 d_M_wayNow_53 rfl rfl ?_
  refine r_get X k_M 1 (by decide) f_M_10 rfl (rup_ne (by omega) (hb_1_128)) rfl d_M_wayNow_54 ?_
  refine x_Fi X W0_good hN hE (c_AL_size_8abf5 l D cy t0 a_1 (va_up c 160 (some (.inl (cy 0, 7, .inl (upd (upd (upd (upd (upd (upd (upd (fun _ => 0) 0 (if 0 = (nI a) then 0 else 999)) 1 (if 1 = (nI a) then 0 else 999)) 2 (if 2 = (nI a) then 0 else 999)) 3 (if 3 = (nI a) then 0 else 999)) 4 (if 4 = (nI a) then 0 else 999)) 5 (if 5 = (nI a) then 0 else 999)) 6 (if 6 = (nI a) then 0 else 999)))))) 129 (.int 0) (.ref t0) 0 (rup_ne (by omega) ((hm.2.1)))) yF_size (by decide +kernel) m9_M_124 (rup_ne (by omega) ((hm.2.1))) k_AL.2.1 rfl rfl rfl ⟨by decide, by decide⟩ (Nat.le_of_ble_eq_true rfl) ⟨by decide, by decide⟩ d_M_wayNow_57 (fun r9 ad9 c9 hp9 => ?_)
  obtain ⟨rfl, rfl, rfl⟩ := hp9
  refine r_icmp_ge X 147 d_M_wayNow_62 (by decide) (fun _ => ?_) (fun h9 => absurd h9 (by decide))
  refine r_iinc X 1 [(4, .int 4), (5, .int 0), (3, .ref (a_1 160)), (0, .ref (a_1 128)), (1, .int (nI a)), (2, .int (nI z))] d_M_wayNow_147 rfl (by decide) (by decide) rfl ?_
  refine r_goto X 41 d_M_wayNow_150 (by decide) ?_
  refine r_iload X 0 d_M_wayNow_41 rfl ?_
  refine r_bipush X 7 d_M_wayNow_43 (by decide) ?_
  refine r_icmp_ge X 153 d_M_wayNow_45 (by decide) (fun h9 => absurd h9 (by decide)) (fun _ => ?_)
  refine r_iconst X 0 d_M_wayNow_48 (by decide) ?_
  refine r_istore X [(5, .int 0), (4, .int 4), (3, .ref (a_1 160)), (0, .ref (a_1 128)), (1, .int (nI a)), (2, .int (nI z))] d_M_wayNow_49 (by decide) rfl ?_
  refine r_iload X 0 d_M_wayNow_51 rfl ?_
  refine r_aload_n X 3 d_M_wayNow_53 rfl rfl ?_
  refine r_get X k_M 1 (by decide) f_M_10 rfl (rup_ne (by omega) (hb_1_128)) rfl d_M_wayNow_54 ?_
  refine x_Fi X W0_good hN hE (c_AL_size_8abf5 l D cy t0 a_1 (va_up c 160 (some (.inl (cy 0, 7, .inl (upd (upd (upd (upd (upd (upd (upd (fun _ => 0) 0 (if 0 = (nI a) then 0 else 999)) 1 (if 1 = (nI a) then 0 else 999)) 2 (if 2 = (nI a) then 0 else 999)) 3 (if 3 = (nI a) then 0 else 999)) 4 (if 4 = (nI a) then 0 else 999)) 5 (if 5 = (nI a) then 0 else 999)) 6 (if 6 = (nI a) then 0 else 999)))))) 129 (.int 0) (.ref t0) 0 (rup_ne (by omega) ((hm.2.1)))) yF_size (by decide +kernel) m9_M_124 (rup_ne (by omega) ((hm.2.1))) k_AL.2.1 rfl rfl rfl ⟨by decide, by decide⟩ (Nat.le_of_ble_eq_true rfl) ⟨by decide, by decide⟩ d_M_wayNow_57 (fun r9 ad9 c9 hp9 => ?_)
  obtain ⟨rfl, rfl, rfl⟩ := hp9
  refine r_icmp_ge X 147 d_M_wayNow_62 (by decide) (fun _ => ?_) (fun h9 => absurd h9 (by decide))
  refine r_iinc X 1 [(4, .int 5), (5, .int 0), (3, .ref (a_1 160)), (0, .ref (a_1 128)), (1, .int (nI a)), (2, .int (nI z))] d_M_wayNow_147 rfl (by decide) (by decide) rfl ?_
  refine r_goto X 41 d_M_wayNow_150 (by decide) ?_
  refine r_iload X 0 d_M_wayNow_41 rfl ?_
  refine r_bipush X 7 d_M_wayNow_43 (by decide) ?_
  refine r_icmp_ge X 153 d_M_wayNow_45 (by decide) (fun h9 => absurd h9 (by decide)) (fun _ => ?_)
  refine r_iconst X 0 d_M_wayNow_48 (by decide) ?_
  refine r_istore X [(5, .int 0), (4, .int 5), (3, .ref (a_1 160)), (0, .ref (a_1 128)), (1, .int (nI a)), (2, .int (nI z))] d_M_wayNow_49 (by decide) rfl ?_
  refine r_iload X 0 d_M_wayNow_51 rfl ?_
  refine r_aload_n X 3 d_M_wayNow_53 rfl rfl ?_
  refine r_get X k_M 1 (by decide) f_M_10 rfl (rup_ne (by omega) (hb_1_128)) rfl d_M_wayNow_54 ?_
  refine x_Fi X W0_good hN hE (c_AL_size_8abf5 l D cy t0 a_1 (va_up c 160 (some (.inl (cy 0, 7, .inl (upd (upd (upd (upd (upd (upd (upd (fun _ => 0) 0 (if 0 = (nI a) then 0 else 999)) 1 (if 1 = (nI a) then 0 else 999)) 2 (if 2 = (nI a) then 0 else 999)) 3 (if 3 = (nI a) then 0 else 999)) 4 (if 4 = (nI a) then 0 else 999)) 5 (if 5 = (nI a) then 0 else 999)) 6 (if 6 = (nI a) then 0 else 999)))))) 129 (.int 0) (.ref t0) 0 (rup_ne (by omega) ((hm.2.1)))) yF_size (by decide +kernel) m9_M_124 (rup_ne (by omega) ((hm.2.1))) k_AL.2.1 rfl rfl rfl ⟨by decide, by decide⟩ (Nat.le_of_ble_eq_true rfl) ⟨by decide, by decide⟩ d_M_wayNow_57 (fun r9 ad9 c9 hp9 => ?_)
  obtain ⟨rfl, rfl, rfl⟩ := hp9
  refine r_icmp_ge X 147 d_M_wayNow_62 (by decide) (fun _ => ?_) (fun h9 => absurd h9 (by decide))
  refine r_iinc X 1 [(4, .int 6), (5, .int 0), (3, .ref (a_1 160)), (0, .ref (a_1 128)), (1, .int (nI a)), (2, .int (nI z))] d_M_wayNow_147 rfl (by decide) (by decide) rfl ?_
  refine r_goto X 41 d_M_wayNow_150 (by decide) ?_
  refine r_iload X 0 d_M_wayNow_41 rfl ?_
  refine r_bipush X 7 d_M_wayNow_43 (by decide) ?_
  refine r_icmp_ge X 153 d_M_wayNow_45 (by decide) (fun h9 => absurd h9 (by decide)) (fun _ => ?_)
  refine r_iconst X 0 d_M_wayNow_48 (by decide) ?_
  refine r_istore X [(5, .int 0), (4, .int 6), (3, .ref (a_1 160)), (0, .ref (a_1 128)), (1, .int (nI a)), (2, .int (nI z))] d_M_wayNow_49 (by decide) rfl ?_
  refine r_iload X 0 d_M_wayNow_51 rfl ?_
  refine r_aload_n X 3 d_M_wayNow_53 rfl rfl ?_
  refine r_get X k_M 1 (by decide) f_M_10 rfl (rup_ne (by omega) (hb_1_128)) rfl d_M_wayNow_54 ?_
  refine x_Fi X W0_good hN hE (c_AL_size_8abf5 l D cy t0 a_1 (va_up c 160 (some (.inl (cy 0, 7, .inl (upd (upd (upd (upd (upd (upd (upd (fun _ => 0) 0 (if 0 = (nI a) then 0 else 999)) 1 (if 1 = (nI a) then 0 else 999)) 2 (if 2 = (nI a) then 0 else 999)) 3 (if 3 = (nI a) then 0 else 999)) 4 (if 4 = (nI a) then 0 else 999)) 5 (if 5 = (nI a) then 0 else 999)) 6 (if 6 = (nI a) then 0 else 999)))))) 129 (.int 0) (.ref t0) 0 (rup_ne (by omega) ((hm.2.1)))) yF_size (by decide +kernel) m9_M_124 (rup_ne (by omega) ((hm.2.1))) k_AL.2.1 rfl rfl rfl ⟨by decide, by decide⟩ (Nat.le_of_ble_eq_true rfl) ⟨by decide, by decide⟩ d_M_wayNow_57 (fun r9 ad9 c9 hp9 => ?_)
  obtain ⟨rfl, rfl, rfl⟩ := hp9
  refine r_icmp_ge X 147 d_M_wayNow_62 (by decide) (fun _ => ?_) (fun h9 => absurd h9 (by decide))
  refine r_iinc X 1 [(4, .int 7), (5, .int 0), (3, .ref (a_1 160)), (0, .ref (a_1 128)), (1, .int (nI a)), (2, .int (nI z))] d_M_wayNow_147 rfl (by decide) (by decide) rfl ?_
  refine r_goto X 41 d_M_wayNow_150 (by decide) ?_
  refine r_iload X 0 d_M_wayNow_41 rfl ?_
  refine r_bipush X 7 d_M_wayNow_43 (by decide) ?_
  refine r_icmp_ge X 153 d_M_wayNow_45 (by decide) (fun _ => ?_) (fun h9 => absurd h9 (by decide))
  obtain rfl | rfl | rfl | rfl | rfl | rfl | rfl : z = 0 ∨ z = 1 ∨ z = 2 ∨ z = 3 ∨ z = 4 ∨ z = 5 ∨ z = 6 := by omega
  · refine r_aload_n X 2 d_M_wayNow_153 rfl rfl ?_
    refine r_iload_n X 5 d_M_wayNow_154 rfl rfl ?_
    refine r_iald (v := (if 0 = (nI a) then 0 else 999)) X 0 rup_self rfl (by unfold vp_in; decide +kernel) rfl d_M_wayNow_155 ?_
    by_cases hc9 : 0 = nI a
    · refine r_top (y := 0) (if_pos hc9) ?_
      refine r_sipush X 999 d_M_wayNow_156 (by decide) ?_
      refine r_icmp_ge X 168 d_M_wayNow_159 (by decide) (fun h9 => absurd h9 (by decide)) (fun _ => ?_)
      refine r_aload_n X 2 d_M_wayNow_162 rfl rfl ?_
      refine r_iload_n X 5 d_M_wayNow_163 rfl rfl ?_
      refine r_iald (v := (if 0 = (nI a) then 0 else 999)) X 0 rup_self rfl (by unfold vp_in; decide +kernel) rfl d_M_wayNow_164 ?_
      refine r_top (y := 0) (if_pos hc9) ?_
      refine r_goto X 169 d_M_wayNow_165 (by decide) ?_
      refine r_drop ad c (drop1 (hm.2.2.2.2.2.2.2.2.2.2 160 (by decide)) ha_1) ?_
      exact r_iret (post := fun r ad' c' => (if nI a = nI 0 then (0 : Int32) else -1) = r ∧ ad = ad' ∧ c = c') X hr hlk d_M_wayNow_169 (by decide) (by decide) ⟨if_pos hc9.symm, rfl, rfl⟩
    · refine r_top (y := 999) (if_neg hc9) ?_
      refine r_sipush X 999 d_M_wayNow_156 (by decide) ?_
      refine r_icmp_ge X 168 d_M_wayNow_159 (by decide) (fun _ => ?_) (fun h9 => absurd h9 (by decide))
      refine r_iconst X (-1) d_M_wayNow_168 (by decide) ?_
      refine r_drop ad c (drop1 (hm.2.2.2.2.2.2.2.2.2.2 160 (by decide)) ha_1) ?_
      exact r_iret (post := fun r ad' c' => (if nI a = nI 0 then (0 : Int32) else -1) = r ∧ ad = ad' ∧ c = c') X hr hlk d_M_wayNow_169 (by decide) (by decide) ⟨if_neg (fun h9 => hc9 h9.symm), rfl, rfl⟩
  · refine r_aload_n X 2 d_M_wayNow_153 rfl rfl ?_
    refine r_iload_n X 5 d_M_wayNow_154 rfl rfl ?_
    refine r_iald (v := (if 1 = (nI a) then 0 else 999)) X 0 rup_self rfl (by unfold vp_in; decide +kernel) rfl d_M_wayNow_155 ?_
    by_cases hc9 : 1 = nI a
    · refine r_top (y := 0) (if_pos hc9) ?_
      refine r_sipush X 999 d_M_wayNow_156 (by decide) ?_
      refine r_icmp_ge X 168 d_M_wayNow_159 (by decide) (fun h9 => absurd h9 (by decide)) (fun _ => ?_)
      refine r_aload_n X 2 d_M_wayNow_162 rfl rfl ?_
      refine r_iload_n X 5 d_M_wayNow_163 rfl rfl ?_
      refine r_iald (v := (if 1 = (nI a) then 0 else 999)) X 0 rup_self rfl (by unfold vp_in; decide +kernel) rfl d_M_wayNow_164 ?_
      refine r_top (y := 0) (if_pos hc9) ?_
      refine r_goto X 169 d_M_wayNow_165 (by decide) ?_
      refine r_drop ad c (drop1 (hm.2.2.2.2.2.2.2.2.2.2 160 (by decide)) ha_1) ?_
      exact r_iret (post := fun r ad' c' => (if nI a = nI 1 then (0 : Int32) else -1) = r ∧ ad = ad' ∧ c = c') X hr hlk d_M_wayNow_169 (by decide) (by decide) ⟨if_pos hc9.symm, rfl, rfl⟩
    · refine r_top (y := 999) (if_neg hc9) ?_
      refine r_sipush X 999 d_M_wayNow_156 (by decide) ?_
      refine r_icmp_ge X 168 d_M_wayNow_159 (by decide) (fun _ => ?_) (fun h9 => absurd h9 (by decide))
      refine r_iconst X (-1) d_M_wayNow_168 (by decide) ?_
      refine r_drop ad c (drop1 (hm.2.2.2.2.2.2.2.2.2.2 160 (by decide)) ha_1) ?_
      exact r_iret (post := fun r ad' c' => (if nI a = nI 1 then (0 : Int32) else -1) = r ∧ ad = ad' ∧ c = c') X hr hlk d_M_wayNow_169 (by decide) (by decide) ⟨if_neg (fun h9 => hc9 h9.symm), rfl, rfl⟩
  · refine r_aload_n X 2 d_M_wayNow_153 rfl rfl ?_
    refine r_iload_n X 5 d_M_wayNow_154 rfl rfl ?_
    refine r_iald (v := (if 2 = (nI a) then 0 else 999)) X 0 rup_self rfl (by unfold vp_in; decide +kernel) rfl d_M_wayNow_155 ?_
    by_cases hc9 : 2 = nI a
    · refine r_top (y := 0) (if_pos hc9) ?_
      refine r_sipush X 999 d_M_wayNow_156 (by decide) ?_
      refine r_icmp_ge X 168 d_M_wayNow_159 (by decide) (fun h9 => absurd h9 (by decide)) (fun _ => ?_)
      refine r_aload_n X 2 d_M_wayNow_162 rfl rfl ?_
      refine r_iload_n X 5 d_M_wayNow_163 rfl rfl ?_
      refine r_iald (v := (if 2 = (nI a) then 0 else 999)) X 0 rup_self rfl (by unfold vp_in; decide +kernel) rfl d_M_wayNow_164 ?_
      refine r_top (y := 0) (if_pos hc9) ?_
      refine r_goto X 169 d_M_wayNow_165 (by decide) ?_
      refine r_drop ad c (drop1 (hm.2.2.2.2.2.2.2.2.2.2 160 (by decide)) ha_1) ?_
      exact r_iret (post := fun r ad' c' => (if nI a = nI 2 then (0 : Int32) else -1) = r ∧ ad = ad' ∧ c = c') X hr hlk d_M_wayNow_169 (by decide) (by decide) ⟨if_pos hc9.symm, rfl, rfl⟩
    · refine r_top (y := 999) (if_neg hc9) ?_
      refine r_sipush X 999 d_M_wayNow_156 (by decide) ?_
      refine r_icmp_ge X 168 d_M_wayNow_159 (by decide) (fun _ => ?_) (fun h9 => absurd h9 (by decide))
      refine r_iconst X (-1) d_M_wayNow_168 (by decide) ?_
      refine r_drop ad c (drop1 (hm.2.2.2.2.2.2.2.2.2.2 160 (by decide)) ha_1) ?_
      exact r_iret (post := fun r ad' c' => (if nI a = nI 2 then (0 : Int32) else -1) = r ∧ ad = ad' ∧ c = c') X hr hlk d_M_wayNow_169 (by decide) (by decide) ⟨if_neg (fun h9 => hc9 h9.symm), rfl, rfl⟩
  · refine r_aload_n X 2 d_M_wayNow_153 rfl rfl ?_
    refine r_iload_n X 5 d_M_wayNow_154 rfl rfl ?_
    refine r_iald (v := (if 3 = (nI a) then 0 else 999)) X 0 rup_self rfl (by unfold vp_in; decide +kernel) rfl d_M_wayNow_155 ?_
    by_cases hc9 : 3 = nI a
    · refine r_top (y := 0) (if_pos hc9) ?_
      refine r_sipush X 999 d_M_wayNow_156 (by decide) ?_
      refine r_icmp_ge X 168 d_M_wayNow_159 (by decide) (fun h9 => absurd h9 (by decide)) (fun _ => ?_)
      refine r_aload_n X 2 d_M_wayNow_162 rfl rfl ?_
      refine r_iload_n X 5 d_M_wayNow_163 rfl rfl ?_
      refine r_iald (v := (if 3 = (nI a) then 0 else 999)) X 0 rup_self rfl (by unfold vp_in; decide +kernel) rfl d_M_wayNow_164 ?_
      refine r_top (y := 0) (if_pos hc9) ?_
      refine r_goto X 169 d_M_wayNow_165 (by decide) ?_
      refine r_drop ad c (drop1 (hm.2.2.2.2.2.2.2.2.2.2 160 (by decide)) ha_1) ?_
      exact r_iret (post := fun r ad' c' => (if nI a = nI 3 then (0 : Int32) else -1) = r ∧ ad = ad' ∧ c = c') X hr hlk d_M_wayNow_169 (by decide) (by decide) ⟨if_pos hc9.symm, rfl, rfl⟩
    · refine r_top (y := 999) (if_neg hc9) ?_
      refine r_sipush X 999 d_M_wayNow_156 (by decide) ?_
      refine r_icmp_ge X 168 d_M_wayNow_159 (by decide) (fun _ => ?_) (fun h9 => absurd h9 (by decide))
      refine r_iconst X (-1) d_M_wayNow_168 (by decide) ?_
      refine r_drop ad c (drop1 (hm.2.2.2.2.2.2.2.2.2.2 160 (by decide)) ha_1) ?_
      exact r_iret (post := fun r ad' c' => (if nI a = nI 3 then (0 : Int32) else -1) = r ∧ ad = ad' ∧ c = c') X hr hlk d_M_wayNow_169 (by decide) (by decide) ⟨if_neg (fun h9 => hc9 h9.symm), rfl, rfl⟩
  · refine r_aload_n X 2 d_M_wayNow_153 rfl rfl ?_
    refine r_iload_n X 5 d_M_wayNow_154 rfl rfl ?_
    refine r_iald (v := (if 4 = (nI a) then 0 else 999)) X 0 rup_self rfl (by unfold vp_in; decide +kernel) rfl d_M_wayNow_155 ?_
    by_cases hc9 : 4 = nI a
    · refine r_top (y := 0) (if_pos hc9) ?_
      refine r_sipush X 999 d_M_wayNow_156 (by decide) ?_
      refine r_icmp_ge X 168 d_M_wayNow_159 (by decide) (fun h9 => absurd h9 (by decide)) (fun _ => ?_)
      refine r_aload_n X 2 d_M_wayNow_162 rfl rfl ?_
      refine r_iload_n X 5 d_M_wayNow_163 rfl rfl ?_
      refine r_iald (v := (if 4 = (nI a) then 0 else 999)) X 0 rup_self rfl (by unfold vp_in; decide +kernel) rfl d_M_wayNow_164 ?_
      refine r_top (y := 0) (if_pos hc9) ?_
      refine r_goto X 169 d_M_wayNow_165 (by decide) ?_
      refine r_drop ad c (drop1 (hm.2.2.2.2.2.2.2.2.2.2 160 (by decide)) ha_1) ?_
      exact r_iret (post := fun r ad' c' => (if nI a = nI 4 then (0 : Int32) else -1) = r ∧ ad = ad' ∧ c = c') X hr hlk d_M_wayNow_169 (by decide) (by decide) ⟨if_pos hc9.symm, rfl, rfl⟩
    · refine r_top (y := 999) (if_neg hc9) ?_
      refine r_sipush X 999 d_M_wayNow_156 (by decide) ?_
      refine r_icmp_ge X 168 d_M_wayNow_159 (by decide) (fun _ => ?_) (fun h9 => absurd h9 (by decide))
      refine r_iconst X (-1) d_M_wayNow_168 (by decide) ?_
      refine r_drop ad c (drop1 (hm.2.2.2.2.2.2.2.2.2.2 160 (by decide)) ha_1) ?_
      exact r_iret (post := fun r ad' c' => (if nI a = nI 4 then (0 : Int32) else -1) = r ∧ ad = ad' ∧ c = c') X hr hlk d_M_wayNow_169 (by decide) (by decide) ⟨if_neg (fun h9 => hc9 h9.symm), rfl, rfl⟩
  · refine r_aload_n X 2 d_M_wayNow_153 rfl rfl ?_
    refine r_iload_n X 5 d_M_wayNow_154 rfl rfl ?_
    refine r_iald (v := (if 5 = (nI a) then 0 else 999)) X 0 rup_self rfl (by unfold vp_in; decide +kernel) rfl d_M_wayNow_155 ?_
    by_cases hc9 : 5 = nI a
    · refine r_top (y := 0) (if_pos hc9) ?_
      refine r_sipush X 999 d_M_wayNow_156 (by decide) ?_
      refine r_icmp_ge X 168 d_M_wayNow_159 (by decide) (fun h9 => absurd h9 (by decide)) (fun _ => ?_)
      refine r_aload_n X 2 d_M_wayNow_162 rfl rfl ?_
      refine r_iload_n X 5 d_M_wayNow_163 rfl rfl ?_
      refine r_iald (v := (if 5 = (nI a) then 0 else 999)) X 0 rup_self rfl (by unfold vp_in; decide +kernel) rfl d_M_wayNow_164 ?_
      refine r_top (y := 0) (if_pos hc9) ?_
      refine r_goto X 169 d_M_wayNow_165 (by decide) ?_
      refine r_drop ad c (drop1 (hm.2.2.2.2.2.2.2.2.2.2 160 (by decide)) ha_1) ?_
      exact r_iret (post := fun r ad' c' => (if nI a = nI 5 then (0 : Int32) else -1) = r ∧ ad = ad' ∧ c = c') X hr hlk d_M_wayNow_169 (by decide) (by decide) ⟨if_pos hc9.symm, rfl, rfl⟩
    · refine r_top (y := 999) (if_neg hc9) ?_
      refine r_sipush X 999 d_M_wayNow_156 (by decide) ?_
      refine r_icmp_ge X 168 d_M_wayNow_159 (by decide) (fun _ => ?_) (fun h9 => absurd h9 (by decide))
      refine r_iconst X (-1) d_M_wayNow_168 (by decide) ?_
      refine r_drop ad c (drop1 (hm.2.2.2.2.2.2.2.2.2.2 160 (by decide)) ha_1) ?_
      exact r_iret (post := fun r ad' c' => (if nI a = nI 5 then (0 : Int32) else -1) = r ∧ ad = ad' ∧ c = c') X hr hlk d_M_wayNow_169 (by decide) (by decide) ⟨if_neg (fun h9 => hc9 h9.symm), rfl, rfl⟩
  · refine r_aload_n X 2 d_M_wayNow_153 rfl rfl ?_
    refine r_iload_n X 5 d_M_wayNow_154 rfl rfl ?_
    refine r_iald (v := (if 6 = (nI a) then 0 else 999)) X 0 rup_self rfl (by unfold vp_in; decide +kernel) rfl d_M_wayNow_155 ?_
    by_cases hc9 : 6 = nI a
    · refine r_top (y := 0) (if_pos hc9) ?_
      refine r_sipush X 999 d_M_wayNow_156 (by decide) ?_
      refine r_icmp_ge X 168 d_M_wayNow_159 (by decide) (fun h9 => absurd h9 (by decide)) (fun _ => ?_)
      refine r_aload_n X 2 d_M_wayNow_162 rfl rfl ?_
      refine r_iload_n X 5 d_M_wayNow_163 rfl rfl ?_
      refine r_iald (v := (if 6 = (nI a) then 0 else 999)) X 0 rup_self rfl (by unfold vp_in; decide +kernel) rfl d_M_wayNow_164 ?_
      refine r_top (y := 0) (if_pos hc9) ?_
      refine r_goto X 169 d_M_wayNow_165 (by decide) ?_
      refine r_drop ad c (drop1 (hm.2.2.2.2.2.2.2.2.2.2 160 (by decide)) ha_1) ?_
      exact r_iret (post := fun r ad' c' => (if nI a = nI 6 then (0 : Int32) else -1) = r ∧ ad = ad' ∧ c = c') X hr hlk d_M_wayNow_169 (by decide) (by decide) ⟨if_pos hc9.symm, rfl, rfl⟩
    · refine r_top (y := 999) (if_neg hc9) ?_
      refine r_sipush X 999 d_M_wayNow_156 (by decide) ?_
      refine r_icmp_ge X 168 d_M_wayNow_159 (by decide) (fun _ => ?_) (fun h9 => absurd h9 (by decide))
      refine r_iconst X (-1) d_M_wayNow_168 (by decide) ?_
      refine r_drop ad c (drop1 (hm.2.2.2.2.2.2.2.2.2.2 160 (by decide)) ha_1) ?_
      exact r_iret (post := fun r ad' c' => (if nI a = nI 6 then (0 : Int32) else -1) = r ∧ ad = ad' ∧ c = c') X hr hlk d_M_wayNow_169 (by decide) (by decide) ⟨if_neg (fun h9 => hc9 h9.symm), rfl, rfl⟩
set_option maxRecDepth 100000 in
set_option maxHeartbeats 4000000 in
theorem c_M_many (l : Launch) (D : va_G) (cy : Nat → ClassId) (t0 : Nat) (ad : Nat → Nat) (c : rC) (f1 f2 : Nat → Option Nat) (hm : mC t0 f1 f2 cy ad c) (p0 : Int32)  : xMi l D cls (TY cy) NW t0 y_M_many (Cond.code y_M_many b_M_many 2 rt_M_many :: W0) { frames := 3, cells := 1, slots := 15, locals := 66 } [.ref (ad 128), .int p0] ad c (fun r ad' c' => ((kF_many p0) = 0 → r = (cntF S00 (p0).toNatClampNeg)) ∧ (∀ j, j < 160 → ad' j = ad j) ∧ (∀ j, j < 128 → c' j = c j) ∧ ∃ fs, c' 128 = some (.inr (11, .int (kF_many p0) :: fs))) := by
  intro sz
  refine x_of (own := R_M) rfl (by decide +kernel) (Nat.le_of_ble_eq_true rfl) ?_
  intro p e s m below meth cd hsz X hr hlk hN hE hin
  refine r_lv [0, 1] [(0, .ref (ad 128)), (1, .int p0)] rfl ?_
  refine r_aload_n X 0 d_M_many_0 rfl rfl ?_
  refine r_iconst X 0 d_M_many_1 (by decide) ?_
  refine r_put X k_M 0 (by decide) f_M_38 rfl (hm.1) rfl rfl rfl (Nat.le_of_ble_eq_true rfl) [.int 0, .ref (ad 129), .ref (ad 130), .ref (ad 131), .ref (ad 152), .ref (ad 158), .int 0, .int 0, .int 0, .int 100, .int 0, .int 0, .int 0, .int 0, .int 0, .int 0] rfl (va_up c 128 (some (.inr (11, [.int 0, .ref (ad 129), .ref (ad 130), .ref (ad 131), .ref (ad 152), .ref (ad 158), .int 0, .int 0, .int 0, .int 100, .int 0, .int 0, .int 0, .int 0, .int 0, .int 0])))) rfl d_M_many_2 ?_
  refine r_c c (rup_id hm.1) ?_
  refine r_iload_n X 1 d_M_many_5 rfl rfl ?_
  refine r_iconst X 0 d_M_many_6 (by decide) ?_
  refine r_bipush X 14 d_M_many_7 (by decide) ?_
  refine r_Si X W0_good hN (c_M_in l D cy ad (c) p0 0 14) ys_M_in m_M_167 rfl rfl ⟨by decide, by decide⟩ (Nat.le_of_ble_eq_true rfl) ⟨by decide, by decide⟩ d_M_many_9 (fun r9 ad9 c9 hp9 => ?_)
  obtain ⟨rfl, rfl, rfl⟩ := hp9
  rcases inF_or p0 0 14 with hq_1 | hq_1
  · refine r_top (y := 1) hq_1 ?_
    refine r_if_ne X 21 d_M_many_12 (by decide) (fun _ => ?_) (fun h9 => absurd h9 (by decide))
    refine r_aload_n X 0 d_M_many_21 rfl rfl ?_
    refine r_iload_n X 1 d_M_many_22 rfl rfl ?_
    obtain ⟨t, ht1, ht2, hte⟩ := inF_nI (a := 0) (n := 14) (by decide) (by decide) hq_1
    subst hte
    refine x_Vi X W0_good hN hE (c_M_manyNow l D cy t0 ad (c) f1 f2 hm t (by omega)) yv_M_manyNow m_M_246 (hm.1) k_M.2.1 rfl rfl rfl ⟨by decide, by decide⟩ (Nat.le_of_ble_eq_true rfl) ⟨by decide, by decide⟩ d_M_many_23 (fun r9 ad9 c9 hp9 => ?_)
    obtain ⟨rfl, rfl, rfl⟩ := hp9
    have hk_2 : (kF_many (nI t)) = 0 := by unfold kF_many; rw [if_pos hq_1]
    exact r_iret (post := fun r ad' c' => ((kF_many (nI t)) = 0 → r = (cntF S00 ((nI t)).toNatClampNeg)) ∧ (∀ j, j < 160 → ad' j = ad j) ∧ (∀ j, j < 128 → c' j = c j) ∧ ∃ fs, c' 128 = some (.inr (11, .int (kF_many (nI t)) :: fs))) X hr hlk d_M_many_26 (by decide) (by decide) ⟨(fun _ => (by rw [nI_clamp (by omega)])), (fun j hj => rfl), (fun j hj => rfl), _, (by rw [hk_2]; exact (hm.1))⟩
  · refine r_top (y := 0) hq_1 ?_
    refine r_if_ne X 21 d_M_many_12 (by decide) (fun h9 => absurd h9 (by decide)) (fun _ => ?_)
    refine r_aload_n X 0 d_M_many_15 rfl rfl ?_
    refine r_iconst X 1 d_M_many_16 (by decide) ?_
    refine r_Vi X W0_good hN (c_M_no l D cy ad (c) t0 f1 f2 hm 1) yv_M_no m_M_174 (hm.1) k_M.2.1 rfl rfl rfl ⟨by decide, by decide⟩ (Nat.le_of_ble_eq_true rfl) ⟨by decide, by decide⟩ d_M_many_17 (fun r9 ad9 c9 hp9 => ?_)
    obtain ⟨rfl, rfl, rfl⟩ := hp9
    have hk_3 : (kF_many p0) = 1 := by unfold kF_many; rw [if_neg (inF_n1 hq_1)]
    exact r_iret (post := fun r ad' c' => ((kF_many p0) = 0 → r = (cntF S00 (p0).toNatClampNeg)) ∧ (∀ j, j < 160 → ad' j = ad j) ∧ (∀ j, j < 128 → c' j = c j) ∧ ∃ fs, c' 128 = some (.inr (11, .int (kF_many p0) :: fs))) X hr hlk d_M_many_20 (by decide) (by decide) ⟨(fun h9 => absurd (hk_3.symm.trans h9) (by decide)), (fun j hj => rfl), (fun j hj => (rup_ne (by omega) rfl)), _, (by rw [hk_3]; exact rup_self)⟩
set_option maxRecDepth 100000 in
set_option maxHeartbeats 4000000 in
theorem c_M_way (l : Launch) (D : va_G) (cy : Nat → ClassId) (t0 : Nat) (ad : Nat → Nat) (c : rC) (f1 f2 : Nat → Option Nat) (hm : mC t0 f1 f2 cy ad c) (p0 p1 : Int32)  : xMi l D cls (TY cy) NW t0 y_M_way (Cond.code y_M_way b_M_way 3 rt_M_way :: W0) { frames := 2, cells := 1, slots := 7, locals := 47 } [.ref (ad 128), .int p0, .int p1] ad c (fun r ad' c' => ((kF_way p0 p1) = 0 → r = (if p0 = p1 then 0 else -1)) ∧ (∀ j, j < 160 → ad' j = ad j) ∧ (∀ j, j < 128 → c' j = c j) ∧ ∃ fs, c' 128 = some (.inr (11, .int (kF_way p0 p1) :: fs))) := by
  intro sz
  refine x_of (own := R_M) rfl (by decide +kernel) (Nat.le_of_ble_eq_true rfl) ?_
  intro p e s m below meth cd hsz X hr hlk hN hE hin
  refine r_lv [0, 1, 2] [(0, .ref (ad 128)), (1, .int p0), (2, .int p1)] rfl ?_
  refine r_aload_n X 0 d_M_way_0 rfl rfl ?_
  refine r_iconst X 0 d_M_way_1 (by decide) ?_
  refine r_put X k_M 0 (by decide) f_M_38 rfl (hm.1) rfl rfl rfl (Nat.le_of_ble_eq_true rfl) [.int 0, .ref (ad 129), .ref (ad 130), .ref (ad 131), .ref (ad 152), .ref (ad 158), .int 0, .int 0, .int 0, .int 100, .int 0, .int 0, .int 0, .int 0, .int 0, .int 0] rfl (va_up c 128 (some (.inr (11, [.int 0, .ref (ad 129), .ref (ad 130), .ref (ad 131), .ref (ad 152), .ref (ad 158), .int 0, .int 0, .int 0, .int 100, .int 0, .int 0, .int 0, .int 0, .int 0, .int 0])))) rfl d_M_way_2 ?_
  refine r_c c (rup_id hm.1) ?_
  refine r_iload_n X 1 d_M_way_5 rfl rfl ?_
  refine r_Si X W0_good hN (c_M_isNode l D cy ad (c) p0) ys_M_isNode m_M_171 rfl rfl ⟨by decide, by decide⟩ (Nat.le_of_ble_eq_true rfl) ⟨by decide, by decide⟩ d_M_way_6 (fun r9 ad9 c9 hp9 => ?_)
  obtain ⟨rfl, rfl, rfl⟩ := hp9
  rcases inF_or p0 0 6 with hq_1 | hq_1
  · refine r_top (y := 1) hq_1 ?_
    refine r_if_eq X 19 d_M_way_9 (by decide) (fun h9 => absurd h9 (by decide)) (fun _ => ?_)
    refine r_iload_n X 2 d_M_way_12 rfl rfl ?_
    refine r_Si X W0_good hN (c_M_isNode l D cy ad (c) p1) ys_M_isNode m_M_171 rfl rfl ⟨by decide, by decide⟩ (Nat.le_of_ble_eq_true rfl) ⟨by decide, by decide⟩ d_M_way_13 (fun r9 ad9 c9 hp9 => ?_)
    obtain ⟨rfl, rfl, rfl⟩ := hp9
    rcases inF_or p1 0 6 with hq_2 | hq_2
    · refine r_top (y := 1) hq_2 ?_
      refine r_if_ne X 25 d_M_way_16 (by decide) (fun _ => ?_) (fun h9 => absurd h9 (by decide))
      refine r_aload_n X 0 d_M_way_25 rfl rfl ?_
      refine r_iload_n X 1 d_M_way_26 rfl rfl ?_
      refine r_iload_n X 2 d_M_way_27 rfl rfl ?_
      obtain ⟨t, ht1, ht2, hte⟩ := inF_nI (a := 0) (n := 6) (by decide) (by decide) hq_1
      subst hte
      obtain ⟨u, hu1, hu2, hue⟩ := inF_nI (a := 0) (n := 6) (by decide) (by decide) hq_2
      subst hue
      refine x_Vi X W0_good hN hE (c_M_wayNow l D cy t0 ad (c) f1 f2 hm t u (by omega) (by omega)) yv_M_wayNow m_M_249 (hm.1) k_M.2.1 rfl rfl rfl ⟨by decide, by decide⟩ (Nat.le_of_ble_eq_true rfl) ⟨by decide, by decide⟩ d_M_way_28 (fun r9 ad9 c9 hp9 => ?_)
      obtain ⟨rfl, rfl, rfl⟩ := hp9
      have hk_3 : (kF_way (nI t) (nI u)) = 0 := by unfold kF_way; rw [if_pos hq_1, if_pos hq_2]
      exact r_iret (post := fun r ad' c' => ((kF_way (nI t) (nI u)) = 0 → r = (if (nI t) = (nI u) then 0 else -1)) ∧ (∀ j, j < 160 → ad' j = ad j) ∧ (∀ j, j < 128 → c' j = c j) ∧ ∃ fs, c' 128 = some (.inr (11, .int (kF_way (nI t) (nI u)) :: fs))) X hr hlk d_M_way_31 (by decide) (by decide) ⟨(fun _ => rfl), (fun j hj => rfl), (fun j hj => rfl), _, (by rw [hk_3]; exact (hm.1))⟩
    · refine r_top (y := 0) hq_2 ?_
      refine r_if_ne X 25 d_M_way_16 (by decide) (fun h9 => absurd h9 (by decide)) (fun _ => ?_)
      refine r_aload_n X 0 d_M_way_19 rfl rfl ?_
      refine r_iconst X 1 d_M_way_20 (by decide) ?_
      refine r_Vi X W0_good hN (c_M_no l D cy ad (c) t0 f1 f2 hm 1) yv_M_no m_M_174 (hm.1) k_M.2.1 rfl rfl rfl ⟨by decide, by decide⟩ (Nat.le_of_ble_eq_true rfl) ⟨by decide, by decide⟩ d_M_way_21 (fun r9 ad9 c9 hp9 => ?_)
      obtain ⟨rfl, rfl, rfl⟩ := hp9
      have hk_4 : (kF_way p0 p1) = 1 := by unfold kF_way; rw [if_pos hq_1, if_neg (inF_n1 hq_2)]
      exact r_iret (post := fun r ad' c' => ((kF_way p0 p1) = 0 → r = (if p0 = p1 then 0 else -1)) ∧ (∀ j, j < 160 → ad' j = ad j) ∧ (∀ j, j < 128 → c' j = c j) ∧ ∃ fs, c' 128 = some (.inr (11, .int (kF_way p0 p1) :: fs))) X hr hlk d_M_way_24 (by decide) (by decide) ⟨(fun h9 => absurd (hk_4.symm.trans h9) (by decide)), (fun j hj => rfl), (fun j hj => (rup_ne (by omega) rfl)), _, (by rw [hk_4]; exact rup_self)⟩
  · refine r_top (y := 0) hq_1 ?_
    refine r_if_eq X 19 d_M_way_9 (by decide) (fun _ => ?_) (fun h9 => absurd h9 (by decide))
    refine r_aload_n X 0 d_M_way_19 rfl rfl ?_
    refine r_iconst X 1 d_M_way_20 (by decide) ?_
    refine r_Vi X W0_good hN (c_M_no l D cy ad (c) t0 f1 f2 hm 1) yv_M_no m_M_174 (hm.1) k_M.2.1 rfl rfl rfl ⟨by decide, by decide⟩ (Nat.le_of_ble_eq_true rfl) ⟨by decide, by decide⟩ d_M_way_21 (fun r9 ad9 c9 hp9 => ?_)
    obtain ⟨rfl, rfl, rfl⟩ := hp9
    have hk_5 : (kF_way p0 p1) = 1 := by unfold kF_way; rw [if_neg (inF_n1 hq_1)]
    exact r_iret (post := fun r ad' c' => ((kF_way p0 p1) = 0 → r = (if p0 = p1 then 0 else -1)) ∧ (∀ j, j < 160 → ad' j = ad j) ∧ (∀ j, j < 128 → c' j = c j) ∧ ∃ fs, c' 128 = some (.inr (11, .int (kF_way p0 p1) :: fs))) X hr hlk d_M_way_24 (by decide) (by decide) ⟨(fun h9 => absurd (hk_5.symm.trans h9) (by decide)), (fun j hj => rfl), (fun j hj => (rup_ne (by omega) rfl)), _, (by rw [hk_5]; exact rup_self)⟩
set_option maxRecDepth 100000 in
set_option maxHeartbeats 4000000 in
theorem c_M_quarter (l : Launch) (D : va_G) (cy : Nat → ClassId) (t0 : Nat) (ad : Nat → Nat) (c : rC) (x9 : Int32) (h0 : c 128 = some (.inr (11, [.int 0, .ref (ad 129), .ref (ad 130), .ref (ad 131), .ref (ad 152), .ref (ad 158), .int 0, .int 0, .int x9, .int 100, .int 0, .int 0, .int 0, .int 0, .int 0, .int 0]))) (h1 : c 129 = some (.inr (12, [.int 0, .ref t0, .int 0]))) (h2 : c 130 = some (.inr (12, [.int 0, .ref t0, .int 0]))) : xMi l D cls (TY cy) NW t0 y_M_quarter (Cond.code y_M_quarter b_M_quarter 6 rt_M_quarter :: W0) { frames := 3, cells := 0, slots := 0, locals := 103 } [.ref (ad 128)] ad c (fun r ad' c' => 0 = r ∧ ad = ad' ∧ va_up c 128 (some (.inr (11, [.int 0, .ref (ad 129), .ref (ad 130), .ref (ad 131), .ref (ad 152), .ref (ad 158), .int 0, .int 0, .int (x9 + 1), .int 100, .int 0, .int 0, .int 0, .int 0, .int 0, .int 0]))) = c') := by
  intro sz
  refine x_of (own := R_M) rfl (by decide +kernel) (Nat.le_of_ble_eq_true rfl) ?_
  intro p e s m below meth cd hsz X hr hlk hN hE hin
  refine r_lv [0] [(0, .ref (ad 128))] rfl ?_
  refine r_aload_n X 0 d_M_quarter_0 rfl rfl ?_
  refine r_dup X d_M_quarter_1 rfl ?_
  refine r_get X k_M 8 (by decide) f_M_114 rfl h0 rfl d_M_quarter_2 ?_
  refine r_iconst X 1 d_M_quarter_5 (by decide) ?_
  refine r_iadd X d_M_quarter_6 ?_
  refine r_put X k_M 8 (by decide) f_M_114 rfl h0 rfl rfl rfl (Nat.le_of_ble_eq_true rfl) [.int 0, .ref (ad 129), .ref (ad 130), .ref (ad 131), .ref (ad 152), .ref (ad 158), .int 0, .int 0, .int (x9 + 1), .int 100, .int 0, .int 0, .int 0, .int 0, .int 0, .int 0] rfl (va_up c 128 (some (.inr (11, [.int 0, .ref (ad 129), .ref (ad 130), .ref (ad 131), .ref (ad 152), .ref (ad 158), .int 0, .int 0, .int (x9 + 1), .int 100, .int 0, .int 0, .int 0, .int 0, .int 0, .int 0])))) rfl d_M_quarter_7 ?_
  refine r_iconst X 0 d_M_quarter_10 (by decide) ?_
  refine r_istore_n X [(1, .int 0), (0, .ref (ad 128))] d_M_quarter_11 rfl (by decide) rfl ?_
  refine r_iconst X 0 d_M_quarter_12 (by decide) ?_
  refine r_istore_n X [(2, .int 0), (1, .int 0), (0, .ref (ad 128))] d_M_quarter_13 rfl (by decide) rfl ?_
  refine r_iload_n X 0 d_M_quarter_14 rfl rfl ?_
  refine r_aload_n X 2 d_M_quarter_15 rfl rfl ?_
  refine r_get X k_M 1 (by decide) f_M_10 rfl rup_self rfl d_M_quarter_16 ?_
  refine x_Fi X W0_good hN hE (c_AL_size_8abf5 l D cy t0 ad (va_up c 128 (some (.inr (11, [.int 0, .ref (ad 129), .ref (ad 130), .ref (ad 131), .ref (ad 152), .ref (ad 158), .int 0, .int 0, .int (x9 + 1), .int 100, .int 0, .int 0, .int 0, .int 0, .int 0, .int 0])))) 129 (.int 0) (.ref t0) 0 (rup_ne (by omega) (h1))) yF_size (by decide +kernel) m9_M_124 (rup_ne (by omega) (h1)) k_AL.2.1 rfl rfl rfl ⟨by decide, by decide⟩ (Nat.le_of_ble_eq_true rfl) ⟨by decide, by decide⟩ d_M_quarter_19 (fun r9 ad9 c9 hp9 => ?_)
  obtain ⟨rfl, rfl, rfl⟩ := hp9
  refine r_icmp_ge X 139 d_M_quarter_24 (by decide) (fun _ => ?_) (fun h9 => absurd h9 (by decide))
  refine r_iconst X 0 d_M_quarter_139 (by decide) ?_
  refine r_istore_n X [(2, .int 0), (1, .int 0), (0, .ref (ad 128))] d_M_quarter_140 rfl (by decide) rfl ?_
  refine r_iload_n X 0 d_M_quarter_141 rfl rfl ?_
  refine r_aload_n X 2 d_M_quarter_142 rfl rfl ?_
  refine r_get X k_M 2 (by decide) f_M_16 rfl rup_self rfl d_M_quarter_143 ?_
  refine x_Fi X W0_good hN hE (c_AL_size_8abf5 l D cy t0 ad (va_up c 128 (some (.inr (11, [.int 0, .ref (ad 129), .ref (ad 130), .ref (ad 131), .ref (ad 152), .ref (ad 158), .int 0, .int 0, .int (x9 + 1), .int 100, .int 0, .int 0, .int 0, .int 0, .int 0, .int 0])))) 130 (.int 0) (.ref t0) 0 (rup_ne (by omega) (h2))) yF_size (by decide +kernel) m9_M_124 (rup_ne (by omega) (h2)) k_AL.2.1 rfl rfl rfl ⟨by decide, by decide⟩ (Nat.le_of_ble_eq_true rfl) ⟨by decide, by decide⟩ d_M_quarter_146 (fun r9 ad9 c9 hp9 => ?_)
  obtain ⟨rfl, rfl, rfl⟩ := hp9
  refine r_icmp_ge X 177 d_M_quarter_151 (by decide) (fun _ => ?_) (fun h9 => absurd h9 (by decide))
  refine r_iconst X 0 d_M_quarter_177 (by decide) ?_
  refine r_istore_n X [(2, .int 0), (1, .int 0), (0, .ref (ad 128))] d_M_quarter_178 rfl (by decide) rfl ?_
  refine r_iconst X 0 d_M_quarter_179 (by decide) ?_
  refine r_istore_n X [(3, .int 0), (2, .int 0), (1, .int 0), (0, .ref (ad 128))] d_M_quarter_180 rfl (by decide) rfl ?_
  refine r_iload_n X 0 d_M_quarter_181 rfl rfl ?_
  refine r_aload_n X 3 d_M_quarter_182 rfl rfl ?_
  refine r_get X k_M 7 (by decide) f_M_158 rfl rup_self rfl d_M_quarter_183 ?_
  refine r_icmp_ge X 299 d_M_quarter_186 (by decide) (fun _ => ?_) (fun h9 => absurd h9 (by decide))
  refine r_aload_n X 3 d_M_quarter_299 rfl rfl ?_
  refine r_iload_n X 1 d_M_quarter_300 rfl rfl ?_
  refine r_put X k_M 7 (by decide) f_M_158 rfl rup_self rfl rfl rfl (Nat.le_of_ble_eq_true rfl) [.int 0, .ref (ad 129), .ref (ad 130), .ref (ad 131), .ref (ad 152), .ref (ad 158), .int 0, .int 0, .int (x9 + 1), .int 100, .int 0, .int 0, .int 0, .int 0, .int 0, .int 0] rfl (va_up c 128 (some (.inr (11, [.int 0, .ref (ad 129), .ref (ad 130), .ref (ad 131), .ref (ad 152), .ref (ad 158), .int 0, .int 0, .int (x9 + 1), .int 100, .int 0, .int 0, .int 0, .int 0, .int 0, .int 0])))) rup_up d_M_quarter_301 ?_
  refine r_iload_n X 2 d_M_quarter_304 rfl rfl ?_
  exact r_iret (post := fun r ad' c' => 0 = r ∧ ad = ad' ∧ va_up c 128 (some (.inr (11, [.int 0, .ref (ad 129), .ref (ad 130), .ref (ad 131), .ref (ad 152), .ref (ad 158), .int 0, .int 0, .int (x9 + 1), .int 100, .int 0, .int 0, .int 0, .int 0, .int 0, .int 0]))) = c') X hr hlk d_M_quarter_305 (by decide) (by decide) ⟨by (try simp only []); first | done | rfl | exact rup_id (by assumption), rfl, rfl⟩
set_option maxRecDepth 100000 in
set_option maxHeartbeats 4000000 in
theorem c_M_pass (l : Launch) (D : va_G) (cy : Nat → ClassId) (t0 : Nat) (ad : Nat → Nat) (c : rC) (f1 f2 : Nat → Option Nat) (hm : mC t0 f1 f2 cy ad c) (p0 : Int32)  : xMi l D cls (TY cy) NW t0 y_M_pass (Cond.code y_M_pass b_M_pass 4 rt_M_pass :: W0) { frames := 4, cells := 0, slots := 0, locals := 128 } [.ref (ad 128), .int p0] ad c (fun r ad' c' => ((kF_pass p0) = 0 → r = 0) ∧ (∀ j, j < 160 → ad' j = ad j) ∧ (∀ j, j < 128 → c' j = c j) ∧ ∃ fs, c' 128 = some (.inr (11, .int (kF_pass p0) :: fs))) := by
  intro sz
  refine x_of (own := R_M) rfl (by decide +kernel) (Nat.le_of_ble_eq_true rfl) ?_
  intro p e s m below meth cd hsz X hr hlk hN hE hin
  refine r_lv [0, 1] [(0, .ref (ad 128)), (1, .int p0)] rfl ?_
  refine r_aload_n X 0 d_M_pass_0 rfl rfl ?_
  refine r_iconst X 0 d_M_pass_1 (by decide) ?_
  refine r_put X k_M 0 (by decide) f_M_38 rfl (hm.1) rfl rfl rfl (Nat.le_of_ble_eq_true rfl) [.int 0, .ref (ad 129), .ref (ad 130), .ref (ad 131), .ref (ad 152), .ref (ad 158), .int 0, .int 0, .int 0, .int 100, .int 0, .int 0, .int 0, .int 0, .int 0, .int 0] rfl (va_up c 128 (some (.inr (11, [.int 0, .ref (ad 129), .ref (ad 130), .ref (ad 131), .ref (ad 152), .ref (ad 158), .int 0, .int 0, .int 0, .int 100, .int 0, .int 0, .int 0, .int 0, .int 0, .int 0])))) rfl d_M_pass_2 ?_
  refine r_c c (rup_id hm.1) ?_
  refine r_iload_n X 1 d_M_pass_5 rfl rfl ?_
  refine r_iconst X 1 d_M_pass_6 (by decide) ?_
  refine r_bipush X 20 d_M_pass_7 (by decide) ?_
  refine r_Si X W0_good hN (c_M_in l D cy ad (c) p0 1 20) ys_M_in m_M_167 rfl rfl ⟨by decide, by decide⟩ (Nat.le_of_ble_eq_true rfl) ⟨by decide, by decide⟩ d_M_pass_9 (fun r9 ad9 c9 hp9 => ?_)
  obtain ⟨rfl, rfl, rfl⟩ := hp9
  rcases inF_or p0 1 20 with hq_1 | hq_1
  · refine r_top (y := 1) hq_1 ?_
    refine r_if_ne X 21 d_M_pass_12 (by decide) (fun _ => ?_) (fun h9 => absurd h9 (by decide))
    obtain ⟨t, ht1, ht2, hte⟩ := inF_nI (a := 1) (n := 20) (by decide) (by decide) hq_1
    subst hte
    refine r_aload_n X 0 d_M_pass_21 rfl rfl ?_
    refine r_get X k_M 8 (by decide) f_M_114 rfl (hm.1) rfl d_M_pass_22 ?_
    refine r_iload_n X 1 d_M_pass_25 rfl rfl ?_
    refine r_iadd X d_M_pass_26 ?_
    refine r_top (y := nI t) (Int32.zero_add _) ?_
    refine r_sipush X 199 d_M_pass_27 (by decide) ?_
    refine r_top (y := nI 199) (by decide) ?_
    refine r_icmp_le X 39 d_M_pass_30 (by decide) (fun _ => ?_) (fun h9 => absurd (nI_le (by omega) (by decide)) h9)
    refine r_iconst X 0 d_M_pass_39 (by decide) ?_
    refine r_istore_n X [(2, .int 0), (0, .ref (ad 128)), (1, .int (nI t))] d_M_pass_40 rfl (by decide) rfl ?_
    refine r_iconst X 0 d_M_pass_41 (by decide) ?_
    refine r_istore_n X [(3, .int 0), (2, .int 0), (0, .ref (ad 128)), (1, .int (nI t))] d_M_pass_42 rfl (by decide) rfl ?_
    refine r_lv [2, 3, 1, 0] [(0, .ref (ad 128)), (1, .int (nI t)), (2, .int 0), (3, .int (nI 0))] rfl ?_
    refine r_at (r_loop (σ := Nat) (fun f9 i => i ≤ t ∧ i + f9 = t + 1) (fun i => va_up c 128 (some (.inr (11, [.int 0, .ref (ad 129), .ref (ad 130), .ref (ad 131), .ref (ad 152), .ref (ad 158), .int 0, .int 0, .int (nI i), .int 100, .int 0, .int 0, .int 0, .int 0, .int 0, .int 0])))) 43 (fun i => [(0, .ref (ad 128)), (1, .int (nI t)), (2, .int 0), (3, .int (nI i))]) (fun _ => []) (fun i h => by have h1 := h.1; have h2 := h.2; omega) (fun f9 i ih_i hI => ?_) (t + 1 - 0) 0 ⟨by omega, by omega⟩) (rup_id hm.1) rfl rfl rfl
    obtain ⟨hi8, hi9⟩ := hI
    refine r_iload_n X 3 d_M_pass_43 rfl rfl ?_
    refine r_iload_n X 1 d_M_pass_44 rfl rfl ?_
    refine r_icmp_ge X 61 d_M_pass_45 (by decide) (fun h_45 => ?_) (fun h_45 => ?_)
    · have hi : t = i := by
        rcases Nat.lt_or_ge i t with h | h
        · exact absurd h_45 (nI_ge (by omega) (by omega))
        · omega
      subst hi
      refine r_iload_n X 2 d_M_pass_61 rfl rfl ?_
      have hk_2 : (kF_pass (nI t)) = 0 := by unfold kF_pass; rw [if_pos hq_1]
      exact r_iret (post := fun r ad' c' => ((kF_pass (nI t)) = 0 → r = 0) ∧ (∀ j, j < 160 → ad' j = ad j) ∧ (∀ j, j < 128 → c' j = c j) ∧ ∃ fs, c' 128 = some (.inr (11, .int (kF_pass (nI t)) :: fs))) X hr hlk d_M_pass_62 (by decide) (by decide) ⟨(fun _ => rfl), (fun j hj => rfl), (fun j hj => (rup_ne (by omega) rfl)), _, (by rw [hk_2]; exact rup_self)⟩
    · have hi : i < t := by
        rcases Nat.lt_or_ge i t with h | h
        · exact h
        · exact absurd (nI_le (by omega) (by omega)) h_45
      refine r_iload_n X 2 d_M_pass_48 rfl rfl ?_
      refine r_aload_n X 0 d_M_pass_49 rfl rfl ?_
      refine x_Vi X W0_good hN hE (c_M_quarter l D cy t0 ad (va_up c 128 (some (.inr (11, [.int 0, .ref (ad 129), .ref (ad 130), .ref (ad 131), .ref (ad 152), .ref (ad 158), .int 0, .int 0, .int (nI i), .int 100, .int 0, .int 0, .int 0, .int 0, .int 0, .int 0])))) (nI i) rup_self (rup_ne (by omega) ((hm.2.1))) (rup_ne (by omega) ((hm.2.2.1)))) yv_M_quarter m_M_220 rup_self k_M.2.1 rfl rfl rfl ⟨by decide, by decide⟩ (Nat.le_of_ble_eq_true rfl) ⟨by decide, by decide⟩ d_M_pass_50 (fun r9 ad9 c9 hp9 => ?_)
      obtain ⟨rfl, rfl, rfl⟩ := hp9
      refine r_c (va_up c 128 (some (.inr (11, [.int 0, .ref (ad 129), .ref (ad 130), .ref (ad 131), .ref (ad 152), .ref (ad 158), .int 0, .int 0, .int (nI i + 1), .int 100, .int 0, .int 0, .int 0, .int 0, .int 0, .int 0])))) rup_up ?_
      refine r_iadd X d_M_pass_53 ?_
      refine r_top (y := 0) (by decide) ?_
      refine r_istore_n X [(2, .int 0), (0, .ref (ad 128)), (1, .int (nI t)), (3, .int (nI i))] d_M_pass_54 rfl (by decide) rfl ?_
      refine r_iinc X 3 [(3, .int (nI (i + 1))), (2, .int 0), (0, .ref (ad 128)), (1, .int (nI t))] d_M_pass_55 rfl (nI_1 _) (by decide) rfl ?_
      refine r_goto X 43 d_M_pass_58 (by decide) ?_
      refine r_c (va_up c 128 (some (.inr (11, [.int 0, .ref (ad 129), .ref (ad 130), .ref (ad 131), .ref (ad 152), .ref (ad 158), .int 0, .int 0, .int (nI (i + 1)), .int 100, .int 0, .int 0, .int 0, .int 0, .int 0, .int 0])))) (by rw [nI_1]) ?_
      refine r_lv [2, 3, 1, 0] [(0, .ref (ad 128)), (1, .int (nI t)), (2, .int 0), (3, .int (nI (i + 1)))] rfl ?_
      exact ih_i (i + 1) ⟨by omega, by omega⟩
  · refine r_top (y := 0) hq_1 ?_
    refine r_if_ne X 21 d_M_pass_12 (by decide) (fun h9 => absurd h9 (by decide)) (fun _ => ?_)
    refine r_aload_n X 0 d_M_pass_15 rfl rfl ?_
    refine r_iconst X 1 d_M_pass_16 (by decide) ?_
    refine r_Vi X W0_good hN (c_M_no l D cy ad (c) t0 f1 f2 hm 1) yv_M_no m_M_174 (hm.1) k_M.2.1 rfl rfl rfl ⟨by decide, by decide⟩ (Nat.le_of_ble_eq_true rfl) ⟨by decide, by decide⟩ d_M_pass_17 (fun r9 ad9 c9 hp9 => ?_)
    obtain ⟨rfl, rfl, rfl⟩ := hp9
    have hk_3 : (kF_pass p0) = 1 := by unfold kF_pass; rw [if_neg (inF_n1 hq_1)]
    exact r_iret (post := fun r ad' c' => ((kF_pass p0) = 0 → r = 0) ∧ (∀ j, j < 160 → ad' j = ad j) ∧ (∀ j, j < 128 → c' j = c j) ∧ ∃ fs, c' 128 = some (.inr (11, .int (kF_pass p0) :: fs))) X hr hlk d_M_pass_20 (by decide) (by decide) ⟨(fun h9 => absurd (hk_3.symm.trans h9) (by decide)), (fun j hj => rfl), (fun j hj => (rup_ne (by omega) rfl)), _, (by rw [hk_3]; exact rup_self)⟩
set_option maxRecDepth 100000 in
set_option maxHeartbeats 4000000 in
theorem c_M_deliver (l : Launch) (D : va_G) (cy : Nat → ClassId) (t0 : Nat) (ad : Nat → Nat) (c : rC) (f1 f2 : Nat → Option Nat) (hm : mC t0 f1 f2 cy ad c) (p0 p1 : Int32)  : xMi l D cls (TY cy) NW t0 y_M_deliver (Cond.code y_M_deliver b_M_deliver 3 rt_M_deliver :: W0) { frames := 1, cells := 0, slots := 0, locals := 22 } [.ref (ad 128), .int p0, .int p1] ad c (fun r ad' c' => ((kF_deliver p0 p1) = 0 → r = 1) ∧ (∀ j, j < 160 → ad' j = ad j) ∧ (∀ j, j < 128 → c' j = c j) ∧ ∃ fs, c' 128 = some (.inr (11, .int (kF_deliver p0 p1) :: fs))) := by
  intro sz
  refine x_of (own := R_M) rfl (by decide +kernel) (Nat.le_of_ble_eq_true rfl) ?_
  intro p e s m below meth cd hsz X hr hlk hN hE hin
  refine r_lv [0, 1, 2] [(0, .ref (ad 128)), (1, .int p0), (2, .int p1)] rfl ?_
  refine r_aload_n X 0 d_M_deliver_0 rfl rfl ?_
  refine r_iconst X 0 d_M_deliver_1 (by decide) ?_
  refine r_put X k_M 0 (by decide) f_M_38 rfl (hm.1) rfl rfl rfl (Nat.le_of_ble_eq_true rfl) [.int 0, .ref (ad 129), .ref (ad 130), .ref (ad 131), .ref (ad 152), .ref (ad 158), .int 0, .int 0, .int 0, .int 100, .int 0, .int 0, .int 0, .int 0, .int 0, .int 0] rfl (va_up c 128 (some (.inr (11, [.int 0, .ref (ad 129), .ref (ad 130), .ref (ad 131), .ref (ad 152), .ref (ad 158), .int 0, .int 0, .int 0, .int 100, .int 0, .int 0, .int 0, .int 0, .int 0, .int 0])))) rfl d_M_deliver_2 ?_
  refine r_c c (rup_id hm.1) ?_
  refine r_iload_n X 1 d_M_deliver_5 rfl rfl ?_
  refine r_iconst X 1 d_M_deliver_6 (by decide) ?_
  refine r_sipush X 500 d_M_deliver_7 (by decide) ?_
  refine r_Si X W0_good hN (c_M_in l D cy ad (c) p0 1 500) ys_M_in m_M_167 rfl rfl ⟨by decide, by decide⟩ (Nat.le_of_ble_eq_true rfl) ⟨by decide, by decide⟩ d_M_deliver_10 (fun r9 ad9 c9 hp9 => ?_)
  obtain ⟨rfl, rfl, rfl⟩ := hp9
  rcases inF_or p0 1 500 with hq_1 | hq_1
  · refine r_top (y := 1) hq_1 ?_
    refine r_if_eq X 26 d_M_deliver_13 (by decide) (fun h9 => absurd h9 (by decide)) (fun _ => ?_)
    refine r_iload_n X 2 d_M_deliver_16 rfl rfl ?_
    refine r_iconst X 1 d_M_deliver_17 (by decide) ?_
    refine r_bipush X 96 d_M_deliver_18 (by decide) ?_
    refine r_Si X W0_good hN (c_M_in l D cy ad (c) p1 1 96) ys_M_in m_M_167 rfl rfl ⟨by decide, by decide⟩ (Nat.le_of_ble_eq_true rfl) ⟨by decide, by decide⟩ d_M_deliver_20 (fun r9 ad9 c9 hp9 => ?_)
    obtain ⟨rfl, rfl, rfl⟩ := hp9
    rcases inF_or p1 1 96 with hq_2 | hq_2
    · refine r_top (y := 1) hq_2 ?_
      refine r_if_ne X 32 d_M_deliver_23 (by decide) (fun _ => ?_) (fun h9 => absurd h9 (by decide))
      refine r_aload_n X 0 d_M_deliver_32 rfl rfl ?_
      refine r_get X k_M 7 (by decide) f_M_158 rfl (hm.1) rfl d_M_deliver_33 ?_
      refine r_iconst X 5 d_M_deliver_36 (by decide) ?_
      refine r_icmp_ne X 46 d_M_deliver_37 (by decide) (fun _ => ?_) (fun h9 => absurd h9 (by decide))
      refine r_aload_n X 0 d_M_deliver_46 rfl rfl ?_
      refine r_get X k_M 4 (by decide) f_M_24 rfl (hm.1) rfl d_M_deliver_47 ?_
      refine r_aload_n X 0 d_M_deliver_50 rfl rfl ?_
      refine r_get X k_M 7 (by decide) f_M_158 rfl (hm.1) rfl d_M_deliver_51 ?_
      refine x_aald (v := .ref (ad 153)) X 6 (hm.2.2.2.2.2.1) rfl (by unfold vp_in; decide +kernel) (congrArg va_rf hm.2.2.2.2.2.2.2.2.2.1) d_M_deliver_54 ?_
      refine r_iconst X 0 d_M_deliver_55 (by decide) ?_
      refine r_aload_n X 0 d_M_deliver_56 rfl rfl ?_
      refine r_get X k_M 8 (by decide) f_M_114 rfl (hm.1) rfl d_M_deliver_57 ?_
      refine r_iload_n X 2 d_M_deliver_60 rfl rfl ?_
      refine r_iadd X d_M_deliver_61 ?_
      refine r_iast X 0 (hm.2.2.2.2.2.2.1) rfl (by unfold vp_in; decide +kernel) (congrArg (fun q9 => upd _ q9 _) (by decide +kernel : (0 : Int32).toNatClampNeg = 0)) (va_up c 153 (some (.inl (cy 0, 2, .inl (upd (fun _ => 0) 0 (0 + p1)))))) rfl d_M_deliver_62 ?_
      refine r_aload_n X 0 d_M_deliver_63 rfl rfl ?_
      refine r_get X k_M 4 (by decide) f_M_24 rfl (rup_ne (by omega) ((hm.1))) rfl d_M_deliver_64 ?_
      refine r_aload_n X 0 d_M_deliver_67 rfl rfl ?_
      refine r_dup X d_M_deliver_68 rfl ?_
      refine r_get X k_M 7 (by decide) f_M_158 rfl (rup_ne (by omega) ((hm.1))) rfl d_M_deliver_69 ?_
      refine r_dup_x1 X d_M_deliver_72 rfl rfl ?_
      refine r_iconst X 1 d_M_deliver_73 (by decide) ?_
      refine r_iadd X d_M_deliver_74 ?_
      refine r_top (y := 1) (by decide) ?_
      refine r_put X k_M 7 (by decide) f_M_158 rfl (rup_ne (by omega) ((hm.1))) rfl rfl rfl (Nat.le_of_ble_eq_true rfl) [.int 0, .ref (ad 129), .ref (ad 130), .ref (ad 131), .ref (ad 152), .ref (ad 158), .int 0, .int 1, .int 0, .int 100, .int 0, .int 0, .int 0, .int 0, .int 0, .int 0] rfl (va_up (va_up c 153 (some (.inl (cy 0, 2, .inl (upd (fun _ => 0) 0 (0 + p1)))))) 128 (some (.inr (11, [.int 0, .ref (ad 129), .ref (ad 130), .ref (ad 131), .ref (ad 152), .ref (ad 158), .int 0, .int 1, .int 0, .int 100, .int 0, .int 0, .int 0, .int 0, .int 0, .int 0])))) rfl d_M_deliver_75 ?_
      refine x_aald (v := .ref (ad 153)) X 6 (rup_ne (by omega) (rup_ne (by omega) ((hm.2.2.2.2.2.1)))) rfl (by unfold vp_in; decide +kernel) (congrArg va_rf hm.2.2.2.2.2.2.2.2.2.1) d_M_deliver_78 ?_
      refine r_iconst X 1 d_M_deliver_79 (by decide) ?_
      refine r_iload_n X 1 d_M_deliver_80 rfl rfl ?_
      refine r_iast X 0 (rup_ne (by omega) (rup_self)) rfl (by unfold vp_in; decide +kernel) (congrArg (fun q9 => upd _ q9 _) (by decide +kernel : (1 : Int32).toNatClampNeg = 1)) (va_up (va_up c 153 (some (.inl (cy 0, 2, .inl (upd (upd (fun _ => 0) 0 (0 + p1)) 1 p0))))) 128 (some (.inr (11, [.int 0, .ref (ad 129), .ref (ad 130), .ref (ad 131), .ref (ad 152), .ref (ad 158), .int 0, .int 1, .int 0, .int 100, .int 0, .int 0, .int 0, .int 0, .int 0, .int 0])))) (rup_in (by omega) rup_up rfl) d_M_deliver_81 ?_
      refine r_aload_n X 0 d_M_deliver_82 rfl rfl ?_
      refine r_get X k_M 7 (by decide) f_M_158 rfl rup_self rfl d_M_deliver_83 ?_
      have hk_3 : (kF_deliver p0 p1) = 0 := by unfold kF_deliver; rw [if_pos hq_1, if_pos hq_2]
      exact r_iret (post := fun r ad' c' => ((kF_deliver p0 p1) = 0 → r = 1) ∧ (∀ j, j < 160 → ad' j = ad j) ∧ (∀ j, j < 128 → c' j = c j) ∧ ∃ fs, c' 128 = some (.inr (11, .int (kF_deliver p0 p1) :: fs))) X hr hlk d_M_deliver_86 (by decide) (by decide) ⟨(fun _ => rfl), (fun j hj => rfl), (fun j hj => (rup_ne (by omega) (rup_ne (by omega) rfl))), _, (by rw [hk_3]; exact rup_self)⟩
    · refine r_top (y := 0) hq_2 ?_
      refine r_if_ne X 32 d_M_deliver_23 (by decide) (fun h9 => absurd h9 (by decide)) (fun _ => ?_)
      refine r_aload_n X 0 d_M_deliver_26 rfl rfl ?_
      refine r_iconst X 1 d_M_deliver_27 (by decide) ?_
      refine r_Vi X W0_good hN (c_M_no l D cy ad (c) t0 f1 f2 hm 1) yv_M_no m_M_174 (hm.1) k_M.2.1 rfl rfl rfl ⟨by decide, by decide⟩ (Nat.le_of_ble_eq_true rfl) ⟨by decide, by decide⟩ d_M_deliver_28 (fun r9 ad9 c9 hp9 => ?_)
      obtain ⟨rfl, rfl, rfl⟩ := hp9
      have hk_4 : (kF_deliver p0 p1) = 1 := by unfold kF_deliver; rw [if_pos hq_1, if_neg (inF_n1 hq_2)]
      exact r_iret (post := fun r ad' c' => ((kF_deliver p0 p1) = 0 → r = 1) ∧ (∀ j, j < 160 → ad' j = ad j) ∧ (∀ j, j < 128 → c' j = c j) ∧ ∃ fs, c' 128 = some (.inr (11, .int (kF_deliver p0 p1) :: fs))) X hr hlk d_M_deliver_31 (by decide) (by decide) ⟨(fun h9 => absurd (hk_4.symm.trans h9) (by decide)), (fun j hj => rfl), (fun j hj => (rup_ne (by omega) rfl)), _, (by rw [hk_4]; exact rup_self)⟩
  · refine r_top (y := 0) hq_1 ?_
    refine r_if_eq X 26 d_M_deliver_13 (by decide) (fun _ => ?_) (fun h9 => absurd h9 (by decide))
    refine r_aload_n X 0 d_M_deliver_26 rfl rfl ?_
    refine r_iconst X 1 d_M_deliver_27 (by decide) ?_
    refine r_Vi X W0_good hN (c_M_no l D cy ad (c) t0 f1 f2 hm 1) yv_M_no m_M_174 (hm.1) k_M.2.1 rfl rfl rfl ⟨by decide, by decide⟩ (Nat.le_of_ble_eq_true rfl) ⟨by decide, by decide⟩ d_M_deliver_28 (fun r9 ad9 c9 hp9 => ?_)
    obtain ⟨rfl, rfl, rfl⟩ := hp9
    have hk_5 : (kF_deliver p0 p1) = 1 := by unfold kF_deliver; rw [if_neg (inF_n1 hq_1)]
    exact r_iret (post := fun r ad' c' => ((kF_deliver p0 p1) = 0 → r = 1) ∧ (∀ j, j < 160 → ad' j = ad j) ∧ (∀ j, j < 128 → c' j = c j) ∧ ∃ fs, c' 128 = some (.inr (11, .int (kF_deliver p0 p1) :: fs))) X hr hlk d_M_deliver_31 (by decide) (by decide) ⟨(fun h9 => absurd (hk_5.symm.trans h9) (by decide)), (fun j hj => rfl), (fun j hj => (rup_ne (by omega) rfl)), _, (by rw [hk_5]; exact rup_self)⟩
set_option maxRecDepth 100000 in
set_option maxHeartbeats 4000000 in
theorem c_M_forecast (l : Launch) (D : va_G) (cy : Nat → ClassId) (t0 : Nat) (ad : Nat → Nat) (c : rC) (f1 f2 : Nat → Option Nat) (hm : mC t0 f1 f2 cy ad c) (p0 p1 p2 p3 p4 : Int32) (hz : p4 = 0 ∨ p4 = 1) : xMi l D cls (TY cy) NW t0 y_M_forecast (Cond.code y_M_forecast b_M_forecast 9 rt_M_forecast :: W0) { frames := 2, cells := 1, slots := 7, locals := 60 } [.ref (ad 128), .int p0, .int p1, .int p2, .int p3, .int p4] ad c (fun r ad' c' => ((kF_forecast p0 p1 p2 p3 p4) = 0 → r = 0) ∧ (∀ j, j < 160 → ad' j = ad j) ∧ (∀ j, j < 128 → c' j = c j) ∧ ∃ fs, c' 128 = some (.inr (11, .int (kF_forecast p0 p1 p2 p3 p4) :: fs))) := by
  intro sz
  refine x_of (own := R_M) rfl (by decide +kernel) (Nat.le_of_ble_eq_true rfl) ?_
  intro p e s m below meth cd hsz X hr hlk hN hE hin
  refine r_lv [0, 1, 2, 3, 4, 5] [(0, .ref (ad 128)), (1, .int p0), (2, .int p1), (3, .int p2), (4, .int p3), (5, .int p4)] rfl ?_
  refine r_aload_n X 0 d_M_forecast_0 rfl rfl ?_
  refine r_iconst X 0 d_M_forecast_1 (by decide) ?_
  refine r_put X k_M 0 (by decide) f_M_38 rfl (hm.1) rfl rfl rfl (Nat.le_of_ble_eq_true rfl) [.int 0, .ref (ad 129), .ref (ad 130), .ref (ad 131), .ref (ad 152), .ref (ad 158), .int 0, .int 0, .int 0, .int 100, .int 0, .int 0, .int 0, .int 0, .int 0, .int 0] rfl (va_up c 128 (some (.inr (11, [.int 0, .ref (ad 129), .ref (ad 130), .ref (ad 131), .ref (ad 152), .ref (ad 158), .int 0, .int 0, .int 0, .int 100, .int 0, .int 0, .int 0, .int 0, .int 0, .int 0])))) rfl d_M_forecast_2 ?_
  refine r_c c (rup_id hm.1) ?_
  refine r_iload_n X 1 d_M_forecast_5 rfl rfl ?_
  refine r_iconst X 1 d_M_forecast_6 (by decide) ?_
  refine r_bipush X 48 d_M_forecast_7 (by decide) ?_
  refine r_Si X W0_good hN (c_M_in l D cy ad (c) p0 1 48) ys_M_in m_M_167 rfl rfl ⟨by decide, by decide⟩ (Nat.le_of_ble_eq_true rfl) ⟨by decide, by decide⟩ d_M_forecast_9 (fun r9 ad9 c9 hp9 => ?_)
  obtain ⟨rfl, rfl, rfl⟩ := hp9
  rcases inF_or p0 1 48 with hq_1 | hq_1
  · refine r_top (y := 1) hq_1 ?_
    refine r_if_eq X 49 d_M_forecast_12 (by decide) (fun h9 => absurd h9 (by decide)) (fun _ => ?_)
    refine r_iload_n X 2 d_M_forecast_15 rfl rfl ?_
    refine r_bipush X (-20) d_M_forecast_16 (by decide) ?_
    refine r_bipush X 20 d_M_forecast_18 (by decide) ?_
    refine r_Si X W0_good hN (c_M_in l D cy ad (c) p1 (-20) 20) ys_M_in m_M_167 rfl rfl ⟨by decide, by decide⟩ (Nat.le_of_ble_eq_true rfl) ⟨by decide, by decide⟩ d_M_forecast_20 (fun r9 ad9 c9 hp9 => ?_)
    obtain ⟨rfl, rfl, rfl⟩ := hp9
    rcases inF_or p1 (-20) 20 with hq_2 | hq_2
    · refine r_top (y := 1) hq_2 ?_
      refine r_if_eq X 49 d_M_forecast_23 (by decide) (fun h9 => absurd h9 (by decide)) (fun _ => ?_)
      refine r_iload_n X 3 d_M_forecast_26 rfl rfl ?_
      refine r_bipush X (-20) d_M_forecast_27 (by decide) ?_
      refine r_bipush X 20 d_M_forecast_29 (by decide) ?_
      refine r_Si X W0_good hN (c_M_in l D cy ad (c) p2 (-20) 20) ys_M_in m_M_167 rfl rfl ⟨by decide, by decide⟩ (Nat.le_of_ble_eq_true rfl) ⟨by decide, by decide⟩ d_M_forecast_31 (fun r9 ad9 c9 hp9 => ?_)
      obtain ⟨rfl, rfl, rfl⟩ := hp9
      rcases inF_or p2 (-20) 20 with hq_3 | hq_3
      · refine r_top (y := 1) hq_3 ?_
        refine r_if_eq X 49 d_M_forecast_34 (by decide) (fun h9 => absurd h9 (by decide)) (fun _ => ?_)
        refine r_iload X 4 d_M_forecast_37 rfl ?_
        refine r_bipush X (-20) d_M_forecast_39 (by decide) ?_
        refine r_bipush X 20 d_M_forecast_41 (by decide) ?_
        refine r_Si X W0_good hN (c_M_in l D cy ad (c) p3 (-20) 20) ys_M_in m_M_167 rfl rfl ⟨by decide, by decide⟩ (Nat.le_of_ble_eq_true rfl) ⟨by decide, by decide⟩ d_M_forecast_43 (fun r9 ad9 c9 hp9 => ?_)
        obtain ⟨rfl, rfl, rfl⟩ := hp9
        rcases inF_or p3 (-20) 20 with hq_4 | hq_4
        · refine r_top (y := 1) hq_4 ?_
          refine r_if_ne X 55 d_M_forecast_46 (by decide) (fun _ => ?_) (fun h9 => absurd h9 (by decide))
          refine r_aload_n X 0 d_M_forecast_55 rfl rfl ?_
          refine r_get X k_M 6 (by decide) f_M_204 rfl (hm.1) rfl d_M_forecast_56 ?_
          refine r_bipush X 20 d_M_forecast_59 (by decide) ?_
          refine r_icmp_ne X 70 d_M_forecast_61 (by decide) (fun _ => ?_) (fun h9 => absurd h9 (by decide))
          refine r_bipush X 7 d_M_forecast_70 (by decide) ?_
          refine r_newa (ty := .int) (N := 7) X 0 rfl rfl rfl (fun q9 => q9) a_int (by decide) (by decide) (by decide) (Nat.le_of_ble_eq_true rfl) (Nat.le_of_ble_eq_true rfl) d_M_forecast_72 160 (hm.2.2.2.2.2.2.2.2.2.2 160 (by decide)) (fun a9 => [(0, .ref (a9 128)), (1, .int p0), (2, .int p1), (3, .int p2), (4, .int p3), (5, .int p4)]) (fun a9 => []) (fun a9 h9 => by rw [h9 128 (by decide)]) (fun _ _ => rfl) (fun a_5 ha_5 => ?_)
          have hb_1_128 : c 128 = some (.inr (11, [.int 0, .ref (a_5 129), .ref (a_5 130), .ref (a_5 131), .ref (a_5 152), .ref (a_5 158), .int 0, .int 0, .int 0, .int 100, .int 0, .int 0, .int 0, .int 0, .int 0, .int 0])) := by rw [ha_5 129 (by decide), ha_5 130 (by decide), ha_5 131 (by decide), ha_5 152 (by decide), ha_5 158 (by decide)]; exact (hm.1)
          have he_1_131 : f1 0 = some (a_5 132) := by rw [ha_5 132 (by decide)]; exact hm.2.2.2.2.2.2.2.2.1
          have he_1_152 : f2 0 = some (a_5 153) := by rw [ha_5 153 (by decide)]; exact hm.2.2.2.2.2.2.2.2.2.1
          refine r_dup X d_M_forecast_74 rfl ?_
          refine r_iconst X 0 d_M_forecast_75 (by decide) ?_
          refine r_aload_n X 0 d_M_forecast_76 rfl rfl ?_
          refine r_get X k_M 8 (by decide) f_M_114 rfl (rup_ne (by omega) (hb_1_128)) rfl d_M_forecast_77 ?_
          refine r_iast X 0 rup_self rfl (by unfold vp_in; decide +kernel) (congrArg (fun q9 => upd _ q9 _) (by decide +kernel : (0 : Int32).toNatClampNeg = 0)) (va_up c 160 (some (.inl (cy 0, 7, .inl (upd (fun _ => 0) 0 0))))) rup_up d_M_forecast_80 ?_
          refine r_dup X d_M_forecast_81 rfl ?_
          refine r_iconst X 1 d_M_forecast_82 (by decide) ?_
          refine r_aload_n X 0 d_M_forecast_83 rfl rfl ?_
          refine r_get X k_M 8 (by decide) f_M_114 rfl (rup_ne (by omega) (hb_1_128)) rfl d_M_forecast_84 ?_
          refine r_iload_n X 1 d_M_forecast_87 rfl rfl ?_
          refine r_iadd X d_M_forecast_88 ?_
          refine r_iast X 0 rup_self rfl (by unfold vp_in; decide +kernel) (congrArg (fun q9 => upd _ q9 _) (by decide +kernel : (1 : Int32).toNatClampNeg = 1)) (va_up c 160 (some (.inl (cy 0, 7, .inl (upd (upd (fun _ => 0) 0 0) 1 (0 + p0)))))) rup_up d_M_forecast_89 ?_
          refine r_dup X d_M_forecast_90 rfl ?_
          refine r_iconst X 2 d_M_forecast_91 (by decide) ?_
          refine r_iload_n X 2 d_M_forecast_92 rfl rfl ?_
          refine r_iast X 0 rup_self rfl (by unfold vp_in; decide +kernel) (congrArg (fun q9 => upd _ q9 _) (by decide +kernel : (2 : Int32).toNatClampNeg = 2)) (va_up c 160 (some (.inl (cy 0, 7, .inl (upd (upd (upd (fun _ => 0) 0 0) 1 (0 + p0)) 2 p1))))) rup_up d_M_forecast_93 ?_
          refine r_dup X d_M_forecast_94 rfl ?_
          refine r_iconst X 3 d_M_forecast_95 (by decide) ?_
          refine r_iload_n X 3 d_M_forecast_96 rfl rfl ?_
          refine r_iast X 0 rup_self rfl (by unfold vp_in; decide +kernel) (congrArg (fun q9 => upd _ q9 _) (by decide +kernel : (3 : Int32).toNatClampNeg = 3)) (va_up c 160 (some (.inl (cy 0, 7, .inl (upd (upd (upd (upd (fun _ => 0) 0 0) 1 (0 + p0)) 2 p1) 3 p2))))) rup_up d_M_forecast_97 ?_
          refine r_dup X d_M_forecast_98 rfl ?_
          refine r_iconst X 4 d_M_forecast_99 (by decide) ?_
          refine r_iload X 4 d_M_forecast_100 rfl ?_
          refine r_iast X 0 rup_self rfl (by unfold vp_in; decide +kernel) (congrArg (fun q9 => upd _ q9 _) (by decide +kernel : (4 : Int32).toNatClampNeg = 4)) (va_up c 160 (some (.inl (cy 0, 7, .inl (upd (upd (upd (upd (upd (fun _ => 0) 0 0) 1 (0 + p0)) 2 p1) 3 p2) 4 p3))))) rup_up d_M_forecast_102 ?_
          refine r_dup X d_M_forecast_103 rfl ?_
          refine r_iconst X 5 d_M_forecast_104 (by decide) ?_
          refine r_iload X 5 d_M_forecast_105 rfl ?_
          refine r_cut (fun u9 : Int32 => u9 = (if p4 = 0 then 0 else 1)) (fun _ => va_up c 160 (some (.inl (cy 0, 7, .inl (upd (upd (upd (upd (upd (fun _ => 0) 0 0) 1 (0 + p0)) 2 p1) 3 p2) 4 p3))))) 115 (fun _ => [(0, .ref (a_5 128)), (1, .int p0), (2, .int p1), (3, .int p2), (4, .int p3), (5, .int p4)]) (fun u9 => [.int u9, .int 5, .ref (a_5 160), .ref (a_5 160)]) (fun J9 => ?_) (fun t_6 ht_6 => ?_)
          · refine r_if_eq X 114 d_M_forecast_107 (by decide) (fun h9 => ?_) (fun h9 => ?_)
            · refine r_iconst X 0 d_M_forecast_114 (by decide) ?_
              exact J9 _ (if_pos h9).symm
            · refine r_iconst X 1 d_M_forecast_110 (by decide) ?_
              refine r_goto X 115 d_M_forecast_111 (by decide) ?_
              exact J9 _ (if_neg h9).symm
          subst ht_6
          refine r_iast X 0 rup_self rfl (by unfold vp_in; decide +kernel) (congrArg (fun q9 => upd _ q9 _) (by decide +kernel : (5 : Int32).toNatClampNeg = 5)) (va_up c 160 (some (.inl (cy 0, 7, .inl (upd (upd (upd (upd (upd (upd (fun _ => 0) 0 0) 1 (0 + p0)) 2 p1) 3 p2) 4 p3) 5 (if p4 = 0 then 0 else 1)))))) rup_up d_M_forecast_115 ?_
          refine r_dup X d_M_forecast_116 rfl ?_
          refine r_bipush X 6 d_M_forecast_117 (by decide) ?_
          refine r_aload_n X 0 d_M_forecast_119 rfl rfl ?_
          refine r_get X k_M 9 (by decide) f_M_34 rfl (rup_ne (by omega) (hb_1_128)) rfl d_M_forecast_120 ?_
          refine r_aload_n X 0 d_M_forecast_123 rfl rfl ?_
          refine x_Vi X W0_good hN hE (c_M_inHoppers l D cy t0 a_5 (va_up c 160 (some (.inl (cy 0, 7, .inl (upd (upd (upd (upd (upd (upd (fun _ => 0) 0 0) 1 (0 + p0)) 2 p1) 3 p2) 4 p3) 5 (if p4 = 0 then 0 else 1)))))) (rup_ne (by omega) (hb_1_128)) (rup_ne (by omega) ((hm.2.1))) (rup_ne (by omega) ((hm.2.2.1)))) yv_M_inHoppers m_M_207 (rup_ne (by omega) (hb_1_128)) k_M.2.1 rfl rfl rfl ⟨by decide, by decide⟩ (Nat.le_of_ble_eq_true rfl) ⟨by decide, by decide⟩ d_M_forecast_124 (fun r9 ad9 c9 hp9 => ?_)
          obtain ⟨rfl, rfl, rfl⟩ := hp9
          refine r_iadd X d_M_forecast_127 ?_
          refine r_top (y := 100) (by decide) ?_
          refine r_iast X 0 rup_self rfl (by unfold vp_in; decide +kernel) (congrArg (fun q9 => upd _ q9 _) (by decide +kernel : (6 : Int32).toNatClampNeg = 6)) (va_up c 160 (some (.inl (cy 0, 7, .inl (upd (upd (upd (upd (upd (upd (upd (fun _ => 0) 0 0) 1 (0 + p0)) 2 p1) 3 p2) 4 p3) 5 (if p4 = 0 then 0 else 1)) 6 100))))) rup_up d_M_forecast_128 ?_
          refine r_astore X [(6, .ref (a_5 160)), (0, .ref (a_5 128)), (1, .int p0), (2, .int p1), (3, .int p2), (4, .int p3), (5, .int p4)] d_M_forecast_129 (by decide) rfl ?_
          refine r_aload X 0 d_M_forecast_131 rfl ?_
          refine r_iconst X 0 d_M_forecast_133 (by decide) ?_
          refine r_aload_n X 1 d_M_forecast_134 rfl rfl ?_
          refine r_get X k_M 3 (by decide) f_M_21 rfl (rup_ne (by omega) (hb_1_128)) rfl d_M_forecast_135 ?_
          refine r_aload_n X 1 d_M_forecast_138 rfl rfl ?_
          refine r_dup X d_M_forecast_139 rfl ?_
          refine r_get X k_M 6 (by decide) f_M_204 rfl (rup_ne (by omega) (hb_1_128)) rfl d_M_forecast_140 ?_
          refine r_dup_x1 X d_M_forecast_143 rfl rfl ?_
          refine r_iconst X 1 d_M_forecast_144 (by decide) ?_
          refine r_iadd X d_M_forecast_145 ?_
          refine r_top (y := 1) (by decide) ?_
          refine r_put X k_M 6 (by decide) f_M_204 rfl (rup_ne (by omega) (hb_1_128)) rfl rfl rfl (Nat.le_of_ble_eq_true rfl) [.int 0, .ref (a_5 129), .ref (a_5 130), .ref (a_5 131), .ref (a_5 152), .ref (a_5 158), .int 1, .int 0, .int 0, .int 100, .int 0, .int 0, .int 0, .int 0, .int 0, .int 0] rfl (va_up (va_up c 160 (some (.inl (cy 0, 7, .inl (upd (upd (upd (upd (upd (upd (upd (fun _ => 0) 0 0) 1 (0 + p0)) 2 p1) 3 p2) 4 p3) 5 (if p4 = 0 then 0 else 1)) 6 100))))) 128 (some (.inr (11, [.int 0, .ref (a_5 129), .ref (a_5 130), .ref (a_5 131), .ref (a_5 152), .ref (a_5 158), .int 1, .int 0, .int 0, .int 100, .int 0, .int 0, .int 0, .int 0, .int 0, .int 0])))) rfl d_M_forecast_146 ?_
          refine x_aald (v := .ref (a_5 132)) X 6 (rup_ne (by omega) (rup_ne (by omega) ((hm.2.2.2.1)))) rfl (by unfold vp_in; decide +kernel) (congrArg va_rf he_1_131) d_M_forecast_149 ?_
          refine r_iconst X 0 d_M_forecast_150 (by decide) ?_
          refine r_bipush X 7 d_M_forecast_151 (by decide) ?_
          refine x_copyi X m9_M_210 nat_copy st_copy in_sys 0 0 (by decide) (rup_ne (by omega) (rup_self)) (rup_ne (by omega) (rup_ne (by omega) ((hm.2.2.2.2.1)))) rfl rfl (by decide) (by decide) (by decide) (by decide) (by decide) (by decide) (by decide) d_M_forecast_153 (fun g9 => ?_)
          refine r_iconst X 0 d_M_forecast_156 (by decide) ?_
          refine r_istore X [(7, .int 0), (6, .ref (a_5 160)), (0, .ref (a_5 128)), (1, .int p0), (2, .int p1), (3, .int p2), (4, .int p3), (5, .int p4)] d_M_forecast_157 (by decide) rfl ?_
          refine r_iconst X 0 d_M_forecast_159 (by decide) ?_
          refine r_istore X [(8, .int 0), (7, .int 0), (6, .ref (a_5 160)), (0, .ref (a_5 128)), (1, .int p0), (2, .int p1), (3, .int p2), (4, .int p3), (5, .int p4)] d_M_forecast_160 (by decide) rfl ?_
          refine r_iload X 0 d_M_forecast_162 rfl ?_
          refine r_aload_n X 3 d_M_forecast_164 rfl rfl ?_
          refine r_get X k_M 1 (by decide) f_M_10 rfl (rup_ne (by omega) (rup_self)) rfl d_M_forecast_165 ?_
          refine x_Fi X W0_good hN hE (c_AL_size_8abf5 l D cy t0 a_5 (va_up (va_up (va_up c 160 (some (.inl (cy 0, 7, .inl (upd (upd (upd (upd (upd (upd (upd (fun _ => 0) 0 0) 1 (0 + p0)) 2 p1) 3 p2) 4 p3) 5 (if p4 = 0 then 0 else 1)) 6 100))))) 128 (some (.inr (11, [.int 0, .ref (a_5 129), .ref (a_5 130), .ref (a_5 131), .ref (a_5 152), .ref (a_5 158), .int 1, .int 0, .int 0, .int 100, .int 0, .int 0, .int 0, .int 0, .int 0, .int 0])))) 132 (some (.inl (cy 0, 7, .inl g9)))) 129 (.int 0) (.ref t0) 0 (rup_ne (by omega) (rup_ne (by omega) (rup_ne (by omega) ((hm.2.1)))))) yF_size (by decide +kernel) m9_M_124 (rup_ne (by omega) (rup_ne (by omega) (rup_ne (by omega) ((hm.2.1))))) k_AL.2.1 rfl rfl rfl ⟨by decide, by decide⟩ (Nat.le_of_ble_eq_true rfl) ⟨by decide, by decide⟩ d_M_forecast_168 (fun r9 ad9 c9 hp9 => ?_)
          obtain ⟨rfl, rfl, rfl⟩ := hp9
          refine r_icmp_ge X 214 d_M_forecast_173 (by decide) (fun _ => ?_) (fun h9 => absurd h9 (by decide))
          refine r_iload X 1 d_M_forecast_214 rfl ?_
          have hk_7 : (kF_forecast p0 p1 p2 p3 p4) = 0 := by unfold kF_forecast; rw [if_pos hq_1, if_pos hq_2, if_pos hq_3, if_pos hq_4]
          exact r_iret (post := fun r ad' c' => ((kF_forecast p0 p1 p2 p3 p4) = 0 → r = 0) ∧ (∀ j, j < 160 → ad' j = ad j) ∧ (∀ j, j < 128 → c' j = c j) ∧ ∃ fs, c' 128 = some (.inr (11, .int (kF_forecast p0 p1 p2 p3 p4) :: fs))) X hr hlk d_M_forecast_216 (by decide) (by decide) ⟨(fun _ => rfl), (fun j hj => (ha_5 j (by omega))), (fun j hj => (rup_ne (by omega) (rup_ne (by omega) (rup_ne (by omega) rfl)))), _, (by rw [hk_7]; exact rup_ne (by omega) (rup_self))⟩
        · refine r_top (y := 0) hq_4 ?_
          refine r_if_ne X 55 d_M_forecast_46 (by decide) (fun h9 => absurd h9 (by decide)) (fun _ => ?_)
          refine r_aload_n X 0 d_M_forecast_49 rfl rfl ?_
          refine r_iconst X 1 d_M_forecast_50 (by decide) ?_
          refine r_Vi X W0_good hN (c_M_no l D cy ad (c) t0 f1 f2 hm 1) yv_M_no m_M_174 (hm.1) k_M.2.1 rfl rfl rfl ⟨by decide, by decide⟩ (Nat.le_of_ble_eq_true rfl) ⟨by decide, by decide⟩ d_M_forecast_51 (fun r9 ad9 c9 hp9 => ?_)
          obtain ⟨rfl, rfl, rfl⟩ := hp9
          have hk_8 : (kF_forecast p0 p1 p2 p3 p4) = 1 := by unfold kF_forecast; rw [if_pos hq_1, if_pos hq_2, if_pos hq_3, if_neg (inF_n1 hq_4)]
          exact r_iret (post := fun r ad' c' => ((kF_forecast p0 p1 p2 p3 p4) = 0 → r = 0) ∧ (∀ j, j < 160 → ad' j = ad j) ∧ (∀ j, j < 128 → c' j = c j) ∧ ∃ fs, c' 128 = some (.inr (11, .int (kF_forecast p0 p1 p2 p3 p4) :: fs))) X hr hlk d_M_forecast_54 (by decide) (by decide) ⟨(fun h9 => absurd (hk_8.symm.trans h9) (by decide)), (fun j hj => rfl), (fun j hj => (rup_ne (by omega) rfl)), _, (by rw [hk_8]; exact rup_self)⟩
      · refine r_top (y := 0) hq_3 ?_
        refine r_if_eq X 49 d_M_forecast_34 (by decide) (fun _ => ?_) (fun h9 => absurd h9 (by decide))
        refine r_aload_n X 0 d_M_forecast_49 rfl rfl ?_
        refine r_iconst X 1 d_M_forecast_50 (by decide) ?_
        refine r_Vi X W0_good hN (c_M_no l D cy ad (c) t0 f1 f2 hm 1) yv_M_no m_M_174 (hm.1) k_M.2.1 rfl rfl rfl ⟨by decide, by decide⟩ (Nat.le_of_ble_eq_true rfl) ⟨by decide, by decide⟩ d_M_forecast_51 (fun r9 ad9 c9 hp9 => ?_)
        obtain ⟨rfl, rfl, rfl⟩ := hp9
        have hk_9 : (kF_forecast p0 p1 p2 p3 p4) = 1 := by unfold kF_forecast; rw [if_pos hq_1, if_pos hq_2, if_neg (inF_n1 hq_3)]
        exact r_iret (post := fun r ad' c' => ((kF_forecast p0 p1 p2 p3 p4) = 0 → r = 0) ∧ (∀ j, j < 160 → ad' j = ad j) ∧ (∀ j, j < 128 → c' j = c j) ∧ ∃ fs, c' 128 = some (.inr (11, .int (kF_forecast p0 p1 p2 p3 p4) :: fs))) X hr hlk d_M_forecast_54 (by decide) (by decide) ⟨(fun h9 => absurd (hk_9.symm.trans h9) (by decide)), (fun j hj => rfl), (fun j hj => (rup_ne (by omega) rfl)), _, (by rw [hk_9]; exact rup_self)⟩
    · refine r_top (y := 0) hq_2 ?_
      refine r_if_eq X 49 d_M_forecast_23 (by decide) (fun _ => ?_) (fun h9 => absurd h9 (by decide))
      refine r_aload_n X 0 d_M_forecast_49 rfl rfl ?_
      refine r_iconst X 1 d_M_forecast_50 (by decide) ?_
      refine r_Vi X W0_good hN (c_M_no l D cy ad (c) t0 f1 f2 hm 1) yv_M_no m_M_174 (hm.1) k_M.2.1 rfl rfl rfl ⟨by decide, by decide⟩ (Nat.le_of_ble_eq_true rfl) ⟨by decide, by decide⟩ d_M_forecast_51 (fun r9 ad9 c9 hp9 => ?_)
      obtain ⟨rfl, rfl, rfl⟩ := hp9
      have hk_10 : (kF_forecast p0 p1 p2 p3 p4) = 1 := by unfold kF_forecast; rw [if_pos hq_1, if_neg (inF_n1 hq_2)]
      exact r_iret (post := fun r ad' c' => ((kF_forecast p0 p1 p2 p3 p4) = 0 → r = 0) ∧ (∀ j, j < 160 → ad' j = ad j) ∧ (∀ j, j < 128 → c' j = c j) ∧ ∃ fs, c' 128 = some (.inr (11, .int (kF_forecast p0 p1 p2 p3 p4) :: fs))) X hr hlk d_M_forecast_54 (by decide) (by decide) ⟨(fun h9 => absurd (hk_10.symm.trans h9) (by decide)), (fun j hj => rfl), (fun j hj => (rup_ne (by omega) rfl)), _, (by rw [hk_10]; exact rup_self)⟩
  · refine r_top (y := 0) hq_1 ?_
    refine r_if_eq X 49 d_M_forecast_12 (by decide) (fun _ => ?_) (fun h9 => absurd h9 (by decide))
    refine r_aload_n X 0 d_M_forecast_49 rfl rfl ?_
    refine r_iconst X 1 d_M_forecast_50 (by decide) ?_
    refine r_Vi X W0_good hN (c_M_no l D cy ad (c) t0 f1 f2 hm 1) yv_M_no m_M_174 (hm.1) k_M.2.1 rfl rfl rfl ⟨by decide, by decide⟩ (Nat.le_of_ble_eq_true rfl) ⟨by decide, by decide⟩ d_M_forecast_51 (fun r9 ad9 c9 hp9 => ?_)
    obtain ⟨rfl, rfl, rfl⟩ := hp9
    have hk_11 : (kF_forecast p0 p1 p2 p3 p4) = 1 := by unfold kF_forecast; rw [if_neg (inF_n1 hq_1)]
    exact r_iret (post := fun r ad' c' => ((kF_forecast p0 p1 p2 p3 p4) = 0 → r = 0) ∧ (∀ j, j < 160 → ad' j = ad j) ∧ (∀ j, j < 128 → c' j = c j) ∧ ∃ fs, c' 128 = some (.inr (11, .int (kF_forecast p0 p1 p2 p3 p4) :: fs))) X hr hlk d_M_forecast_54 (by decide) (by decide) ⟨(fun h9 => absurd (hk_11.symm.trans h9) (by decide)), (fun j hj => rfl), (fun j hj => (rup_ne (by omega) rfl)), _, (by rw [hk_11]; exact rup_self)⟩
set_option maxRecDepth 100000 in
set_option maxHeartbeats 4000000 in
theorem c_M_meanWarmth (l : Launch) (D : va_G) (cy : Nat → ClassId) (t0 : Nat) (ad : Nat → Nat) (c : rC) (f1 f2 : Nat → Option Nat) (hm : mC t0 f1 f2 cy ad c) : xMd l D cls (TY cy) NW t0 y_M_meanWarmth (Cond.code y_M_meanWarmth b_M_meanWarmth 3 rt_M_meanWarmth :: W0) { frames := 1, cells := 0, slots := 0, locals := 20 } [.ref (ad 128)] ad c (fun r ad' c' => FP.dconst0 = r ∧ ad = ad' ∧ c = c') := by
  intro sz
  refine x_of (own := R_M) rfl (by decide +kernel) (Nat.le_of_ble_eq_true rfl) ?_
  intro p e s m below meth cd hsz X hr hlk hN hE hin
  refine r_lv [0] [(0, .ref (ad 128))] rfl ?_
  refine r_aload_n X 0 d_M_meanWarmth_0 rfl rfl ?_
  refine r_iconst X 0 d_M_meanWarmth_1 (by decide) ?_
  refine r_put X k_M 0 (by decide) f_M_38 rfl (hm.1) rfl rfl rfl (Nat.le_of_ble_eq_true rfl) [.int 0, .ref (ad 129), .ref (ad 130), .ref (ad 131), .ref (ad 152), .ref (ad 158), .int 0, .int 0, .int 0, .int 100, .int 0, .int 0, .int 0, .int 0, .int 0, .int 0] rfl (va_up c 128 (some (.inr (11, [.int 0, .ref (ad 129), .ref (ad 130), .ref (ad 131), .ref (ad 152), .ref (ad 158), .int 0, .int 0, .int 0, .int 100, .int 0, .int 0, .int 0, .int 0, .int 0, .int 0])))) rfl d_M_meanWarmth_2 ?_
  refine r_c c (rup_id hm.1) ?_
  refine r_iconst X 0 d_M_meanWarmth_5 (by decide) ?_
  refine r_istore_n X [(1, .int 0), (0, .ref (ad 128))] d_M_meanWarmth_6 rfl (by decide) rfl ?_
  refine r_iconst X 0 d_M_meanWarmth_7 (by decide) ?_
  refine r_istore_n X [(2, .int 0), (1, .int 0), (0, .ref (ad 128))] d_M_meanWarmth_8 rfl (by decide) rfl ?_
  refine r_iload_n X 0 d_M_meanWarmth_9 rfl rfl ?_
  refine r_aload_n X 2 d_M_meanWarmth_10 rfl rfl ?_
  refine r_get X k_M 1 (by decide) f_M_10 rfl (hm.1) rfl d_M_meanWarmth_11 ?_
  refine x_Fi X W0_good hN hE (c_AL_size_8abf5 l D cy t0 ad (c) 129 (.int 0) (.ref t0) 0 (hm.2.1)) yF_size (by decide +kernel) m9_M_124 (hm.2.1) k_AL.2.1 rfl rfl rfl ⟨by decide, by decide⟩ (Nat.le_of_ble_eq_true rfl) ⟨by decide, by decide⟩ d_M_meanWarmth_14 (fun r9 ad9 c9 hp9 => ?_)
  obtain ⟨rfl, rfl, rfl⟩ := hp9
  refine r_icmp_ge X 47 d_M_meanWarmth_19 (by decide) (fun _ => ?_) (fun h9 => absurd h9 (by decide))
  refine r_aload_n X 2 d_M_meanWarmth_47 rfl rfl ?_
  refine r_get X k_M 1 (by decide) f_M_10 rfl (hm.1) rfl d_M_meanWarmth_48 ?_
  refine x_Fi X W0_good hN hE (c_AL_isEmpty_aae02 l D cy t0 ad (c) 129 (.int 0) (.ref t0) (hm.2.1)) yF_isEmpty (by decide +kernel) m9_M_255 (hm.2.1) k_AL.2.1 rfl rfl rfl ⟨by decide, by decide⟩ (Nat.le_of_ble_eq_true rfl) ⟨by decide, by decide⟩ d_M_meanWarmth_51 (fun r9 ad9 c9 hp9 => ?_)
  obtain ⟨rfl, rfl, rfl⟩ := hp9
  refine r_if_eq X 63 d_M_meanWarmth_56 (by decide) (fun h9 => absurd h9 (by decide)) (fun _ => ?_)
  refine r_dconst0 X d_M_meanWarmth_59 ?_
  refine r_goto X 76 d_M_meanWarmth_60 (by decide) ?_
  exact r_dret (post := fun r ad' c' => FP.dconst0 = r ∧ ad = ad' ∧ c = c') X hr hlk d_M_meanWarmth_76 (by decide) (by decide) ⟨rfl, rfl, rfl⟩
set_option maxRecDepth 100000 in
set_option maxHeartbeats 4000000 in
theorem c_M_digest (l : Launch) (D : va_G) (cy : Nat → ClassId) (t0 : Nat) (ad : Nat → Nat) (c : rC) (f1 f2 : Nat → Option Nat) (hm : mC t0 f1 f2 cy ad c) : xMl l D cls (TY cy) NW t0 y_M_digest (Cond.code y_M_digest b_M_digest 6 rt_M_digest :: W0) { frames := 5, cells := 30, slots := 400, locals := 117 } [.ref (ad 128)] ad c (fun r ad' c' => digF S00 = r ∧ ad = ad' ∧ c = c') := by
  intro sz
  refine x_of (own := R_M) rfl (by decide +kernel) (Nat.le_of_ble_eq_true rfl) ?_
  intro p e s m below meth cd hsz X hr hlk hN hE hin
  refine r_lv [0] [(0, .ref (ad 128))] rfl ?_
  refine r_aload_n X 0 d_M_digest_0 rfl rfl ?_
  refine r_iconst X 0 d_M_digest_1 (by decide) ?_
  refine r_put X k_M 0 (by decide) f_M_38 rfl (hm.1) rfl rfl rfl (Nat.le_of_ble_eq_true rfl) [.int 0, .ref (ad 129), .ref (ad 130), .ref (ad 131), .ref (ad 152), .ref (ad 158), .int 0, .int 0, .int 0, .int 100, .int 0, .int 0, .int 0, .int 0, .int 0, .int 0] rfl (va_up c 128 (some (.inr (11, [.int 0, .ref (ad 129), .ref (ad 130), .ref (ad 131), .ref (ad 152), .ref (ad 158), .int 0, .int 0, .int 0, .int 100, .int 0, .int 0, .int 0, .int 0, .int 0, .int 0])))) rfl d_M_digest_2 ?_
  refine r_c c (rup_id hm.1) ?_
  refine r_ldc2 X q_M_277 d_M_digest_5 ?_
  refine r_lstore_n X [(1, .long 4808), (0, .ref (ad 128))] d_M_digest_8 rfl (by decide) rfl ?_
  refine r_iconst X 0 d_M_digest_9 (by decide) ?_
  refine r_istore_n X [(3, .int 0), (1, .long 4808), (0, .ref (ad 128))] d_M_digest_10 rfl (by decide) rfl ?_
  refine r_iload_n X 0 d_M_digest_11 rfl rfl ?_
  refine r_bipush X 14 d_M_digest_12 (by decide) ?_
  refine r_icmp_gt X 36 d_M_digest_14 (by decide) (fun h9 => absurd h9 (by decide)) (fun _ => ?_)
  refine r_lload_n X 1 d_M_digest_17 rfl rfl ?_
  refine r_ldc2 X q_M_279 d_M_digest_18 ?_
  refine r_lmul X d_M_digest_21 ?_
  refine r_aload_n X 2 d_M_digest_22 rfl rfl ?_
  refine r_iload_n X 0 d_M_digest_23 rfl rfl ?_
  refine r_top (y := nI 0) (by decide) ?_
  refine x_Vi X W0_good hN hE (c_M_manyNow l D cy t0 ad (c) f1 f2 hm 0 (by decide)) yv_M_manyNow m_M_246 (hm.1) k_M.2.1 rfl rfl rfl ⟨by decide, by decide⟩ (Nat.le_of_ble_eq_true rfl) ⟨by decide, by decide⟩ d_M_digest_24 (fun r9 ad9 c9 hp9 => ?_)
  obtain ⟨rfl, rfl, rfl⟩ := hp9
  refine r_top (y := 0) (by decide +kernel) ?_
  refine r_i2l X d_M_digest_27 ?_
  refine r_ladd X d_M_digest_28 ?_
  refine r_lstore_n X [(1, .long ((4808 * 31) + ((0 : Int32).toInt64))), (3, .int 0), (0, .ref (ad 128))] d_M_digest_29 rfl (by decide) rfl ?_
  refine r_iinc X 1 [(3, .int 1), (1, .long ((4808 * 31) + ((0 : Int32).toInt64))), (0, .ref (ad 128))] d_M_digest_30 rfl (by decide) (by decide) rfl ?_
  refine r_goto X 11 d_M_digest_33 (by decide) ?_
  refine r_iload_n X 0 d_M_digest_11 rfl rfl ?_
  refine r_bipush X 14 d_M_digest_12 (by decide) ?_
  refine r_icmp_gt X 36 d_M_digest_14 (by decide) (fun h9 => absurd h9 (by decide)) (fun _ => ?_)
  refine r_lload_n X 1 d_M_digest_17 rfl rfl ?_
  refine r_ldc2 X q_M_279 d_M_digest_18 ?_
  refine r_lmul X d_M_digest_21 ?_
  refine r_aload_n X 2 d_M_digest_22 rfl rfl ?_
  refine r_iload_n X 0 d_M_digest_23 rfl rfl ?_
  refine r_top (y := nI 1) (by decide) ?_
  refine x_Vi X W0_good hN hE (c_M_manyNow l D cy t0 ad (c) f1 f2 hm 1 (by decide)) yv_M_manyNow m_M_246 (hm.1) k_M.2.1 rfl rfl rfl ⟨by decide, by decide⟩ (Nat.le_of_ble_eq_true rfl) ⟨by decide, by decide⟩ d_M_digest_24 (fun r9 ad9 c9 hp9 => ?_)
  obtain ⟨rfl, rfl, rfl⟩ := hp9
  refine r_top (y := 0) (by decide +kernel) ?_
  refine r_i2l X d_M_digest_27 ?_
  refine r_ladd X d_M_digest_28 ?_
  refine r_lstore_n X [(1, .long ((((4808 * 31) + ((0 : Int32).toInt64)) * 31) + ((0 : Int32).toInt64))), (3, .int 1), (0, .ref (ad 128))] d_M_digest_29 rfl (by decide) rfl ?_
  refine r_iinc X 1 [(3, .int 2), (1, .long ((((4808 * 31) + ((0 : Int32).toInt64)) * 31) + ((0 : Int32).toInt64))), (0, .ref (ad 128))] d_M_digest_30 rfl (by decide) (by decide) rfl ?_
  refine r_goto X 11 d_M_digest_33 (by decide) ?_
  refine r_iload_n X 0 d_M_digest_11 rfl rfl ?_
  refine r_bipush X 14 d_M_digest_12 (by decide) ?_
  refine r_icmp_gt X 36 d_M_digest_14 (by decide) (fun h9 => absurd h9 (by decide)) (fun _ => ?_)
  refine r_lload_n X 1 d_M_digest_17 rfl rfl ?_
  refine r_ldc2 X q_M_279 d_M_digest_18 ?_
  refine r_lmul X d_M_digest_21 ?_
  refine r_aload_n X 2 d_M_digest_22 rfl rfl ?_
  refine r_iload_n X 0 d_M_digest_23 rfl rfl ?_
  refine r_top (y := nI 2) (by decide) ?_
  refine x_Vi X W0_good hN hE (c_M_manyNow l D cy t0 ad (c) f1 f2 hm 2 (by decide)) yv_M_manyNow m_M_246 (hm.1) k_M.2.1 rfl rfl rfl ⟨by decide, by decide⟩ (Nat.le_of_ble_eq_true rfl) ⟨by decide, by decide⟩ d_M_digest_24 (fun r9 ad9 c9 hp9 => ?_)
  obtain ⟨rfl, rfl, rfl⟩ := hp9
  refine r_top (y := 0) (by decide +kernel) ?_
  refine r_i2l X d_M_digest_27 ?_
  refine r_ladd X d_M_digest_28 ?_
  refine r_lstore_n X [(1, .long ((((((4808 * 31) + ((0 : Int32).toInt64)) * 31) + ((0 : Int32).toInt64)) * 31) + ((0 : Int32).toInt64))), (3, .int 2), (0, .ref (ad 128))] d_M_digest_29 rfl (by decide) rfl ?_
  refine r_iinc X 1 [(3, .int 3), (1, .long ((((((4808 * 31) + ((0 : Int32).toInt64)) * 31) + ((0 : Int32).toInt64)) * 31) + ((0 : Int32).toInt64))), (0, .ref (ad 128))] d_M_digest_30 rfl (by decide) (by decide) rfl ?_
  refine r_goto X 11 d_M_digest_33 (by decide) ?_
  refine r_iload_n X 0 d_M_digest_11 rfl rfl ?_
  refine r_bipush X 14 d_M_digest_12 (by decide) ?_
  refine r_icmp_gt X 36 d_M_digest_14 (by decide) (fun h9 => absurd h9 (by decide)) (fun _ => ?_)
  refine r_lload_n X 1 d_M_digest_17 rfl rfl ?_
  refine r_ldc2 X q_M_279 d_M_digest_18 ?_
  refine r_lmul X d_M_digest_21 ?_
  refine r_aload_n X 2 d_M_digest_22 rfl rfl ?_
  refine r_iload_n X 0 d_M_digest_23 rfl rfl ?_
  refine r_top (y := nI 3) (by decide) ?_
  refine x_Vi X W0_good hN hE (c_M_manyNow l D cy t0 ad (c) f1 f2 hm 3 (by decide)) yv_M_manyNow m_M_246 (hm.1) k_M.2.1 rfl rfl rfl ⟨by decide, by decide⟩ (Nat.le_of_ble_eq_true rfl) ⟨by decide, by decide⟩ d_M_digest_24 (fun r9 ad9 c9 hp9 => ?_)
  obtain ⟨rfl, rfl, rfl⟩ := hp9
  refine r_top (y := 100) (by decide +kernel) ?_
  refine r_i2l X d_M_digest_27 ?_
  refine r_ladd X d_M_digest_28 ?_
  refine r_lstore_n X [(1, .long ((((((((4808 * 31) + ((0 : Int32).toInt64)) * 31) + ((0 : Int32).toInt64)) * 31) + ((0 : Int32).toInt64)) * 31) + ((100 : Int32).toInt64))), (3, .int 3), (0, .ref (ad 128))] d_M_digest_29 rfl (by decide) rfl ?_
  refine r_iinc X 1 [(3, .int 4), (1, .long ((((((((4808 * 31) + ((0 : Int32).toInt64)) * 31) + ((0 : Int32).toInt64)) * 31) + ((0 : Int32).toInt64)) * 31) + ((100 : Int32).toInt64))), (0, .ref (ad 128))] d_M_digest_30 rfl (by decide) (by decide) rfl ?_
  refine r_goto X 11 d_M_digest_33 (by decide) ?_
  refine r_iload_n X 0 d_M_digest_11 rfl rfl ?_
  refine r_bipush X 14 d_M_digest_12 (by decide) ?_
  refine r_icmp_gt X 36 d_M_digest_14 (by decide) (fun h9 => absurd h9 (by decide)) (fun _ => ?_)
  refine r_lload_n X 1 d_M_digest_17 rfl rfl ?_
  refine r_ldc2 X q_M_279 d_M_digest_18 ?_
  refine r_lmul X d_M_digest_21 ?_
  refine r_aload_n X 2 d_M_digest_22 rfl rfl ?_
  refine r_iload_n X 0 d_M_digest_23 rfl rfl ?_
  refine r_top (y := nI 4) (by decide) ?_
  refine x_Vi X W0_good hN hE (c_M_manyNow l D cy t0 ad (c) f1 f2 hm 4 (by decide)) yv_M_manyNow m_M_246 (hm.1) k_M.2.1 rfl rfl rfl ⟨by decide, by decide⟩ (Nat.le_of_ble_eq_true rfl) ⟨by decide, by decide⟩ d_M_digest_24 (fun r9 ad9 c9 hp9 => ?_)
  obtain ⟨rfl, rfl, rfl⟩ := hp9
  refine r_top (y := 0) (by decide +kernel) ?_
  refine r_i2l X d_M_digest_27 ?_
  refine r_ladd X d_M_digest_28 ?_
  refine r_lstore_n X [(1, .long ((((((((((4808 * 31) + ((0 : Int32).toInt64)) * 31) + ((0 : Int32).toInt64)) * 31) + ((0 : Int32).toInt64)) * 31) + ((100 : Int32).toInt64)) * 31) + ((0 : Int32).toInt64))), (3, .int 4), (0, .ref (ad 128))] d_M_digest_29 rfl (by decide) rfl ?_
  refine r_iinc X 1 [(3, .int 5), (1, .long ((((((((((4808 * 31) + ((0 : Int32).toInt64)) * 31) + ((0 : Int32).toInt64)) * 31) + ((0 : Int32).toInt64)) * 31) + ((100 : Int32).toInt64)) * 31) + ((0 : Int32).toInt64))), (0, .ref (ad 128))] d_M_digest_30 rfl (by decide) (by decide) rfl ?_
  refine r_goto X 11 d_M_digest_33 (by decide) ?_
  refine r_iload_n X 0 d_M_digest_11 rfl rfl ?_
  refine r_bipush X 14 d_M_digest_12 (by decide) ?_
  refine r_icmp_gt X 36 d_M_digest_14 (by decide) (fun h9 => absurd h9 (by decide)) (fun _ => ?_)
  refine r_lload_n X 1 d_M_digest_17 rfl rfl ?_
  refine r_ldc2 X q_M_279 d_M_digest_18 ?_
  refine r_lmul X d_M_digest_21 ?_
  refine r_aload_n X 2 d_M_digest_22 rfl rfl ?_
  refine r_iload_n X 0 d_M_digest_23 rfl rfl ?_
  refine r_top (y := nI 5) (by decide) ?_
  refine x_Vi X W0_good hN hE (c_M_manyNow l D cy t0 ad (c) f1 f2 hm 5 (by decide)) yv_M_manyNow m_M_246 (hm.1) k_M.2.1 rfl rfl rfl ⟨by decide, by decide⟩ (Nat.le_of_ble_eq_true rfl) ⟨by decide, by decide⟩ d_M_digest_24 (fun r9 ad9 c9 hp9 => ?_)
  obtain ⟨rfl, rfl, rfl⟩ := hp9
  refine r_top (y := 0) (by decide +kernel) ?_
  refine r_i2l X d_M_digest_27 ?_
  refine r_ladd X d_M_digest_28 ?_
  refine r_lstore_n X [(1, .long ((((((((((((4808 * 31) + ((0 : Int32).toInt64)) * 31) + ((0 : Int32).toInt64)) * 31) + ((0 : Int32).toInt64)) * 31) + ((100 : Int32).toInt64)) * 31) + ((0 : Int32).toInt64)) * 31) + ((0 : Int32).toInt64))), (3, .int 5), (0, .ref (ad 128))] d_M_digest_29 rfl (by decide) rfl ?_
  refine r_iinc X 1 [(3, .int 6), (1, .long ((((((((((((4808 * 31) + ((0 : Int32).toInt64)) * 31) + ((0 : Int32).toInt64)) * 31) + ((0 : Int32).toInt64)) * 31) + ((100 : Int32).toInt64)) * 31) + ((0 : Int32).toInt64)) * 31) + ((0 : Int32).toInt64))), (0, .ref (ad 128))] d_M_digest_30 rfl (by decide) (by decide) rfl ?_
  refine r_goto X 11 d_M_digest_33 (by decide) ?_
  refine r_iload_n X 0 d_M_digest_11 rfl rfl ?_
  refine r_bipush X 14 d_M_digest_12 (by decide) ?_
  refine r_icmp_gt X 36 d_M_digest_14 (by decide) (fun h9 => absurd h9 (by decide)) (fun _ => ?_)
  refine r_lload_n X 1 d_M_digest_17 rfl rfl ?_
  refine r_ldc2 X q_M_279 d_M_digest_18 ?_
  refine r_lmul X d_M_digest_21 ?_
  refine r_aload_n X 2 d_M_digest_22 rfl rfl ?_
  refine r_iload_n X 0 d_M_digest_23 rfl rfl ?_
  refine r_top (y := nI 6) (by decide) ?_
  refine x_Vi X W0_good hN hE (c_M_manyNow l D cy t0 ad (c) f1 f2 hm 6 (by decide)) yv_M_manyNow m_M_246 (hm.1) k_M.2.1 rfl rfl rfl ⟨by decide, by decide⟩ (Nat.le_of_ble_eq_true rfl) ⟨by decide, by decide⟩ d_M_digest_24 (fun r9 ad9 c9 hp9 => ?_)
  obtain ⟨rfl, rfl, rfl⟩ := hp9
  refine r_top (y := 0) (by decide +kernel) ?_
  refine r_i2l X d_M_digest_27 ?_
  refine r_ladd X d_M_digest_28 ?_
  refine r_lstore_n X [(1, .long ((((((((((((((4808 * 31) + ((0 : Int32).toInt64)) * 31) + ((0 : Int32).toInt64)) * 31) + ((0 : Int32).toInt64)) * 31) + ((100 : Int32).toInt64)) * 31) + ((0 : Int32).toInt64)) * 31) + ((0 : Int32).toInt64)) * 31) + ((0 : Int32).toInt64))), (3, .int 6), (0, .ref (ad 128))] d_M_digest_29 rfl (by decide) rfl ?_
  refine r_iinc X 1 [(3, .int 7), (1, .long ((((((((((((((4808 * 31) + ((0 : Int32).toInt64)) * 31) + ((0 : Int32).toInt64)) * 31) + ((0 : Int32).toInt64)) * 31) + ((100 : Int32).toInt64)) * 31) + ((0 : Int32).toInt64)) * 31) + ((0 : Int32).toInt64)) * 31) + ((0 : Int32).toInt64))), (0, .ref (ad 128))] d_M_digest_30 rfl (by decide) (by decide) rfl ?_
  refine r_goto X 11 d_M_digest_33 (by decide) ?_
  refine r_iload_n X 0 d_M_digest_11 rfl rfl ?_
  refine r_bipush X 14 d_M_digest_12 (by decide) ?_
  refine r_icmp_gt X 36 d_M_digest_14 (by decide) (fun h9 => absurd h9 (by decide)) (fun _ => ?_)
  refine r_lload_n X 1 d_M_digest_17 rfl rfl ?_
  refine r_ldc2 X q_M_279 d_M_digest_18 ?_
  refine r_lmul X d_M_digest_21 ?_
  refine r_aload_n X 2 d_M_digest_22 rfl rfl ?_
  refine r_iload_n X 0 d_M_digest_23 rfl rfl ?_
  refine r_top (y := nI 7) (by decide) ?_
  refine x_Vi X W0_good hN hE (c_M_manyNow l D cy t0 ad (c) f1 f2 hm 7 (by decide)) yv_M_manyNow m_M_246 (hm.1) k_M.2.1 rfl rfl rfl ⟨by decide, by decide⟩ (Nat.le_of_ble_eq_true rfl) ⟨by decide, by decide⟩ d_M_digest_24 (fun r9 ad9 c9 hp9 => ?_)
  obtain ⟨rfl, rfl, rfl⟩ := hp9
  refine r_top (y := 0) (by decide +kernel) ?_
  refine r_i2l X d_M_digest_27 ?_
  refine r_ladd X d_M_digest_28 ?_
  refine r_lstore_n X [(1, .long ((((((((((((((((4808 * 31) + ((0 : Int32).toInt64)) * 31) + ((0 : Int32).toInt64)) * 31) + ((0 : Int32).toInt64)) * 31) + ((100 : Int32).toInt64)) * 31) + ((0 : Int32).toInt64)) * 31) + ((0 : Int32).toInt64)) * 31) + ((0 : Int32).toInt64)) * 31) + ((0 : Int32).toInt64))), (3, .int 7), (0, .ref (ad 128))] d_M_digest_29 rfl (by decide) rfl ?_
  refine r_iinc X 1 [(3, .int 8), (1, .long ((((((((((((((((4808 * 31) + ((0 : Int32).toInt64)) * 31) + ((0 : Int32).toInt64)) * 31) + ((0 : Int32).toInt64)) * 31) + ((100 : Int32).toInt64)) * 31) + ((0 : Int32).toInt64)) * 31) + ((0 : Int32).toInt64)) * 31) + ((0 : Int32).toInt64)) * 31) + ((0 : Int32).toInt64))), (0, .ref (ad 128))] d_M_digest_30 rfl (by decide) (by decide) rfl ?_
  refine r_goto X 11 d_M_digest_33 (by decide) ?_
  refine r_iload_n X 0 d_M_digest_11 rfl rfl ?_
  refine r_bipush X 14 d_M_digest_12 (by decide) ?_
  refine r_icmp_gt X 36 d_M_digest_14 (by decide) (fun h9 => absurd h9 (by decide)) (fun _ => ?_)
  refine r_lload_n X 1 d_M_digest_17 rfl rfl ?_
  refine r_ldc2 X q_M_279 d_M_digest_18 ?_
  refine r_lmul X d_M_digest_21 ?_
  refine r_aload_n X 2 d_M_digest_22 rfl rfl ?_
  refine r_iload_n X 0 d_M_digest_23 rfl rfl ?_
  refine r_top (y := nI 8) (by decide) ?_
  refine x_Vi X W0_good hN hE (c_M_manyNow l D cy t0 ad (c) f1 f2 hm 8 (by decide)) yv_M_manyNow m_M_246 (hm.1) k_M.2.1 rfl rfl rfl ⟨by decide, by decide⟩ (Nat.le_of_ble_eq_true rfl) ⟨by decide, by decide⟩ d_M_digest_24 (fun r9 ad9 c9 hp9 => ?_)
  obtain ⟨rfl, rfl, rfl⟩ := hp9
  refine r_top (y := 0) (by decide +kernel) ?_
  refine r_i2l X d_M_digest_27 ?_
  refine r_ladd X d_M_digest_28 ?_
  refine r_lstore_n X [(1, .long ((((((((((((((((((4808 * 31) + ((0 : Int32).toInt64)) * 31) + ((0 : Int32).toInt64)) * 31) + ((0 : Int32).toInt64)) * 31) + ((100 : Int32).toInt64)) * 31) + ((0 : Int32).toInt64)) * 31) + ((0 : Int32).toInt64)) * 31) + ((0 : Int32).toInt64)) * 31) + ((0 : Int32).toInt64)) * 31) + ((0 : Int32).toInt64))), (3, .int 8), (0, .ref (ad 128))] d_M_digest_29 rfl (by decide) rfl ?_
  refine r_iinc X 1 [(3, .int 9), (1, .long ((((((((((((((((((4808 * 31) + ((0 : Int32).toInt64)) * 31) + ((0 : Int32).toInt64)) * 31) + ((0 : Int32).toInt64)) * 31) + ((100 : Int32).toInt64)) * 31) + ((0 : Int32).toInt64)) * 31) + ((0 : Int32).toInt64)) * 31) + ((0 : Int32).toInt64)) * 31) + ((0 : Int32).toInt64)) * 31) + ((0 : Int32).toInt64))), (0, .ref (ad 128))] d_M_digest_30 rfl (by decide) (by decide) rfl ?_
  refine r_goto X 11 d_M_digest_33 (by decide) ?_
  refine r_iload_n X 0 d_M_digest_11 rfl rfl ?_
  refine r_bipush X 14 d_M_digest_12 (by decide) ?_
  refine r_icmp_gt X 36 d_M_digest_14 (by decide) (fun h9 => absurd h9 (by decide)) (fun _ => ?_)
  refine r_lload_n X 1 d_M_digest_17 rfl rfl ?_
  refine r_ldc2 X q_M_279 d_M_digest_18 ?_
  refine r_lmul X d_M_digest_21 ?_
  refine r_aload_n X 2 d_M_digest_22 rfl rfl ?_
  refine r_iload_n X 0 d_M_digest_23 rfl rfl ?_
  refine r_top (y := nI 9) (by decide) ?_
  refine x_Vi X W0_good hN hE (c_M_manyNow l D cy t0 ad (c) f1 f2 hm 9 (by decide)) yv_M_manyNow m_M_246 (hm.1) k_M.2.1 rfl rfl rfl ⟨by decide, by decide⟩ (Nat.le_of_ble_eq_true rfl) ⟨by decide, by decide⟩ d_M_digest_24 (fun r9 ad9 c9 hp9 => ?_)
  obtain ⟨rfl, rfl, rfl⟩ := hp9
  refine r_top (y := 0) (by decide +kernel) ?_
  refine r_i2l X d_M_digest_27 ?_
  refine r_ladd X d_M_digest_28 ?_
  refine r_lstore_n X [(1, .long ((((((((((((((((((((4808 * 31) + ((0 : Int32).toInt64)) * 31) + ((0 : Int32).toInt64)) * 31) + ((0 : Int32).toInt64)) * 31) + ((100 : Int32).toInt64)) * 31) + ((0 : Int32).toInt64)) * 31) + ((0 : Int32).toInt64)) * 31) + ((0 : Int32).toInt64)) * 31) + ((0 : Int32).toInt64)) * 31) + ((0 : Int32).toInt64)) * 31) + ((0 : Int32).toInt64))), (3, .int 9), (0, .ref (ad 128))] d_M_digest_29 rfl (by decide) rfl ?_
  refine r_iinc X 1 [(3, .int 10), (1, .long ((((((((((((((((((((4808 * 31) + ((0 : Int32).toInt64)) * 31) + ((0 : Int32).toInt64)) * 31) + ((0 : Int32).toInt64)) * 31) + ((100 : Int32).toInt64)) * 31) + ((0 : Int32).toInt64)) * 31) + ((0 : Int32).toInt64)) * 31) + ((0 : Int32).toInt64)) * 31) + ((0 : Int32).toInt64)) * 31) + ((0 : Int32).toInt64)) * 31) + ((0 : Int32).toInt64))), (0, .ref (ad 128))] d_M_digest_30 rfl (by decide) (by decide) rfl ?_
  refine r_goto X 11 d_M_digest_33 (by decide) ?_
  refine r_iload_n X 0 d_M_digest_11 rfl rfl ?_
  refine r_bipush X 14 d_M_digest_12 (by decide) ?_
  refine r_icmp_gt X 36 d_M_digest_14 (by decide) (fun h9 => absurd h9 (by decide)) (fun _ => ?_)
  refine r_lload_n X 1 d_M_digest_17 rfl rfl ?_
  refine r_ldc2 X q_M_279 d_M_digest_18 ?_
  refine r_lmul X d_M_digest_21 ?_
  refine r_aload_n X 2 d_M_digest_22 rfl rfl ?_
  refine r_iload_n X 0 d_M_digest_23 rfl rfl ?_
  refine r_top (y := nI 10) (by decide) ?_
  refine x_Vi X W0_good hN hE (c_M_manyNow l D cy t0 ad (c) f1 f2 hm 10 (by decide)) yv_M_manyNow m_M_246 (hm.1) k_M.2.1 rfl rfl rfl ⟨by decide, by decide⟩ (Nat.le_of_ble_eq_true rfl) ⟨by decide, by decide⟩ d_M_digest_24 (fun r9 ad9 c9 hp9 => ?_)
  obtain ⟨rfl, rfl, rfl⟩ := hp9
  refine r_top (y := 0) (by decide +kernel) ?_
  refine r_i2l X d_M_digest_27 ?_
  refine r_ladd X d_M_digest_28 ?_
  refine r_lstore_n X [(1, .long ((((((((((((((((((((((4808 * 31) + ((0 : Int32).toInt64)) * 31) + ((0 : Int32).toInt64)) * 31) + ((0 : Int32).toInt64)) * 31) + ((100 : Int32).toInt64)) * 31) + ((0 : Int32).toInt64)) * 31) + ((0 : Int32).toInt64)) * 31) + ((0 : Int32).toInt64)) * 31) + ((0 : Int32).toInt64)) * 31) + ((0 : Int32).toInt64)) * 31) + ((0 : Int32).toInt64)) * 31) + ((0 : Int32).toInt64))), (3, .int 10), (0, .ref (ad 128))] d_M_digest_29 rfl (by decide) rfl ?_
  refine r_iinc X 1 [(3, .int 11), (1, .long ((((((((((((((((((((((4808 * 31) + ((0 : Int32).toInt64)) * 31) + ((0 : Int32).toInt64)) * 31) + ((0 : Int32).toInt64)) * 31) + ((100 : Int32).toInt64)) * 31) + ((0 : Int32).toInt64)) * 31) + ((0 : Int32).toInt64)) * 31) + ((0 : Int32).toInt64)) * 31) + ((0 : Int32).toInt64)) * 31) + ((0 : Int32).toInt64)) * 31) + ((0 : Int32).toInt64)) * 31) + ((0 : Int32).toInt64))), (0, .ref (ad 128))] d_M_digest_30 rfl (by decide) (by decide) rfl ?_
  refine r_goto X 11 d_M_digest_33 (by decide) ?_
  refine r_iload_n X 0 d_M_digest_11 rfl rfl ?_
  refine r_bipush X 14 d_M_digest_12 (by decide) ?_
  refine r_icmp_gt X 36 d_M_digest_14 (by decide) (fun h9 => absurd h9 (by decide)) (fun _ => ?_)
  refine r_lload_n X 1 d_M_digest_17 rfl rfl ?_
  refine r_ldc2 X q_M_279 d_M_digest_18 ?_
  refine r_lmul X d_M_digest_21 ?_
  refine r_aload_n X 2 d_M_digest_22 rfl rfl ?_
  refine r_iload_n X 0 d_M_digest_23 rfl rfl ?_
  refine r_top (y := nI 11) (by decide) ?_
  refine x_Vi X W0_good hN hE (c_M_manyNow l D cy t0 ad (c) f1 f2 hm 11 (by decide)) yv_M_manyNow m_M_246 (hm.1) k_M.2.1 rfl rfl rfl ⟨by decide, by decide⟩ (Nat.le_of_ble_eq_true rfl) ⟨by decide, by decide⟩ d_M_digest_24 (fun r9 ad9 c9 hp9 => ?_)
  obtain ⟨rfl, rfl, rfl⟩ := hp9
  refine r_top (y := 0) (by decide +kernel) ?_
  refine r_i2l X d_M_digest_27 ?_
  refine r_ladd X d_M_digest_28 ?_
  refine r_lstore_n X [(1, .long ((((((((((((((((((((((((4808 * 31) + ((0 : Int32).toInt64)) * 31) + ((0 : Int32).toInt64)) * 31) + ((0 : Int32).toInt64)) * 31) + ((100 : Int32).toInt64)) * 31) + ((0 : Int32).toInt64)) * 31) + ((0 : Int32).toInt64)) * 31) + ((0 : Int32).toInt64)) * 31) + ((0 : Int32).toInt64)) * 31) + ((0 : Int32).toInt64)) * 31) + ((0 : Int32).toInt64)) * 31) + ((0 : Int32).toInt64)) * 31) + ((0 : Int32).toInt64))), (3, .int 11), (0, .ref (ad 128))] d_M_digest_29 rfl (by decide) rfl ?_
  refine r_iinc X 1 [(3, .int 12), (1, .long ((((((((((((((((((((((((4808 * 31) + ((0 : Int32).toInt64)) * 31) + ((0 : Int32).toInt64)) * 31) + ((0 : Int32).toInt64)) * 31) + ((100 : Int32).toInt64)) * 31) + ((0 : Int32).toInt64)) * 31) + ((0 : Int32).toInt64)) * 31) + ((0 : Int32).toInt64)) * 31) + ((0 : Int32).toInt64)) * 31) + ((0 : Int32).toInt64)) * 31) + ((0 : Int32).toInt64)) * 31) + ((0 : Int32).toInt64)) * 31) + ((0 : Int32).toInt64))), (0, .ref (ad 128))] d_M_digest_30 rfl (by decide) (by decide) rfl ?_
  refine r_goto X 11 d_M_digest_33 (by decide) ?_
  refine r_iload_n X 0 d_M_digest_11 rfl rfl ?_
  refine r_bipush X 14 d_M_digest_12 (by decide) ?_
  refine r_icmp_gt X 36 d_M_digest_14 (by decide) (fun h9 => absurd h9 (by decide)) (fun _ => ?_)
  refine r_lload_n X 1 d_M_digest_17 rfl rfl ?_
  refine r_ldc2 X q_M_279 d_M_digest_18 ?_
  refine r_lmul X d_M_digest_21 ?_
  refine r_aload_n X 2 d_M_digest_22 rfl rfl ?_
  refine r_iload_n X 0 d_M_digest_23 rfl rfl ?_
  refine r_top (y := nI 12) (by decide) ?_
  refine x_Vi X W0_good hN hE (c_M_manyNow l D cy t0 ad (c) f1 f2 hm 12 (by decide)) yv_M_manyNow m_M_246 (hm.1) k_M.2.1 rfl rfl rfl ⟨by decide, by decide⟩ (Nat.le_of_ble_eq_true rfl) ⟨by decide, by decide⟩ d_M_digest_24 (fun r9 ad9 c9 hp9 => ?_)
  obtain ⟨rfl, rfl, rfl⟩ := hp9
  refine r_top (y := 0) (by decide +kernel) ?_
  refine r_i2l X d_M_digest_27 ?_
  refine r_ladd X d_M_digest_28 ?_
  refine r_lstore_n X [(1, .long ((((((((((((((((((((((((((4808 * 31) + ((0 : Int32).toInt64)) * 31) + ((0 : Int32).toInt64)) * 31) + ((0 : Int32).toInt64)) * 31) + ((100 : Int32).toInt64)) * 31) + ((0 : Int32).toInt64)) * 31) + ((0 : Int32).toInt64)) * 31) + ((0 : Int32).toInt64)) * 31) + ((0 : Int32).toInt64)) * 31) + ((0 : Int32).toInt64)) * 31) + ((0 : Int32).toInt64)) * 31) + ((0 : Int32).toInt64)) * 31) + ((0 : Int32).toInt64)) * 31) + ((0 : Int32).toInt64))), (3, .int 12), (0, .ref (ad 128))] d_M_digest_29 rfl (by decide) rfl ?_
  refine r_iinc X 1 [(3, .int 13), (1, .long ((((((((((((((((((((((((((4808 * 31) + ((0 : Int32).toInt64)) * 31) + ((0 : Int32).toInt64)) * 31) + ((0 : Int32).toInt64)) * 31) + ((100 : Int32).toInt64)) * 31) + ((0 : Int32).toInt64)) * 31) + ((0 : Int32).toInt64)) * 31) + ((0 : Int32).toInt64)) * 31) + ((0 : Int32).toInt64)) * 31) + ((0 : Int32).toInt64)) * 31) + ((0 : Int32).toInt64)) * 31) + ((0 : Int32).toInt64)) * 31) + ((0 : Int32).toInt64)) * 31) + ((0 : Int32).toInt64))), (0, .ref (ad 128))] d_M_digest_30 rfl (by decide) (by decide) rfl ?_
  refine r_goto X 11 d_M_digest_33 (by decide) ?_
  refine r_iload_n X 0 d_M_digest_11 rfl rfl ?_
  refine r_bipush X 14 d_M_digest_12 (by decide) ?_
  refine r_icmp_gt X 36 d_M_digest_14 (by decide) (fun h9 => absurd h9 (by decide)) (fun _ => ?_)
  refine r_lload_n X 1 d_M_digest_17 rfl rfl ?_
  refine r_ldc2 X q_M_279 d_M_digest_18 ?_
  refine r_lmul X d_M_digest_21 ?_
  refine r_aload_n X 2 d_M_digest_22 rfl rfl ?_
  refine r_iload_n X 0 d_M_digest_23 rfl rfl ?_
  refine r_top (y := nI 13) (by decide) ?_
  refine x_Vi X W0_good hN hE (c_M_manyNow l D cy t0 ad (c) f1 f2 hm 13 (by decide)) yv_M_manyNow m_M_246 (hm.1) k_M.2.1 rfl rfl rfl ⟨by decide, by decide⟩ (Nat.le_of_ble_eq_true rfl) ⟨by decide, by decide⟩ d_M_digest_24 (fun r9 ad9 c9 hp9 => ?_)
  obtain ⟨rfl, rfl, rfl⟩ := hp9
  refine r_top (y := 0) (by decide +kernel) ?_
  refine r_i2l X d_M_digest_27 ?_
  refine r_ladd X d_M_digest_28 ?_
  refine r_lstore_n X [(1, .long ((((((((((((((((((((((((((((4808 * 31) + ((0 : Int32).toInt64)) * 31) + ((0 : Int32).toInt64)) * 31) + ((0 : Int32).toInt64)) * 31) + ((100 : Int32).toInt64)) * 31) + ((0 : Int32).toInt64)) * 31) + ((0 : Int32).toInt64)) * 31) + ((0 : Int32).toInt64)) * 31) + ((0 : Int32).toInt64)) * 31) + ((0 : Int32).toInt64)) * 31) + ((0 : Int32).toInt64)) * 31) + ((0 : Int32).toInt64)) * 31) + ((0 : Int32).toInt64)) * 31) + ((0 : Int32).toInt64)) * 31) + ((0 : Int32).toInt64))), (3, .int 13), (0, .ref (ad 128))] d_M_digest_29 rfl (by decide) rfl ?_
  refine r_iinc X 1 [(3, .int 14), (1, .long ((((((((((((((((((((((((((((4808 * 31) + ((0 : Int32).toInt64)) * 31) + ((0 : Int32).toInt64)) * 31) + ((0 : Int32).toInt64)) * 31) + ((100 : Int32).toInt64)) * 31) + ((0 : Int32).toInt64)) * 31) + ((0 : Int32).toInt64)) * 31) + ((0 : Int32).toInt64)) * 31) + ((0 : Int32).toInt64)) * 31) + ((0 : Int32).toInt64)) * 31) + ((0 : Int32).toInt64)) * 31) + ((0 : Int32).toInt64)) * 31) + ((0 : Int32).toInt64)) * 31) + ((0 : Int32).toInt64)) * 31) + ((0 : Int32).toInt64))), (0, .ref (ad 128))] d_M_digest_30 rfl (by decide) (by decide) rfl ?_
  refine r_goto X 11 d_M_digest_33 (by decide) ?_
  refine r_iload_n X 0 d_M_digest_11 rfl rfl ?_
  refine r_bipush X 14 d_M_digest_12 (by decide) ?_
  refine r_icmp_gt X 36 d_M_digest_14 (by decide) (fun h9 => absurd h9 (by decide)) (fun _ => ?_)
  refine r_lload_n X 1 d_M_digest_17 rfl rfl ?_
  refine r_ldc2 X q_M_279 d_M_digest_18 ?_
  refine r_lmul X d_M_digest_21 ?_
  refine r_aload_n X 2 d_M_digest_22 rfl rfl ?_
  refine r_iload_n X 0 d_M_digest_23 rfl rfl ?_
  refine r_top (y := nI 14) (by decide) ?_
  refine x_Vi X W0_good hN hE (c_M_manyNow l D cy t0 ad (c) f1 f2 hm 14 (by decide)) yv_M_manyNow m_M_246 (hm.1) k_M.2.1 rfl rfl rfl ⟨by decide, by decide⟩ (Nat.le_of_ble_eq_true rfl) ⟨by decide, by decide⟩ d_M_digest_24 (fun r9 ad9 c9 hp9 => ?_)
  obtain ⟨rfl, rfl, rfl⟩ := hp9
  refine r_top (y := 0) (by decide +kernel) ?_
  refine r_i2l X d_M_digest_27 ?_
  refine r_ladd X d_M_digest_28 ?_
  refine r_lstore_n X [(1, .long ((((((((((((((((((((((((((((((4808 * 31) + ((0 : Int32).toInt64)) * 31) + ((0 : Int32).toInt64)) * 31) + ((0 : Int32).toInt64)) * 31) + ((100 : Int32).toInt64)) * 31) + ((0 : Int32).toInt64)) * 31) + ((0 : Int32).toInt64)) * 31) + ((0 : Int32).toInt64)) * 31) + ((0 : Int32).toInt64)) * 31) + ((0 : Int32).toInt64)) * 31) + ((0 : Int32).toInt64)) * 31) + ((0 : Int32).toInt64)) * 31) + ((0 : Int32).toInt64)) * 31) + ((0 : Int32).toInt64)) * 31) + ((0 : Int32).toInt64)) * 31) + ((0 : Int32).toInt64))), (3, .int 14), (0, .ref (ad 128))] d_M_digest_29 rfl (by decide) rfl ?_
  refine r_iinc X 1 [(3, .int 15), (1, .long ((((((((((((((((((((((((((((((4808 * 31) + ((0 : Int32).toInt64)) * 31) + ((0 : Int32).toInt64)) * 31) + ((0 : Int32).toInt64)) * 31) + ((100 : Int32).toInt64)) * 31) + ((0 : Int32).toInt64)) * 31) + ((0 : Int32).toInt64)) * 31) + ((0 : Int32).toInt64)) * 31) + ((0 : Int32).toInt64)) * 31) + ((0 : Int32).toInt64)) * 31) + ((0 : Int32).toInt64)) * 31) + ((0 : Int32).toInt64)) * 31) + ((0 : Int32).toInt64)) * 31) + ((0 : Int32).toInt64)) * 31) + ((0 : Int32).toInt64)) * 31) + ((0 : Int32).toInt64))), (0, .ref (ad 128))] d_M_digest_30 rfl (by decide) (by decide) rfl ?_
  refine r_goto X 11 d_M_digest_33 (by decide) ?_
  refine r_iload_n X 0 d_M_digest_11 rfl rfl ?_
  refine r_bipush X 14 d_M_digest_12 (by decide) ?_
  refine r_icmp_gt X 36 d_M_digest_14 (by decide) (fun _ => ?_) (fun h9 => absurd h9 (by decide))
  refine r_iconst X 0 d_M_digest_36 (by decide) ?_
  refine r_istore_n X [(3, .int 0), (1, .long ((((((((((((((((((((((((((((((4808 * 31) + ((0 : Int32).toInt64)) * 31) + ((0 : Int32).toInt64)) * 31) + ((0 : Int32).toInt64)) * 31) + ((100 : Int32).toInt64)) * 31) + ((0 : Int32).toInt64)) * 31) + ((0 : Int32).toInt64)) * 31) + ((0 : Int32).toInt64)) * 31) + ((0 : Int32).toInt64)) * 31) + ((0 : Int32).toInt64)) * 31) + ((0 : Int32).toInt64)) * 31) + ((0 : Int32).toInt64)) * 31) + ((0 : Int32).toInt64)) * 31) + ((0 : Int32).toInt64)) * 31) + ((0 : Int32).toInt64)) * 31) + ((0 : Int32).toInt64))), (0, .ref (ad 128))] d_M_digest_37 rfl (by decide) rfl ?_
  refine r_iload_n X 0 d_M_digest_38 rfl rfl ?_
  refine r_aload_n X 2 d_M_digest_39 rfl rfl ?_
  refine r_get X k_M 1 (by decide) f_M_10 rfl (hm.1) rfl d_M_digest_40 ?_
  refine x_Fi X W0_good hN hE (c_AL_size_8abf5 l D cy t0 ad (c) 129 (.int 0) (.ref t0) 0 (hm.2.1)) yF_size (by decide +kernel) m9_M_124 (hm.2.1) k_AL.2.1 rfl rfl rfl ⟨by decide, by decide⟩ (Nat.le_of_ble_eq_true rfl) ⟨by decide, by decide⟩ d_M_digest_43 (fun r9 ad9 c9 hp9 => ?_)
  obtain ⟨rfl, rfl, rfl⟩ := hp9
  refine r_icmp_ge X 165 d_M_digest_48 (by decide) (fun _ => ?_) (fun h9 => absurd h9 (by decide))
  refine r_iconst X 0 d_M_digest_165 (by decide) ?_
  refine r_istore_n X [(3, .int 0), (1, .long ((((((((((((((((((((((((((((((4808 * 31) + ((0 : Int32).toInt64)) * 31) + ((0 : Int32).toInt64)) * 31) + ((0 : Int32).toInt64)) * 31) + ((100 : Int32).toInt64)) * 31) + ((0 : Int32).toInt64)) * 31) + ((0 : Int32).toInt64)) * 31) + ((0 : Int32).toInt64)) * 31) + ((0 : Int32).toInt64)) * 31) + ((0 : Int32).toInt64)) * 31) + ((0 : Int32).toInt64)) * 31) + ((0 : Int32).toInt64)) * 31) + ((0 : Int32).toInt64)) * 31) + ((0 : Int32).toInt64)) * 31) + ((0 : Int32).toInt64)) * 31) + ((0 : Int32).toInt64))), (0, .ref (ad 128))] d_M_digest_166 rfl (by decide) rfl ?_
  refine r_iload_n X 0 d_M_digest_167 rfl rfl ?_
  refine r_aload_n X 2 d_M_digest_168 rfl rfl ?_
  refine r_get X k_M 2 (by decide) f_M_16 rfl (hm.1) rfl d_M_digest_169 ?_
  refine x_Fi X W0_good hN hE (c_AL_size_8abf5 l D cy t0 ad (c) 130 (.int 0) (.ref t0) 0 (hm.2.2.1)) yF_size (by decide +kernel) m9_M_124 (hm.2.2.1) k_AL.2.1 rfl rfl rfl ⟨by decide, by decide⟩ (Nat.le_of_ble_eq_true rfl) ⟨by decide, by decide⟩ d_M_digest_172 (fun r9 ad9 c9 hp9 => ?_)
  obtain ⟨rfl, rfl, rfl⟩ := hp9
  refine r_icmp_ge X 228 d_M_digest_177 (by decide) (fun _ => ?_) (fun h9 => absurd h9 (by decide))
  refine r_iconst X 0 d_M_digest_228 (by decide) ?_
  refine r_istore_n X [(3, .int 0), (1, .long ((((((((((((((((((((((((((((((4808 * 31) + ((0 : Int32).toInt64)) * 31) + ((0 : Int32).toInt64)) * 31) + ((0 : Int32).toInt64)) * 31) + ((100 : Int32).toInt64)) * 31) + ((0 : Int32).toInt64)) * 31) + ((0 : Int32).toInt64)) * 31) + ((0 : Int32).toInt64)) * 31) + ((0 : Int32).toInt64)) * 31) + ((0 : Int32).toInt64)) * 31) + ((0 : Int32).toInt64)) * 31) + ((0 : Int32).toInt64)) * 31) + ((0 : Int32).toInt64)) * 31) + ((0 : Int32).toInt64)) * 31) + ((0 : Int32).toInt64)) * 31) + ((0 : Int32).toInt64))), (0, .ref (ad 128))] d_M_digest_229 rfl (by decide) rfl ?_
  refine r_iload_n X 0 d_M_digest_230 rfl rfl ?_
  refine r_bipush X 7 d_M_digest_231 (by decide) ?_
  refine r_icmp_ge X 256 d_M_digest_233 (by decide) (fun h9 => absurd h9 (by decide)) (fun _ => ?_)
  refine r_lload_n X 1 d_M_digest_236 rfl rfl ?_
  refine r_ldc2 X q_M_279 d_M_digest_237 ?_
  refine r_lmul X d_M_digest_240 ?_
  refine r_aload_n X 2 d_M_digest_241 rfl rfl ?_
  refine r_iconst X 0 d_M_digest_242 (by decide) ?_
  refine r_iload_n X 0 d_M_digest_243 rfl rfl ?_
  refine r_top (y := nI 0) (by decide) ?_
  refine x_Vi X W0_good hN hE (c_M_wayNow l D cy t0 ad (c) f1 f2 hm 0 0 (by decide) (by decide)) yv_M_wayNow m_M_249 (hm.1) k_M.2.1 rfl rfl rfl ⟨by decide, by decide⟩ (Nat.le_of_ble_eq_true rfl) ⟨by decide, by decide⟩ d_M_digest_244 (fun r9 ad9 c9 hp9 => ?_)
  obtain ⟨rfl, rfl, rfl⟩ := hp9
  refine r_top (y := 0) (by decide +kernel) ?_
  refine r_i2l X d_M_digest_247 ?_
  refine r_ladd X d_M_digest_248 ?_
  refine r_lstore_n X [(1, .long ((((((((((((((((((((((((((((((((4808 * 31) + ((0 : Int32).toInt64)) * 31) + ((0 : Int32).toInt64)) * 31) + ((0 : Int32).toInt64)) * 31) + ((100 : Int32).toInt64)) * 31) + ((0 : Int32).toInt64)) * 31) + ((0 : Int32).toInt64)) * 31) + ((0 : Int32).toInt64)) * 31) + ((0 : Int32).toInt64)) * 31) + ((0 : Int32).toInt64)) * 31) + ((0 : Int32).toInt64)) * 31) + ((0 : Int32).toInt64)) * 31) + ((0 : Int32).toInt64)) * 31) + ((0 : Int32).toInt64)) * 31) + ((0 : Int32).toInt64)) * 31) + ((0 : Int32).toInt64)) * 31) + ((0 : Int32).toInt64))), (3, .int 0), (0, .ref (ad 128))] d_M_digest_249 rfl (by decide) rfl ?_
  refine r_iinc X 1 [(3, .int 1), (1, .long ((((((((((((((((((((((((((((((((4808 * 31) + ((0 : Int32).toInt64)) * 31) + ((0 : Int32).toInt64)) * 31) + ((0 : Int32).toInt64)) * 31) + ((100 : Int32).toInt64)) * 31) + ((0 : Int32).toInt64)) * 31) + ((0 : Int32).toInt64)) * 31) + ((0 : Int32).toInt64)) * 31) + ((0 : Int32).toInt64)) * 31) + ((0 : Int32).toInt64)) * 31) + ((0 : Int32).toInt64)) * 31) + ((0 : Int32).toInt64)) * 31) + ((0 : Int32).toInt64)) * 31) + ((0 : Int32).toInt64)) * 31) + ((0 : Int32).toInt64)) * 31) + ((0 : Int32).toInt64)) * 31) + ((0 : Int32).toInt64))), (0, .ref (ad 128))] d_M_digest_250 rfl (by decide) (by decide) rfl ?_
  refine r_goto X 230 d_M_digest_253 (by decide) ?_
  refine r_iload_n X 0 d_M_digest_230 rfl rfl ?_
  refine r_bipush X 7 d_M_digest_231 (by decide) ?_
  refine r_icmp_ge X 256 d_M_digest_233 (by decide) (fun h9 => absurd h9 (by decide)) (fun _ => ?_)
  refine r_lload_n X 1 d_M_digest_236 rfl rfl ?_
  refine r_ldc2 X q_M_279 d_M_digest_237 ?_
  refine r_lmul X d_M_digest_240 ?_
  refine r_aload_n X 2 d_M_digest_241 rfl rfl ?_
  refine r_iconst X 0 d_M_digest_242 (by decide) ?_
  refine r_iload_n X 0 d_M_digest_243 rfl rfl ?_
  refine r_top (y := nI 1) (by decide) ?_
  refine x_Vi X W0_good hN hE (c_M_wayNow l D cy t0 ad (c) f1 f2 hm 0 1 (by decide) (by decide)) yv_M_wayNow m_M_249 (hm.1) k_M.2.1 rfl rfl rfl ⟨by decide, by decide⟩ (Nat.le_of_ble_eq_true rfl) ⟨by decide, by decide⟩ d_M_digest_244 (fun r9 ad9 c9 hp9 => ?_)
  obtain ⟨rfl, rfl, rfl⟩ := hp9
  refine r_top (y := (-1)) (by decide +kernel) ?_
  refine r_i2l X d_M_digest_247 ?_
  refine r_ladd X d_M_digest_248 ?_
  refine r_lstore_n X [(1, .long ((((((((((((((((((((((((((((((((((4808 * 31) + ((0 : Int32).toInt64)) * 31) + ((0 : Int32).toInt64)) * 31) + ((0 : Int32).toInt64)) * 31) + ((100 : Int32).toInt64)) * 31) + ((0 : Int32).toInt64)) * 31) + ((0 : Int32).toInt64)) * 31) + ((0 : Int32).toInt64)) * 31) + ((0 : Int32).toInt64)) * 31) + ((0 : Int32).toInt64)) * 31) + ((0 : Int32).toInt64)) * 31) + ((0 : Int32).toInt64)) * 31) + ((0 : Int32).toInt64)) * 31) + ((0 : Int32).toInt64)) * 31) + ((0 : Int32).toInt64)) * 31) + ((0 : Int32).toInt64)) * 31) + ((0 : Int32).toInt64)) * 31) + (((-1) : Int32).toInt64))), (3, .int 1), (0, .ref (ad 128))] d_M_digest_249 rfl (by decide) rfl ?_
  refine r_iinc X 1 [(3, .int 2), (1, .long ((((((((((((((((((((((((((((((((((4808 * 31) + ((0 : Int32).toInt64)) * 31) + ((0 : Int32).toInt64)) * 31) + ((0 : Int32).toInt64)) * 31) + ((100 : Int32).toInt64)) * 31) + ((0 : Int32).toInt64)) * 31) + ((0 : Int32).toInt64)) * 31) + ((0 : Int32).toInt64)) * 31) + ((0 : Int32).toInt64)) * 31) + ((0 : Int32).toInt64)) * 31) + ((0 : Int32).toInt64)) * 31) + ((0 : Int32).toInt64)) * 31) + ((0 : Int32).toInt64)) * 31) + ((0 : Int32).toInt64)) * 31) + ((0 : Int32).toInt64)) * 31) + ((0 : Int32).toInt64)) * 31) + ((0 : Int32).toInt64)) * 31) + (((-1) : Int32).toInt64))), (0, .ref (ad 128))] d_M_digest_250 rfl (by decide) (by decide) rfl ?_
  refine r_goto X 230 d_M_digest_253 (by decide) ?_
  refine r_iload_n X 0 d_M_digest_230 rfl rfl ?_
  refine r_bipush X 7 d_M_digest_231 (by decide) ?_
  refine r_icmp_ge X 256 d_M_digest_233 (by decide) (fun h9 => absurd h9 (by decide)) (fun _ => ?_)
  refine r_lload_n X 1 d_M_digest_236 rfl rfl ?_
  refine r_ldc2 X q_M_279 d_M_digest_237 ?_
  refine r_lmul X d_M_digest_240 ?_
  refine r_aload_n X 2 d_M_digest_241 rfl rfl ?_
  refine r_iconst X 0 d_M_digest_242 (by decide) ?_
  refine r_iload_n X 0 d_M_digest_243 rfl rfl ?_
  refine r_top (y := nI 2) (by decide) ?_
  refine x_Vi X W0_good hN hE (c_M_wayNow l D cy t0 ad (c) f1 f2 hm 0 2 (by decide) (by decide)) yv_M_wayNow m_M_249 (hm.1) k_M.2.1 rfl rfl rfl ⟨by decide, by decide⟩ (Nat.le_of_ble_eq_true rfl) ⟨by decide, by decide⟩ d_M_digest_244 (fun r9 ad9 c9 hp9 => ?_)
  obtain ⟨rfl, rfl, rfl⟩ := hp9
  refine r_top (y := (-1)) (by decide +kernel) ?_
  refine r_i2l X d_M_digest_247 ?_
  refine r_ladd X d_M_digest_248 ?_
  refine r_lstore_n X [(1, .long ((((((((((((((((((((((((((((((((((((4808 * 31) + ((0 : Int32).toInt64)) * 31) + ((0 : Int32).toInt64)) * 31) + ((0 : Int32).toInt64)) * 31) + ((100 : Int32).toInt64)) * 31) + ((0 : Int32).toInt64)) * 31) + ((0 : Int32).toInt64)) * 31) + ((0 : Int32).toInt64)) * 31) + ((0 : Int32).toInt64)) * 31) + ((0 : Int32).toInt64)) * 31) + ((0 : Int32).toInt64)) * 31) + ((0 : Int32).toInt64)) * 31) + ((0 : Int32).toInt64)) * 31) + ((0 : Int32).toInt64)) * 31) + ((0 : Int32).toInt64)) * 31) + ((0 : Int32).toInt64)) * 31) + ((0 : Int32).toInt64)) * 31) + (((-1) : Int32).toInt64)) * 31) + (((-1) : Int32).toInt64))), (3, .int 2), (0, .ref (ad 128))] d_M_digest_249 rfl (by decide) rfl ?_
  refine r_iinc X 1 [(3, .int 3), (1, .long ((((((((((((((((((((((((((((((((((((4808 * 31) + ((0 : Int32).toInt64)) * 31) + ((0 : Int32).toInt64)) * 31) + ((0 : Int32).toInt64)) * 31) + ((100 : Int32).toInt64)) * 31) + ((0 : Int32).toInt64)) * 31) + ((0 : Int32).toInt64)) * 31) + ((0 : Int32).toInt64)) * 31) + ((0 : Int32).toInt64)) * 31) + ((0 : Int32).toInt64)) * 31) + ((0 : Int32).toInt64)) * 31) + ((0 : Int32).toInt64)) * 31) + ((0 : Int32).toInt64)) * 31) + ((0 : Int32).toInt64)) * 31) + ((0 : Int32).toInt64)) * 31) + ((0 : Int32).toInt64)) * 31) + ((0 : Int32).toInt64)) * 31) + (((-1) : Int32).toInt64)) * 31) + (((-1) : Int32).toInt64))), (0, .ref (ad 128))] d_M_digest_250 rfl (by decide) (by decide) rfl ?_
  refine r_goto X 230 d_M_digest_253 (by decide) ?_
  refine r_iload_n X 0 d_M_digest_230 rfl rfl ?_
  refine r_bipush X 7 d_M_digest_231 (by decide) ?_
  refine r_icmp_ge X 256 d_M_digest_233 (by decide) (fun h9 => absurd h9 (by decide)) (fun _ => ?_)
  refine r_lload_n X 1 d_M_digest_236 rfl rfl ?_
  refine r_ldc2 X q_M_279 d_M_digest_237 ?_
  refine r_lmul X d_M_digest_240 ?_
  refine r_aload_n X 2 d_M_digest_241 rfl rfl ?_
  refine r_iconst X 0 d_M_digest_242 (by decide) ?_
  refine r_iload_n X 0 d_M_digest_243 rfl rfl ?_
  refine r_top (y := nI 3) (by decide) ?_
  refine x_Vi X W0_good hN hE (c_M_wayNow l D cy t0 ad (c) f1 f2 hm 0 3 (by decide) (by decide)) yv_M_wayNow m_M_249 (hm.1) k_M.2.1 rfl rfl rfl ⟨by decide, by decide⟩ (Nat.le_of_ble_eq_true rfl) ⟨by decide, by decide⟩ d_M_digest_244 (fun r9 ad9 c9 hp9 => ?_)
  obtain ⟨rfl, rfl, rfl⟩ := hp9
  refine r_top (y := (-1)) (by decide +kernel) ?_
  refine r_i2l X d_M_digest_247 ?_
  refine r_ladd X d_M_digest_248 ?_
  refine r_lstore_n X [(1, .long ((((((((((((((((((((((((((((((((((((((4808 * 31) + ((0 : Int32).toInt64)) * 31) + ((0 : Int32).toInt64)) * 31) + ((0 : Int32).toInt64)) * 31) + ((100 : Int32).toInt64)) * 31) + ((0 : Int32).toInt64)) * 31) + ((0 : Int32).toInt64)) * 31) + ((0 : Int32).toInt64)) * 31) + ((0 : Int32).toInt64)) * 31) + ((0 : Int32).toInt64)) * 31) + ((0 : Int32).toInt64)) * 31) + ((0 : Int32).toInt64)) * 31) + ((0 : Int32).toInt64)) * 31) + ((0 : Int32).toInt64)) * 31) + ((0 : Int32).toInt64)) * 31) + ((0 : Int32).toInt64)) * 31) + ((0 : Int32).toInt64)) * 31) + (((-1) : Int32).toInt64)) * 31) + (((-1) : Int32).toInt64)) * 31) + (((-1) : Int32).toInt64))), (3, .int 3), (0, .ref (ad 128))] d_M_digest_249 rfl (by decide) rfl ?_
  refine r_iinc X 1 [(3, .int 4), (1, .long ((((((((((((((((((((((((((((((((((((((4808 * 31) + ((0 : Int32).toInt64)) * 31) + ((0 : Int32).toInt64)) * 31) + ((0 : Int32).toInt64)) * 31) + ((100 : Int32).toInt64)) * 31) + ((0 : Int32).toInt64)) * 31) + ((0 : Int32).toInt64)) * 31) + ((0 : Int32).toInt64)) * 31) + ((0 : Int32).toInt64)) * 31) + ((0 : Int32).toInt64)) * 31) + ((0 : Int32).toInt64)) * 31) + ((0 : Int32).toInt64)) * 31) + ((0 : Int32).toInt64)) * 31) + ((0 : Int32).toInt64)) * 31) + ((0 : Int32).toInt64)) * 31) + ((0 : Int32).toInt64)) * 31) + ((0 : Int32).toInt64)) * 31) + (((-1) : Int32).toInt64)) * 31) + (((-1) : Int32).toInt64)) * 31) + (((-1) : Int32).toInt64))), (0, .ref (ad 128))] d_M_digest_250 rfl (by decide) (by decide) rfl ?_
  refine r_goto X 230 d_M_digest_253 (by decide) ?_
  refine r_iload_n X 0 d_M_digest_230 rfl rfl ?_
  refine r_bipush X 7 d_M_digest_231 (by decide) ?_
  refine r_icmp_ge X 256 d_M_digest_233 (by decide) (fun h9 => absurd h9 (by decide)) (fun _ => ?_)
  refine r_lload_n X 1 d_M_digest_236 rfl rfl ?_
  refine r_ldc2 X q_M_279 d_M_digest_237 ?_
  refine r_lmul X d_M_digest_240 ?_
  refine r_aload_n X 2 d_M_digest_241 rfl rfl ?_
  refine r_iconst X 0 d_M_digest_242 (by decide) ?_
  refine r_iload_n X 0 d_M_digest_243 rfl rfl ?_
  refine r_top (y := nI 4) (by decide) ?_
  refine x_Vi X W0_good hN hE (c_M_wayNow l D cy t0 ad (c) f1 f2 hm 0 4 (by decide) (by decide)) yv_M_wayNow m_M_249 (hm.1) k_M.2.1 rfl rfl rfl ⟨by decide, by decide⟩ (Nat.le_of_ble_eq_true rfl) ⟨by decide, by decide⟩ d_M_digest_244 (fun r9 ad9 c9 hp9 => ?_)
  obtain ⟨rfl, rfl, rfl⟩ := hp9
  refine r_top (y := (-1)) (by decide +kernel) ?_
  refine r_i2l X d_M_digest_247 ?_
  refine r_ladd X d_M_digest_248 ?_
  refine r_lstore_n X [(1, .long ((((((((((((((((((((((((((((((((((((((((4808 * 31) + ((0 : Int32).toInt64)) * 31) + ((0 : Int32).toInt64)) * 31) + ((0 : Int32).toInt64)) * 31) + ((100 : Int32).toInt64)) * 31) + ((0 : Int32).toInt64)) * 31) + ((0 : Int32).toInt64)) * 31) + ((0 : Int32).toInt64)) * 31) + ((0 : Int32).toInt64)) * 31) + ((0 : Int32).toInt64)) * 31) + ((0 : Int32).toInt64)) * 31) + ((0 : Int32).toInt64)) * 31) + ((0 : Int32).toInt64)) * 31) + ((0 : Int32).toInt64)) * 31) + ((0 : Int32).toInt64)) * 31) + ((0 : Int32).toInt64)) * 31) + ((0 : Int32).toInt64)) * 31) + (((-1) : Int32).toInt64)) * 31) + (((-1) : Int32).toInt64)) * 31) + (((-1) : Int32).toInt64)) * 31) + (((-1) : Int32).toInt64))), (3, .int 4), (0, .ref (ad 128))] d_M_digest_249 rfl (by decide) rfl ?_
  refine r_iinc X 1 [(3, .int 5), (1, .long ((((((((((((((((((((((((((((((((((((((((4808 * 31) + ((0 : Int32).toInt64)) * 31) + ((0 : Int32).toInt64)) * 31) + ((0 : Int32).toInt64)) * 31) + ((100 : Int32).toInt64)) * 31) + ((0 : Int32).toInt64)) * 31) + ((0 : Int32).toInt64)) * 31) + ((0 : Int32).toInt64)) * 31) + ((0 : Int32).toInt64)) * 31) + ((0 : Int32).toInt64)) * 31) + ((0 : Int32).toInt64)) * 31) + ((0 : Int32).toInt64)) * 31) + ((0 : Int32).toInt64)) * 31) + ((0 : Int32).toInt64)) * 31) + ((0 : Int32).toInt64)) * 31) + ((0 : Int32).toInt64)) * 31) + ((0 : Int32).toInt64)) * 31) + (((-1) : Int32).toInt64)) * 31) + (((-1) : Int32).toInt64)) * 31) + (((-1) : Int32).toInt64)) * 31) + (((-1) : Int32).toInt64))), (0, .ref (ad 128))] d_M_digest_250 rfl (by decide) (by decide) rfl ?_
  refine r_goto X 230 d_M_digest_253 (by decide) ?_
  refine r_iload_n X 0 d_M_digest_230 rfl rfl ?_
  refine r_bipush X 7 d_M_digest_231 (by decide) ?_
  refine r_icmp_ge X 256 d_M_digest_233 (by decide) (fun h9 => absurd h9 (by decide)) (fun _ => ?_)
  refine r_lload_n X 1 d_M_digest_236 rfl rfl ?_
  refine r_ldc2 X q_M_279 d_M_digest_237 ?_
  refine r_lmul X d_M_digest_240 ?_
  refine r_aload_n X 2 d_M_digest_241 rfl rfl ?_
  refine r_iconst X 0 d_M_digest_242 (by decide) ?_
  refine r_iload_n X 0 d_M_digest_243 rfl rfl ?_
  refine r_top (y := nI 5) (by decide) ?_
  refine x_Vi X W0_good hN hE (c_M_wayNow l D cy t0 ad (c) f1 f2 hm 0 5 (by decide) (by decide)) yv_M_wayNow m_M_249 (hm.1) k_M.2.1 rfl rfl rfl ⟨by decide, by decide⟩ (Nat.le_of_ble_eq_true rfl) ⟨by decide, by decide⟩ d_M_digest_244 (fun r9 ad9 c9 hp9 => ?_)
  obtain ⟨rfl, rfl, rfl⟩ := hp9
  refine r_top (y := (-1)) (by decide +kernel) ?_
  refine r_i2l X d_M_digest_247 ?_
  refine r_ladd X d_M_digest_248 ?_
  refine r_lstore_n X [(1, .long ((((((((((((((((((((((((((((((((((((((((((4808 * 31) + ((0 : Int32).toInt64)) * 31) + ((0 : Int32).toInt64)) * 31) + ((0 : Int32).toInt64)) * 31) + ((100 : Int32).toInt64)) * 31) + ((0 : Int32).toInt64)) * 31) + ((0 : Int32).toInt64)) * 31) + ((0 : Int32).toInt64)) * 31) + ((0 : Int32).toInt64)) * 31) + ((0 : Int32).toInt64)) * 31) + ((0 : Int32).toInt64)) * 31) + ((0 : Int32).toInt64)) * 31) + ((0 : Int32).toInt64)) * 31) + ((0 : Int32).toInt64)) * 31) + ((0 : Int32).toInt64)) * 31) + ((0 : Int32).toInt64)) * 31) + ((0 : Int32).toInt64)) * 31) + (((-1) : Int32).toInt64)) * 31) + (((-1) : Int32).toInt64)) * 31) + (((-1) : Int32).toInt64)) * 31) + (((-1) : Int32).toInt64)) * 31) + (((-1) : Int32).toInt64))), (3, .int 5), (0, .ref (ad 128))] d_M_digest_249 rfl (by decide) rfl ?_
  refine r_iinc X 1 [(3, .int 6), (1, .long ((((((((((((((((((((((((((((((((((((((((((4808 * 31) + ((0 : Int32).toInt64)) * 31) + ((0 : Int32).toInt64)) * 31) + ((0 : Int32).toInt64)) * 31) + ((100 : Int32).toInt64)) * 31) + ((0 : Int32).toInt64)) * 31) + ((0 : Int32).toInt64)) * 31) + ((0 : Int32).toInt64)) * 31) + ((0 : Int32).toInt64)) * 31) + ((0 : Int32).toInt64)) * 31) + ((0 : Int32).toInt64)) * 31) + ((0 : Int32).toInt64)) * 31) + ((0 : Int32).toInt64)) * 31) + ((0 : Int32).toInt64)) * 31) + ((0 : Int32).toInt64)) * 31) + ((0 : Int32).toInt64)) * 31) + ((0 : Int32).toInt64)) * 31) + (((-1) : Int32).toInt64)) * 31) + (((-1) : Int32).toInt64)) * 31) + (((-1) : Int32).toInt64)) * 31) + (((-1) : Int32).toInt64)) * 31) + (((-1) : Int32).toInt64))), (0, .ref (ad 128))] d_M_digest_250 rfl (by decide) (by decide) rfl ?_
  refine r_goto X 230 d_M_digest_253 (by decide) ?_
  refine r_iload_n X 0 d_M_digest_230 rfl rfl ?_
  refine r_bipush X 7 d_M_digest_231 (by decide) ?_
  refine r_icmp_ge X 256 d_M_digest_233 (by decide) (fun h9 => absurd h9 (by decide)) (fun _ => ?_)
  refine r_lload_n X 1 d_M_digest_236 rfl rfl ?_
  refine r_ldc2 X q_M_279 d_M_digest_237 ?_
  refine r_lmul X d_M_digest_240 ?_
  refine r_aload_n X 2 d_M_digest_241 rfl rfl ?_
  refine r_iconst X 0 d_M_digest_242 (by decide) ?_
  refine r_iload_n X 0 d_M_digest_243 rfl rfl ?_
  refine r_top (y := nI 6) (by decide) ?_
  refine x_Vi X W0_good hN hE (c_M_wayNow l D cy t0 ad (c) f1 f2 hm 0 6 (by decide) (by decide)) yv_M_wayNow m_M_249 (hm.1) k_M.2.1 rfl rfl rfl ⟨by decide, by decide⟩ (Nat.le_of_ble_eq_true rfl) ⟨by decide, by decide⟩ d_M_digest_244 (fun r9 ad9 c9 hp9 => ?_)
  obtain ⟨rfl, rfl, rfl⟩ := hp9
  refine r_top (y := (-1)) (by decide +kernel) ?_
  refine r_i2l X d_M_digest_247 ?_
  refine r_ladd X d_M_digest_248 ?_
  refine r_lstore_n X [(1, .long ((((((((((((((((((((((((((((((((((((((((((((4808 * 31) + ((0 : Int32).toInt64)) * 31) + ((0 : Int32).toInt64)) * 31) + ((0 : Int32).toInt64)) * 31) + ((100 : Int32).toInt64)) * 31) + ((0 : Int32).toInt64)) * 31) + ((0 : Int32).toInt64)) * 31) + ((0 : Int32).toInt64)) * 31) + ((0 : Int32).toInt64)) * 31) + ((0 : Int32).toInt64)) * 31) + ((0 : Int32).toInt64)) * 31) + ((0 : Int32).toInt64)) * 31) + ((0 : Int32).toInt64)) * 31) + ((0 : Int32).toInt64)) * 31) + ((0 : Int32).toInt64)) * 31) + ((0 : Int32).toInt64)) * 31) + ((0 : Int32).toInt64)) * 31) + (((-1) : Int32).toInt64)) * 31) + (((-1) : Int32).toInt64)) * 31) + (((-1) : Int32).toInt64)) * 31) + (((-1) : Int32).toInt64)) * 31) + (((-1) : Int32).toInt64)) * 31) + (((-1) : Int32).toInt64))), (3, .int 6), (0, .ref (ad 128))] d_M_digest_249 rfl (by decide) rfl ?_
  refine r_iinc X 1 [(3, .int 7), (1, .long ((((((((((((((((((((((((((((((((((((((((((((4808 * 31) + ((0 : Int32).toInt64)) * 31) + ((0 : Int32).toInt64)) * 31) + ((0 : Int32).toInt64)) * 31) + ((100 : Int32).toInt64)) * 31) + ((0 : Int32).toInt64)) * 31) + ((0 : Int32).toInt64)) * 31) + ((0 : Int32).toInt64)) * 31) + ((0 : Int32).toInt64)) * 31) + ((0 : Int32).toInt64)) * 31) + ((0 : Int32).toInt64)) * 31) + ((0 : Int32).toInt64)) * 31) + ((0 : Int32).toInt64)) * 31) + ((0 : Int32).toInt64)) * 31) + ((0 : Int32).toInt64)) * 31) + ((0 : Int32).toInt64)) * 31) + ((0 : Int32).toInt64)) * 31) + (((-1) : Int32).toInt64)) * 31) + (((-1) : Int32).toInt64)) * 31) + (((-1) : Int32).toInt64)) * 31) + (((-1) : Int32).toInt64)) * 31) + (((-1) : Int32).toInt64)) * 31) + (((-1) : Int32).toInt64))), (0, .ref (ad 128))] d_M_digest_250 rfl (by decide) (by decide) rfl ?_
  refine r_goto X 230 d_M_digest_253 (by decide) ?_
  refine r_iload_n X 0 d_M_digest_230 rfl rfl ?_
  refine r_bipush X 7 d_M_digest_231 (by decide) ?_
  refine r_icmp_ge X 256 d_M_digest_233 (by decide) (fun _ => ?_) (fun h9 => absurd h9 (by decide))
  refine r_aload_n X 2 d_M_digest_256 rfl rfl ?_
  refine r_get X k_M 2 (by decide) f_M_16 rfl (hm.1) rfl d_M_digest_257 ?_
  refine x_Fi X W0_good hN hE (c_AL_isEmpty_aae02 l D cy t0 ad (c) 130 (.int 0) (.ref t0) (hm.2.2.1)) yF_isEmpty (by decide +kernel) m9_M_255 (hm.2.2.1) k_AL.2.1 rfl rfl rfl ⟨by decide, by decide⟩ (Nat.le_of_ble_eq_true rfl) ⟨by decide, by decide⟩ d_M_digest_260 (fun r9 ad9 c9 hp9 => ?_)
  obtain ⟨rfl, rfl, rfl⟩ := hp9
  refine r_if_eq X 272 d_M_digest_265 (by decide) (fun h9 => absurd h9 (by decide)) (fun _ => ?_)
  refine r_lload_n X 1 d_M_digest_268 rfl rfl ?_
  refine r_goto X 284 d_M_digest_269 (by decide) ?_
  exact r_lret (post := fun r ad' c' => digF S00 = r ∧ ad = ad' ∧ c = c') X hr hlk d_M_digest_284 (by decide) (by decide) ⟨(by decide +kernel), rfl, rfl⟩
