/-! the county's counts, claims -/
def slipN (S : cS) (t : Nat) : Int32 := sumN (sNr S) (fun q9 => if sSl S q9 t = 0 then 0 else 1) 8
def cntF (S : cS) (k : Nat) : Int32 := match k with
  | 0 => nI (sNr S)
  | 1 => sNow S
  | 2 => nI (sNl S)
  | 3 => sBarn S
  | 4 => sumN (sNl S) (fun q9 => (sLo S q9).2.2.2.2.2.1) 3
  | 5 => sumN (sNr S) (fun q9 => (sSf S q9).2.2.2.2.1) 8
  | 6 => sumN (sNr S) (fun q9 => (sSf S q9).2.2.2.2.2.1) 8
  | 7 => sumN (sNr S) (fun q9 => (sSf S q9).2.2.2.2.2.2.1) 8
  | 8 => sRet S
  | 9 => sumN (sNr S) (fun q9 => (sSf S q9).2.2.2.2.2.2.2) 8
  | 10 => sPlo S
  | 11 => 0
  | 12 => 0
  | 13 => sDel S
  | _ => slipN S (sNow S).toNatClampNeg
theorem sumN_1 {nr i : Nat} {f : Nat → Int32} {x : Int32} (h : i < nr) (hx : f i = x) : sumN nr f i + x = sumN nr f (i + 1) := by rw [← hx, sumN_y h]
theorem clp {x : Int32} {t : Nat} (ht : t < 200) (h : x = nI t) : x.toNatClampNeg = t := by rw [h, nI_clamp (by omega)]
theorem ans_j : ∀ t : Nat, t < 200 → (if nI t - 12 < 0 then 0 else nI t - 12) = nI (t - 12) := by decide +kernel
def ansF (S : cS) (q t : Nat) : Int32 := if sSl S q t = 0 then 0 else if anyF (sTr S q) (t - 12) (t + 1 - (t - 12)) = 0 then 2 else 1
set_option maxRecDepth 100000 in
set_option maxHeartbeats 4000000 in
/-- Road_wasTreatedWithin -/
theorem c_Road_wasTreatedWithin (l : Launch) (D : va_G) (cy : Nat → ClassId) (ad : Nat → Nat) (c : rC) (n ks kl kt : Nat) (one oth len ran hei sha bri tim las : Int32) (hc : c n = some (.inr (2, [.int one, .int oth, .int len, .int ran, .int hei, .int sha, .int bri, .ref (ad ks), .ref (ad kl), .ref (ad kt), .int tim, .int las]))) (tr : Nat → Int32) (hl : c kt = some (.inl (cy 1, 200, .inl tr))) (t : Nat) (ht : t < 200) (a : Int32) (j0 : Nat) (hj0 : (if a < 0 then 0 else a) = nI j0) (hj1 : j0 ≤ t + 1) : rMi l D cls (TY cy) NW y_Road_wasTreatedWithin (Cond.code y_Road_wasTreatedWithin b_Road_wasTreatedWithin 5 rt_Road_wasTreatedWithin :: W0) { frames := 1, cells := 0, slots := 0, locals := 21 } [.ref (ad n), .int a, .int (nI t)] ad c (fun r ad' c' => anyF tr j0 (t + 1 - j0) = r ∧ ad = ad' ∧ c = c') := by
  intro sz
  refine r_of (own := R_Road) rfl (by decide +kernel) (Nat.le_of_ble_eq_true rfl) ?_
  intro p e s m below meth cd hsz X hr hlk hN hin
  refine r_lv [0, 1, 2] [(0, .ref (ad n)), (1, .int a), (2, .int (nI t))] rfl ?_
  refine r_iload_n X 2 d_Road_wasTreatedWithin_0 rfl rfl ?_
  refine r_aload_n X 0 d_Road_wasTreatedWithin_1 rfl rfl ?_
  refine r_get X k_Road 9 (by decide) f_Road_22 rfl hc rfl d_Road_wasTreatedWithin_2 ?_
  refine r_alen (v := nI 200) X 1 hl rfl rfl d_Road_wasTreatedWithin_5 ?_
  refine r_iconst X 1 d_Road_wasTreatedWithin_6 (by decide) ?_
  refine r_isub X d_Road_wasTreatedWithin_7 ?_
  refine r_min X m_Road_99 s_min i_Math cd_min ⟨by decide, by decide, by decide, by decide⟩ (Nat.le_of_ble_eq_true rfl) d_Road_wasTreatedWithin_8 ?_
  refine r_top (y := nI t) (by rw [show nI 200 - 1 = nI 199 by decide]; exact if_neg (nI_nlt (by omega) (by omega))) ?_
  refine r_istore_n X [(3, .int (nI t)), (0, .ref (ad n)), (1, .int a), (2, .int (nI t))] d_Road_wasTreatedWithin_11 rfl (by decide) rfl ?_
  refine r_iload_n X 2 d_Road_wasTreatedWithin_12 rfl rfl ?_
  refine r_iconst X 0 d_Road_wasTreatedWithin_13 (by decide) ?_
  refine r_max X m_Road_105 s_max i_Math cd_max ⟨by decide, by decide, by decide, by decide⟩ (Nat.le_of_ble_eq_true rfl) d_Road_wasTreatedWithin_14 ?_
  refine r_top (y := nI j0) hj0 ?_
  refine r_istore X [(4, .int (nI j0)), (3, .int (nI t)), (0, .ref (ad n)), (1, .int a), (2, .int (nI t))] d_Road_wasTreatedWithin_17 (by decide) rfl ?_
  refine r_lv [0, 1, 2, 3, 4] [(4, .int (nI j0)), (3, .int (nI t)), (0, .ref (ad n)), (1, .int a), (2, .int (nI t))] rfl ?_
  refine r_at (r_loop (σ := Nat) (fun f9 i => i ≤ (t + 1) ∧ i + f9 = (t + 1) + 1 ∧ anyF tr i (t + 1 - i) = anyF tr j0 (t + 1 - j0)) (fun i => c) 19 (fun i => [(4, .int (nI i)), (3, .int (nI t)), (0, .ref (ad n)), (1, .int a), (2, .int (nI t))]) (fun _ => []) (fun i h => by have h1 := h.1; have h2 := h.2.1; omega) (fun f9 i ih_i hI => ?_) ((t + 1) + 1 - j0) j0 ⟨by omega, by omega, rfl⟩) rfl rfl rfl rfl
  obtain ⟨hi8, hi9, hix⟩ := hI
  refine r_iload X 0 d_Road_wasTreatedWithin_19 rfl ?_
  refine r_iload_n X 1 d_Road_wasTreatedWithin_21 rfl rfl ?_
  refine r_icmp_gt X 43 d_Road_wasTreatedWithin_22 (by decide) (fun h_22 => ?_) (fun h_22 => ?_)
  · have hi : (t + 1) = i := by
      rcases Nat.lt_or_ge i (t + 1) with h | h
      · exact absurd h_22 (nI_nlt (by omega) (by omega))
      · omega
    subst hi
    refine r_iconst X 0 d_Road_wasTreatedWithin_43 (by decide) ?_
    exact r_zret (post := fun r ad' c' => anyF tr j0 (t + 1 - j0) = r ∧ ad = ad' ∧ c = c') X hr hlk (by decide) d_Road_wasTreatedWithin_44 (by decide) (by decide) ⟨by rw [← hix, Nat.sub_self]; rfl, rfl, rfl⟩
  · have hi : i < (t + 1) := by
      rcases Nat.lt_or_ge i (t + 1) with h | h
      · exact h
      · exact absurd (nI_lt (by omega) (by omega)) h_22
    refine r_aload_n X 2 d_Road_wasTreatedWithin_25 rfl rfl ?_
    refine r_get X k_Road 9 (by decide) f_Road_22 rfl hc rfl d_Road_wasTreatedWithin_26 ?_
    refine r_iload X 0 d_Road_wasTreatedWithin_29 rfl ?_
    refine r_zald (v := tr i) X 1 hl rfl (vp_in_nI (by omega) (by decide)) (at_nI (by omega)) d_Road_wasTreatedWithin_31 ?_
    refine r_if_eq X 37 d_Road_wasTreatedWithin_32 (by decide) (fun h_32 => ?_) (fun h_32 => ?_)
    · refine r_iinc X 0 [(4, .int (nI (i + 1))), (3, .int (nI t)), (0, .ref (ad n)), (1, .int a), (2, .int (nI t))] d_Road_wasTreatedWithin_37 rfl (nI_1 i) (by decide) rfl ?_
      refine r_goto X 19 d_Road_wasTreatedWithin_40 (by decide) ?_
      refine r_lv [0, 1, 2, 3, 4] [(4, .int (nI (i + 1))), (3, .int (nI t)), (0, .ref (ad n)), (1, .int a), (2, .int (nI t))] rfl ?_
      exact ih_i (i + 1) ⟨by omega, by omega, by rw [← hix, show t + 1 - i = (t + 1 - (i + 1)) + 1 from by omega]; exact (if_pos h_32).symm⟩
    · refine r_iconst X 1 d_Road_wasTreatedWithin_35 (by decide) ?_
      exact r_zret (post := fun r ad' c' => anyF tr j0 (t + 1 - j0) = r ∧ ad = ad' ∧ c = c') X hr hlk (by decide) d_Road_wasTreatedWithin_36 (by decide) (by decide) ⟨by rw [← hix, show t + 1 - i = (t + 1 - (i + 1)) + 1 from by omega]; exact if_neg h_32, rfl, rfl⟩
set_option maxRecDepth 100000 in
set_option maxHeartbeats 4000000 in
/-- G_deliveriesOnTheirWay -/
theorem c_G_deliveriesOnTheirWay (l : Launch) (D : va_G) (cy : Nat → ClassId) (ad : Nat → Nat)  (S : cS) (J : jS) (hS : wfS S) : rMi l D cls (TY cy) NW y_G_deliveriesOnTheirWay (Cond.code y_G_deliveriesOnTheirWay b_G_deliveriesOnTheirWay 6 rt_G_deliveriesOnTheirWay :: W0) { frames := 0, cells := 0, slots := 0, locals := 0 } [.ref (ad 0)] ad (cont cy ad S J) (fun r ad' c' => 0 = r ∧ ad = ad' ∧ (cont cy ad S J) = c') := by
  intro sz
  refine r_of (own := R_G) rfl (by decide +kernel) (Nat.le_of_ble_eq_true rfl) ?_
  intro p e s m below meth cd hsz X hr hlk hN hin
  refine r_lv [0] [(0, .ref (ad 0))] rfl ?_
  refine r_iconst X 0 d_G_deliveriesOnTheirWay_0 (by decide) ?_
  refine r_istore_n X [(1, .int 0), (0, .ref (ad 0))] d_G_deliveriesOnTheirWay_1 rfl (by decide) rfl ?_
  refine r_aload_n X 1 d_G_deliveriesOnTheirWay_2 rfl rfl ?_
  refine r_get X k_G 3 (by decide) f_G_29 rfl (ct_lo (by decide)) rfl d_G_deliveriesOnTheirWay_3 ?_
  refine r_astore_n X [(2, .ref (ad 4)), (1, .int 0), (0, .ref (ad 0))] d_G_deliveriesOnTheirWay_6 rfl (by decide) rfl ?_
  refine r_aload_n X 0 d_G_deliveriesOnTheirWay_7 rfl rfl ?_
  refine r_alen (v := nI 5) X 5 (ct_lo (by decide)) rfl rfl d_G_deliveriesOnTheirWay_8 ?_
  refine r_istore_n X [(3, .int (nI 5)), (2, .ref (ad 4)), (1, .int 0), (0, .ref (ad 0))] d_G_deliveriesOnTheirWay_9 rfl (by decide) rfl ?_
  refine r_iconst X 0 d_G_deliveriesOnTheirWay_10 (by decide) ?_
  refine r_istore X [(4, .int 0), (3, .int (nI 5)), (2, .ref (ad 4)), (1, .int 0), (0, .ref (ad 0))] d_G_deliveriesOnTheirWay_11 (by decide) rfl ?_
  refine r_lv [4, 3, 2, 1, 0] [(0, .ref (ad 0)), (1, .int 0), (2, .ref (ad 4)), (3, .int (nI 5)), (4, .int (nI 0))] rfl ?_
  refine r_at (r_loop (σ := Nat) (fun f9 i => i ≤ 5 ∧ i + f9 = 5 + 1) (fun i => cont cy ad S J) 13 (fun i => [(0, .ref (ad 0)), (1, .int 0), (2, .ref (ad 4)), (3, .int (nI 5)), (4, .int (nI i))]) (fun _ => []) (fun i h => by have h1 := h.1; have h2 := h.2; omega) (fun f9 i ih_i hI => ?_) (5 + 1 - 0) 0 ⟨by omega, by omega⟩) rfl rfl rfl rfl
  obtain ⟨hi8, hi9⟩ := hI
  refine r_iload X 4 d_G_deliveriesOnTheirWay_13 rfl ?_
  refine r_iload_n X 3 d_G_deliveriesOnTheirWay_15 rfl rfl ?_
  refine r_icmp_ge X 44 d_G_deliveriesOnTheirWay_16 (by decide) (fun h_16 => ?_) (fun h_16 => ?_)
  · have hi : 5 = i := by
      rcases Nat.lt_or_ge i 5 with h | h
      · exact absurd h_16 (nI_ge (by omega) (by omega))
      · omega
    subst hi
    refine r_iload_n X 1 d_G_deliveriesOnTheirWay_44 rfl rfl ?_
    exact r_iret (post := fun r ad' c' => 0 = r ∧ ad = ad' ∧ (cont cy ad S J) = c') X hr hlk d_G_deliveriesOnTheirWay_45 (by decide) (by decide) ⟨by (try simp only []); first | done | rfl | exact rup_id (by assumption), rfl, rfl⟩
  · have hi : i < 5 := by
      rcases Nat.lt_or_ge i 5 with h | h
      · exact h
      · exact absurd (nI_le (by omega) (by omega)) h_16
    refine r_aload_n X 2 d_G_deliveriesOnTheirWay_19 rfl rfl ?_
    refine r_iload X 4 d_G_deliveriesOnTheirWay_20 rfl ?_
    refine r_aald (v := .null) X 5 (ct_lo (by decide)) rfl (vp_in_nI hi (by decide)) rfl d_G_deliveriesOnTheirWay_22 ?_
    refine r_astoreN X [(5, .null), (0, .ref (ad 0)), (1, .int 0), (2, .ref (ad 4)), (3, .int (nI 5)), (4, .int (nI i))] d_G_deliveriesOnTheirWay_23 (by decide) rfl ?_
    refine r_iload_n X 2 d_G_deliveriesOnTheirWay_25 rfl rfl ?_
    refine r_aloadN X 0 d_G_deliveriesOnTheirWay_26 rfl ?_
    refine r_ifnonnullN X d_G_deliveriesOnTheirWay_28 ?_
    refine r_iconst X 0 d_G_deliveriesOnTheirWay_31 (by decide) ?_
    refine r_goto X 36 d_G_deliveriesOnTheirWay_32 (by decide) ?_
    refine r_iadd X d_G_deliveriesOnTheirWay_36 ?_
    refine r_top (y := 0) rfl ?_
    refine r_istore_n X [(1, .int 0), (5, .null), (0, .ref (ad 0)), (2, .ref (ad 4)), (3, .int (nI 5)), (4, .int (nI i))] d_G_deliveriesOnTheirWay_37 rfl (by decide) rfl ?_
    refine r_iinc X 5 [(4, .int (nI (i + 1))), (1, .int 0), (5, .null), (0, .ref (ad 0)), (2, .ref (ad 4)), (3, .int (nI 5))] d_G_deliveriesOnTheirWay_38 rfl (nI_1 i) (by decide) rfl ?_
    refine r_goto X 13 d_G_deliveriesOnTheirWay_41 (by decide) ?_
    refine r_lv [3, 1, 4, 5, 0] [(0, .ref (ad 0)), (1, .int 0), (2, .ref (ad 4)), (3, .int (nI 5)), (4, .int (nI (i + 1)))] rfl ?_
    exact ih_i (i + 1) ⟨by omega, by omega⟩
set_option maxRecDepth 100000 in
set_option maxHeartbeats 4000000 in
/-- G_takeDeliveries -/
theorem c_G_takeDeliveries (l : Launch) (D : va_G) (cy : Nat → ClassId) (ad : Nat → Nat)  (S : cS) (J : jS) (hS : wfS S) : rMv l D cls (TY cy) NW y_G_takeDeliveries (Cond.code y_G_takeDeliveries b_G_takeDeliveries 4 rt_G_takeDeliveries :: W0) { frames := 1, cells := 0, slots := 0, locals := 21 } [.ref (ad 0)] ad (cont cy ad S J) (fun ad' c' => ad = ad' ∧ (cont cy ad S J) = c') := by
  intro sz
  refine r_of (own := R_G) rfl (by decide +kernel) (Nat.le_of_ble_eq_true rfl) ?_
  intro p e s m below meth cd hsz X hr hlk hN hin
  refine r_lv [0] [(0, .ref (ad 0))] rfl ?_
  refine r_iconst X 0 d_G_takeDeliveries_0 (by decide) ?_
  refine r_istore_n X [(1, .int 0), (0, .ref (ad 0))] d_G_takeDeliveries_1 rfl (by decide) rfl ?_
  refine r_lv [1, 0] [(0, .ref (ad 0)), (1, .int (nI 0))] rfl ?_
  refine r_at (r_loop (σ := Nat) (fun f9 i => i ≤ 5 ∧ i + f9 = 5 + 1) (fun i => cont cy ad S J) 2 (fun i => [(0, .ref (ad 0)), (1, .int (nI i))]) (fun _ => []) (fun i h => by have h1 := h.1; have h2 := h.2; omega) (fun f9 i ih_i hI => ?_) (5 + 1 - 0) 0 ⟨by omega, by omega⟩) rfl rfl rfl rfl
  obtain ⟨hi8, hi9⟩ := hI
  refine r_iload_n X 1 d_G_takeDeliveries_2 rfl rfl ?_
  refine r_aload_n X 0 d_G_takeDeliveries_3 rfl rfl ?_
  refine r_get X k_G 3 (by decide) f_G_29 rfl (ct_lo (by decide)) rfl d_G_takeDeliveries_4 ?_
  refine r_alen (v := nI 5) X 5 (ct_lo (by decide)) rfl rfl d_G_takeDeliveries_7 ?_
  refine r_icmp_ge X 97 d_G_takeDeliveries_8 (by decide) (fun h_8 => ?_) (fun h_8 => ?_)
  · have hi : 5 = i := by
      rcases Nat.lt_or_ge i 5 with h | h
      · exact absurd h_8 (nI_ge (by omega) (by omega))
      · omega
    subst hi
    exact r_vret (post := fun ad' c' => ad = ad' ∧ (cont cy ad S J) = c') X hr hlk d_G_takeDeliveries_97 (by decide) (by decide) ⟨rfl, by (try simp only []); first | done | rfl | exact rup_id (by assumption)⟩
  · have hi : i < 5 := by
      rcases Nat.lt_or_ge i 5 with h | h
      · exact h
      · exact absurd (nI_le (by omega) (by omega)) h_8
    refine r_aload_n X 0 d_G_takeDeliveries_11 rfl rfl ?_
    refine r_get X k_G 3 (by decide) f_G_29 rfl (ct_lo (by decide)) rfl d_G_takeDeliveries_12 ?_
    refine r_iload_n X 1 d_G_takeDeliveries_15 rfl rfl ?_
    refine r_aald (v := .null) X 5 (ct_lo (by decide)) rfl (vp_in_nI hi (by decide)) rfl d_G_takeDeliveries_16 ?_
    refine r_astore_nN X [(2, .null), (0, .ref (ad 0)), (1, .int (nI i))] d_G_takeDeliveries_17 rfl (by decide) rfl ?_
    refine r_aload_nN X 0 d_G_takeDeliveries_18 rfl rfl ?_
    refine r_ifnullN X 91 d_G_takeDeliveries_19 (by decide) ?_
    refine r_iinc X 2 [(1, .int (nI (i + 1))), (2, .null), (0, .ref (ad 0))] d_G_takeDeliveries_91 rfl (nI_1 i) (by decide) rfl ?_
    refine r_goto X 2 d_G_takeDeliveries_94 (by decide) ?_
    refine r_lv [2, 0] [(0, .ref (ad 0)), (1, .int (nI (i + 1)))] rfl ?_
    exact ih_i (i + 1) ⟨by omega, by omega⟩
set_option maxRecDepth 100000 in
set_option maxHeartbeats 4000000 in
/-- G_lastWarning -/
theorem c_G_lastWarning (l : Launch) (D : va_G) (cy : Nat → ClassId) (ad : Nat → Nat)  (S : cS) (J : jS) (hS : wfS S) (q : Nat) (hq : q < sNr S) (t : Nat) : rMq l D cls (TY cy) NW y_G_lastWarning (Cond.code y_G_lastWarning b_G_lastWarning 8 rt_G_lastWarning :: W0) { frames := 2, cells := 0, slots := 0, locals := 44 } [.ref (ad 0), .ref (ad (16 + 4 * q)), .int (nI t)] ad (cont cy ad S J) (fun r ad' c' => none = r ∧ ad = ad' ∧ (cont cy ad S J) = c') := by
  intro sz
  refine r_of (own := R_G) rfl (by decide +kernel) (Nat.le_of_ble_eq_true rfl) ?_
  intro p e s m below meth cd hsz X hr hlk hN hin
  refine r_lv [0, 1, 2] [(0, .ref (ad 0)), (1, .ref (ad (16 + 4 * q))), (2, .int (nI t))] rfl ?_
  refine r_null X d_G_lastWarning_0 ?_
  refine r_astore_nN X [(3, .null), (0, .ref (ad 0)), (1, .ref (ad (16 + 4 * q))), (2, .int (nI t))] d_G_lastWarning_1 rfl (by decide) rfl ?_
  refine r_aload_n X 1 d_G_lastWarning_2 rfl rfl ?_
  refine r_get X k_G 2 (by decide) f_G_23 rfl (ct_lo (by decide)) rfl d_G_lastWarning_3 ?_
  refine r_astore X [(4, .ref (ad 3)), (3, .null), (0, .ref (ad 0)), (1, .ref (ad (16 + 4 * q))), (2, .int (nI t))] d_G_lastWarning_6 (by decide) rfl ?_
  refine r_aload X 0 d_G_lastWarning_8 rfl ?_
  refine r_alen (v := nI 20) X 4 (ct_lo (by decide)) rfl rfl d_G_lastWarning_10 ?_
  refine r_istore X [(5, .int (nI 20)), (4, .ref (ad 3)), (3, .null), (0, .ref (ad 0)), (1, .ref (ad (16 + 4 * q))), (2, .int (nI t))] d_G_lastWarning_11 (by decide) rfl ?_
  refine r_iconst X 0 d_G_lastWarning_13 (by decide) ?_
  refine r_istore X [(6, .int 0), (5, .int (nI 20)), (4, .ref (ad 3)), (3, .null), (0, .ref (ad 0)), (1, .ref (ad (16 + 4 * q))), (2, .int (nI t))] d_G_lastWarning_14 (by decide) rfl ?_
  refine r_lv [4, 5, 6, 3, 2, 1, 0] [(0, .ref (ad 0)), (1, .ref (ad (16 + 4 * q))), (2, .int (nI t)), (3, .null), (4, .ref (ad 3)), (5, .int (nI 20)), (6, .int (nI 0))] rfl ?_
  refine r_at (r_loop (σ := Nat) (fun f9 i => i ≤ 20 ∧ i + f9 = 20 + 1) (fun i => cont cy ad S J) 16 (fun i => [(0, .ref (ad 0)), (1, .ref (ad (16 + 4 * q))), (2, .int (nI t)), (3, .null), (4, .ref (ad 3)), (5, .int (nI 20)), (6, .int (nI i))]) (fun _ => []) (fun i h => by have h1 := h.1; have h2 := h.2; omega) (fun f9 i ih_i hI => ?_) (20 + 1 - 0) 0 ⟨by omega, by omega⟩) rfl rfl rfl rfl
  obtain ⟨hi8, hi9⟩ := hI
  refine r_iload X 6 d_G_lastWarning_16 rfl ?_
  refine r_iload X 5 d_G_lastWarning_18 rfl ?_
  refine r_icmp_ge X 82 d_G_lastWarning_20 (by decide) (fun h_20 => ?_) (fun h_20 => ?_)
  · have hi : 20 = i := by
      rcases Nat.lt_or_ge i 20 with h | h
      · exact absurd h_20 (nI_ge (by omega) (by omega))
      · omega
    subst hi
    refine r_aload_nN X 3 d_G_lastWarning_82 rfl rfl ?_
    exact r_aret (post := fun r ad' c' => none = r ∧ ad = ad' ∧ (cont cy ad S J) = c') (v := none) X hr hlk (Or.inl ⟨_, rfl⟩) rfl d_G_lastWarning_83 (by decide) (by decide) ⟨rfl, rfl, rfl⟩
  · have hi : i < 20 := by
      rcases Nat.lt_or_ge i 20 with h | h
      · exact h
      · exact absurd (nI_le (by omega) (by omega)) h_20
    refine r_aload X 4 d_G_lastWarning_23 rfl ?_
    refine r_iload X 6 d_G_lastWarning_25 rfl ?_
    refine r_aald (v := .null) X 4 (ct_lo (by decide)) rfl (vp_in_nI hi (by decide)) rfl d_G_lastWarning_27 ?_
    refine r_astoreN X [(7, .null), (0, .ref (ad 0)), (1, .ref (ad (16 + 4 * q))), (2, .int (nI t)), (3, .null), (4, .ref (ad 3)), (5, .int (nI 20)), (6, .int (nI i))] d_G_lastWarning_28 (by decide) rfl ?_
    refine r_aloadN X 0 d_G_lastWarning_30 rfl ?_
    refine r_ifnullN X 76 d_G_lastWarning_32 (by decide) ?_
    refine r_iinc X 7 [(6, .int (nI (i + 1))), (7, .null), (0, .ref (ad 0)), (1, .ref (ad (16 + 4 * q))), (2, .int (nI t)), (3, .null), (4, .ref (ad 3)), (5, .int (nI 20))] d_G_lastWarning_76 rfl (nI_1 i) (by decide) rfl ?_
    refine r_goto X 16 d_G_lastWarning_79 (by decide) ?_
    refine r_lv [2, 3, 4, 5, 6, 7, 0] [(0, .ref (ad 0)), (1, .ref (ad (16 + 4 * q))), (2, .int (nI t)), (3, .null), (4, .ref (ad 3)), (5, .int (nI 20)), (6, .int (nI (i + 1)))] rfl ?_
    exact ih_i (i + 1) ⟨by omega, by omega⟩
set_option maxRecDepth 100000 in
set_option maxHeartbeats 4000000 in
/-- G_slipperyNow -/
theorem c_G_slipperyNow (l : Launch) (D : va_G) (cy : Nat → ClassId) (ad : Nat → Nat)  (S : cS) (J : jS) (hS : wfS S) : rMi l D cls (TY cy) NW y_G_slipperyNow (Cond.code y_G_slipperyNow b_G_slipperyNow 6 rt_G_slipperyNow :: W0) { frames := 1, cells := 0, slots := 0, locals := 21 } [.ref (ad 0)] ad (cont cy ad S J) (fun r ad' c' => slipN S (sNow S).toNatClampNeg = r ∧ ad = ad' ∧ (cont cy ad S J) = c') := by
  intro sz
  refine r_of (own := R_G) rfl (by decide +kernel) (Nat.le_of_ble_eq_true rfl) ?_
  intro p e s m below meth cd hsz X hr hlk hN hin
  obtain ⟨t, ht, hnow⟩ := hS.2.2.1
  refine r_lv [0] [(0, .ref (ad 0))] rfl ?_
  refine r_iconst X 0 d_G_slipperyNow_0 (by decide) ?_
  refine r_istore_n X [(1, .int 0), (0, .ref (ad 0))] d_G_slipperyNow_1 rfl (by decide) rfl ?_
  refine r_aload_n X 1 d_G_slipperyNow_2 rfl rfl ?_
  refine r_get X k_G 0 (by decide) f_G_11 rfl (ct_lo (by decide)) rfl d_G_slipperyNow_3 ?_
  refine r_astore_n X [(2, .ref (ad 1)), (1, .int 0), (0, .ref (ad 0))] d_G_slipperyNow_6 rfl (by decide) rfl ?_
  refine r_aload_n X 0 d_G_slipperyNow_7 rfl rfl ?_
  refine r_alen (v := nI 8) X 2 (ct_lo (by decide)) rfl rfl d_G_slipperyNow_8 ?_
  refine r_istore_n X [(3, .int (nI 8)), (2, .ref (ad 1)), (1, .int 0), (0, .ref (ad 0))] d_G_slipperyNow_9 rfl (by decide) rfl ?_
  refine r_iconst X 0 d_G_slipperyNow_10 (by decide) ?_
  refine r_istore X [(4, .int 0), (3, .int (nI 8)), (2, .ref (ad 1)), (1, .int 0), (0, .ref (ad 0))] d_G_slipperyNow_11 (by decide) rfl ?_
  refine r_lv [4, 3, 2, 1, 0] [(0, .ref (ad 0)), (1, .int (sumN (sNr S) (fun q9 => if sSl S q9 t = 0 then 0 else 1) 0)), (2, .ref (ad 1)), (3, .int (nI 8)), (4, .int (nI 0))] rfl ?_
  refine r_at (r_loop (σ := Nat) (fun f9 i => i ≤ 8 ∧ i + f9 = 8 + 1) (fun i => cont cy ad S J) 13 (fun i => [(0, .ref (ad 0)), (1, .int (sumN (sNr S) (fun q9 => if sSl S q9 t = 0 then 0 else 1) i)), (2, .ref (ad 1)), (3, .int (nI 8)), (4, .int (nI i))]) (fun _ => []) (fun i h => by have h1 := h.1; have h2 := h.2; omega) (fun f9 i ih_i hI => ?_) (8 + 1 - 0) 0 ⟨by omega, by omega⟩) rfl rfl rfl rfl
  obtain ⟨hi8, hi9⟩ := hI
  refine r_iload X 4 d_G_slipperyNow_13 rfl ?_
  refine r_iload_n X 3 d_G_slipperyNow_15 rfl rfl ?_
  refine r_icmp_ge X 56 d_G_slipperyNow_16 (by decide) (fun h_16 => ?_) (fun h_16 => ?_)
  · have hi : 8 = i := by
      rcases Nat.lt_or_ge i 8 with h | h
      · exact absurd h_16 (nI_ge (by omega) (by omega))
      · omega
    subst hi
    refine r_iload_n X 1 d_G_slipperyNow_56 rfl rfl ?_
    exact r_iret (post := fun r ad' c' => slipN S (sNow S).toNatClampNeg = r ∧ ad = ad' ∧ (cont cy ad S J) = c') X hr hlk d_G_slipperyNow_57 (by decide) (by decide) ⟨by unfold slipN; rw [clp ht hnow], rfl, rfl⟩
  · have hi : i < 8 := by
      rcases Nat.lt_or_ge i 8 with h | h
      · exact h
      · exact absurd (nI_le (by omega) (by omega)) h_16
    refine r_aload_n X 2 d_G_slipperyNow_19 rfl rfl ?_
    refine r_iload X 4 d_G_slipperyNow_20 rfl ?_
    by_cases hr : i < sNr S
    · refine r_aald (v := .ref (ad (16 + 4 * i))) X 2 (ct_lo (by decide)) rfl (vp_in_nI hi (by decide)) (rRf_y (by omega) hr) d_G_slipperyNow_22 ?_
      refine r_astore X [(5, .ref (ad (16 + 4 * i))), (0, .ref (ad 0)), (1, .int (sumN (sNr S) (fun q9 => if sSl S q9 t = 0 then 0 else 1) i)), (2, .ref (ad 1)), (3, .int (nI 8)), (4, .int (nI i))] d_G_slipperyNow_23 (by decide) rfl ?_
      refine r_iload_n X 2 d_G_slipperyNow_25 rfl rfl ?_
      refine r_aload X 0 d_G_slipperyNow_26 rfl ?_
      refine r_ifnull X d_G_slipperyNow_28 ?_
      refine r_aload X 0 d_G_slipperyNow_31 rfl ?_
      refine r_aload_n X 1 d_G_slipperyNow_33 rfl rfl ?_
      refine r_get X k_G 11 (by decide) f_G_127 rfl (ct_lo (by decide)) rfl d_G_slipperyNow_34 ?_
      refine r_top (y := nI t) hnow ?_
      refine r_Vi X W0_good hN (c_Road_wasSlippery l D cy ad (cont cy ad S J) (16 + 4 * i) (17 + 4 * i) (18 + 4 * i) (19 + 4 * i) ((sRc S i).1) ((sRc S i).2.1) ((sRc S i).2.2.1) ((sRc S i).2.2.2.1) ((sRc S i).2.2.2.2.1) ((sRc S i).2.2.2.2.2.1) ((sRc S i).2.2.2.2.2.2.1) ((sRc S i).2.2.2.2.2.2.2.1) ((sRc S i).2.2.2.2.2.2.2.2) (ct_road hS.1 hr) (sSl S i) (ct_sl hS.1 hr) t ht) yv_Road_wasSlippery m_G_355 (ct_road hS.1 hr) k_Road.2.1 rfl rfl rfl ⟨by decide, by decide⟩ (Nat.le_of_ble_eq_true rfl) ⟨by decide, by decide⟩ d_G_slipperyNow_37 (fun r9 ad9 c9 hp9 => ?_)
      obtain ⟨rfl, rfl, rfl⟩ := hp9
      by_cases hz : sSl S i t = 0
      · refine r_top (y := 0) (if_pos hz) ?_
        refine r_if_eq X 47 d_G_slipperyNow_40 (by decide) (fun _ => ?_) (fun h9 => absurd h9 (by decide))
        refine r_iconst X 0 d_G_slipperyNow_47 (by decide) ?_
        refine r_iadd X d_G_slipperyNow_48 ?_
        refine r_top (y := sumN (sNr S) (fun q9 => if sSl S q9 t = 0 then 0 else 1) (i + 1)) (sumN_1 (f := fun q9 => if sSl S q9 t = 0 then 0 else 1) hr (if_pos hz)) ?_
        refine r_istore_n X [(1, .int (sumN (sNr S) (fun q9 => if sSl S q9 t = 0 then 0 else 1) (i + 1))), (5, .ref (ad (16 + 4 * i))), (0, .ref (ad 0)), (2, .ref (ad 1)), (3, .int (nI 8)), (4, .int (nI i))] d_G_slipperyNow_49 rfl (by decide) rfl ?_
        refine r_iinc X 5 [(4, .int (nI (i + 1))), (1, .int (sumN (sNr S) (fun q9 => if sSl S q9 t = 0 then 0 else 1) (i + 1))), (5, .ref (ad (16 + 4 * i))), (0, .ref (ad 0)), (2, .ref (ad 1)), (3, .int (nI 8))] d_G_slipperyNow_50 rfl (nI_1 i) (by decide) rfl ?_
        refine r_goto X 13 d_G_slipperyNow_53 (by decide) ?_
        refine r_lv [3, 1, 4, 5, 0] [(0, .ref (ad 0)), (1, .int (sumN (sNr S) (fun q9 => if sSl S q9 t = 0 then 0 else 1) (i + 1))), (2, .ref (ad 1)), (3, .int (nI 8)), (4, .int (nI (i + 1)))] rfl ?_
        exact ih_i (i + 1) ⟨by omega, by omega⟩
      · refine r_top (y := 1) (if_neg hz) ?_
        refine r_if_eq X 47 d_G_slipperyNow_40 (by decide) (fun h9 => absurd h9 (by decide)) (fun _ => ?_)
        refine r_iconst X 1 d_G_slipperyNow_43 (by decide) ?_
        refine r_goto X 48 d_G_slipperyNow_44 (by decide) ?_
        refine r_iadd X d_G_slipperyNow_48 ?_
        refine r_top (y := sumN (sNr S) (fun q9 => if sSl S q9 t = 0 then 0 else 1) (i + 1)) (sumN_1 (f := fun q9 => if sSl S q9 t = 0 then 0 else 1) hr (if_neg hz)) ?_
        refine r_istore_n X [(1, .int (sumN (sNr S) (fun q9 => if sSl S q9 t = 0 then 0 else 1) (i + 1))), (5, .ref (ad (16 + 4 * i))), (0, .ref (ad 0)), (2, .ref (ad 1)), (3, .int (nI 8)), (4, .int (nI i))] d_G_slipperyNow_49 rfl (by decide) rfl ?_
        refine r_iinc X 5 [(4, .int (nI (i + 1))), (1, .int (sumN (sNr S) (fun q9 => if sSl S q9 t = 0 then 0 else 1) (i + 1))), (5, .ref (ad (16 + 4 * i))), (0, .ref (ad 0)), (2, .ref (ad 1)), (3, .int (nI 8))] d_G_slipperyNow_50 rfl (nI_1 i) (by decide) rfl ?_
        refine r_goto X 13 d_G_slipperyNow_53 (by decide) ?_
        refine r_lv [3, 1, 4, 5, 0] [(0, .ref (ad 0)), (1, .int (sumN (sNr S) (fun q9 => if sSl S q9 t = 0 then 0 else 1) (i + 1))), (2, .ref (ad 1)), (3, .int (nI 8)), (4, .int (nI (i + 1)))] rfl ?_
        exact ih_i (i + 1) ⟨by omega, by omega⟩
    · refine r_aald (v := .null) X 2 (ct_lo (by decide)) rfl (vp_in_nI hi (by decide)) (rRf_n (by omega) hr) d_G_slipperyNow_22 ?_
      refine r_astoreN X [(5, .null), (0, .ref (ad 0)), (1, .int (sumN (sNr S) (fun q9 => if sSl S q9 t = 0 then 0 else 1) i)), (2, .ref (ad 1)), (3, .int (nI 8)), (4, .int (nI i))] d_G_slipperyNow_23 (by decide) rfl ?_
      refine r_iload_n X 2 d_G_slipperyNow_25 rfl rfl ?_
      refine r_aloadN X 0 d_G_slipperyNow_26 rfl ?_
      refine r_ifnullN X 47 d_G_slipperyNow_28 (by decide) ?_
      refine r_iconst X 0 d_G_slipperyNow_47 (by decide) ?_
      refine r_iadd X d_G_slipperyNow_48 ?_
      refine r_top (y := sumN (sNr S) (fun q9 => if sSl S q9 t = 0 then 0 else 1) (i + 1)) (sumN_n (f := fun q9 => if sSl S q9 t = 0 then 0 else 1) hr) ?_
      refine r_istore_n X [(1, .int (sumN (sNr S) (fun q9 => if sSl S q9 t = 0 then 0 else 1) (i + 1))), (5, .null), (0, .ref (ad 0)), (2, .ref (ad 1)), (3, .int (nI 8)), (4, .int (nI i))] d_G_slipperyNow_49 rfl (by decide) rfl ?_
      refine r_iinc X 5 [(4, .int (nI (i + 1))), (1, .int (sumN (sNr S) (fun q9 => if sSl S q9 t = 0 then 0 else 1) (i + 1))), (5, .null), (0, .ref (ad 0)), (2, .ref (ad 1)), (3, .int (nI 8))] d_G_slipperyNow_50 rfl (nI_1 i) (by decide) rfl ?_
      refine r_goto X 13 d_G_slipperyNow_53 (by decide) ?_
      refine r_lv [3, 1, 4, 5, 0] [(0, .ref (ad 0)), (1, .int (sumN (sNr S) (fun q9 => if sSl S q9 t = 0 then 0 else 1) (i + 1))), (2, .ref (ad 1)), (3, .int (nI 8)), (4, .int (nI (i + 1)))] rfl ?_
      exact ih_i (i + 1) ⟨by omega, by omega⟩
set_option maxRecDepth 100000 in
set_option maxHeartbeats 4000000 in
/-- G_countOf -/
theorem c_G_countOf (l : Launch) (D : va_G) (cy : Nat → ClassId) (ad : Nat → Nat)  (S : cS) (J : jS) (hS : wfS S) (k : Nat) (hk14 : k ≤ 14) : rMi l D cls (TY cy) NW y_G_countOf (Cond.code y_G_countOf b_G_countOf 2 rt_G_countOf :: W0) { frames := 2, cells := 0, slots := 0, locals := 46 } [.ref (ad 0), .int (nI k)] ad (cont cy ad S J) (fun r ad' c' => cntF S k = r ∧ ad = ad' ∧ (cont cy ad S J) = c') := by
  intro sz
  refine r_of (own := R_G) rfl (by decide +kernel) (Nat.le_of_ble_eq_true rfl) ?_
  intro p e s m below meth cd hsz X hr hlk hN hin
  refine r_lv [0, 1] [(0, .ref (ad 0)), (1, .int (nI k))] rfl ?_
  refine r_iload_n X 1 d_G_countOf_0 rfl rfl ?_
  obtain rfl | rfl | rfl | rfl | rfl | rfl | rfl | rfl | rfl | rfl | rfl | rfl | rfl | rfl | rfl : k = 0 ∨ k = 1 ∨ k = 2 ∨ k = 3 ∨ k = 4 ∨ k = 5 ∨ k = 6 ∨ k = 7 ∨ k = 8 ∨ k = 9 ∨ k = 10 ∨ k = 11 ∨ k = 12 ∨ k = 13 ∨ k = 14 := by omega
  · refine r_tableIn X 72 d_G_countOf_1 (by decide) (by decide) (off := 71) (by decide) (by decide) ?_
    refine r_aload_n X 0 d_G_countOf_72 rfl rfl ?_
    refine r_get X k_G 8 (by decide) f_G_84 rfl (ct_lo (by decide)) rfl d_G_countOf_73 ?_
    exact r_iret (post := fun r ad' c' => cntF S 0 = r ∧ ad = ad' ∧ (cont cy ad S J) = c') X hr hlk d_G_countOf_76 (by decide) (by decide) ⟨by (try simp only [cntF]); first | done | rfl | exact rup_id (by assumption), rfl, rfl⟩
  · refine r_tableIn X 77 d_G_countOf_1 (by decide) (by decide) (off := 76) (by decide) (by decide) ?_
    refine r_aload_n X 0 d_G_countOf_77 rfl rfl ?_
    refine r_get X k_G 11 (by decide) f_G_127 rfl (ct_lo (by decide)) rfl d_G_countOf_78 ?_
    exact r_iret (post := fun r ad' c' => cntF S 1 = r ∧ ad = ad' ∧ (cont cy ad S J) = c') X hr hlk d_G_countOf_81 (by decide) (by decide) ⟨by (try simp only [cntF]); first | done | rfl | exact rup_id (by assumption), rfl, rfl⟩
  · refine r_tableIn X 82 d_G_countOf_1 (by decide) (by decide) (off := 81) (by decide) (by decide) ?_
    refine r_aload_n X 0 d_G_countOf_82 rfl rfl ?_
    refine r_get X k_G 9 (by decide) f_G_155 rfl (ct_lo (by decide)) rfl d_G_countOf_83 ?_
    exact r_iret (post := fun r ad' c' => cntF S 2 = r ∧ ad = ad' ∧ (cont cy ad S J) = c') X hr hlk d_G_countOf_86 (by decide) (by decide) ⟨by (try simp only [cntF]); first | done | rfl | exact rup_id (by assumption), rfl, rfl⟩
  · refine r_tableIn X 87 d_G_countOf_1 (by decide) (by decide) (off := 86) (by decide) (by decide) ?_
    refine r_aload_n X 0 d_G_countOf_87 rfl rfl ?_
    refine r_get X k_G 12 (by decide) f_G_58 rfl (ct_lo (by decide)) rfl d_G_countOf_88 ?_
    exact r_iret (post := fun r ad' c' => cntF S 3 = r ∧ ad = ad' ∧ (cont cy ad S J) = c') X hr hlk d_G_countOf_91 (by decide) (by decide) ⟨by (try simp only [cntF]); first | done | rfl | exact rup_id (by assumption), rfl, rfl⟩
  · refine r_tableIn X 92 d_G_countOf_1 (by decide) (by decide) (off := 91) (by decide) (by decide) ?_
    refine r_aload_n X 0 d_G_countOf_92 rfl rfl ?_
    refine r_Vi X W0_good hN (c_G_saltInHoppers l D cy ad S J hS) yv_G_saltInHoppers m_G_130 (ct_lo (by decide)) k_G.2.1 rfl rfl rfl ⟨by decide, by decide⟩ (Nat.le_of_ble_eq_true rfl) ⟨by decide, by decide⟩ d_G_countOf_93 (fun r9 ad9 c9 hp9 => ?_)
    obtain ⟨rfl, rfl, rfl⟩ := hp9
    exact r_iret (post := fun r ad' c' => cntF S 4 = r ∧ ad = ad' ∧ (cont cy ad S J) = c') X hr hlk d_G_countOf_96 (by decide) (by decide) ⟨by (try simp only [cntF]); first | done | rfl | exact rup_id (by assumption), rfl, rfl⟩
  · refine r_tableIn X 97 d_G_countOf_1 (by decide) (by decide) (off := 96) (by decide) (by decide) ?_
    refine r_aload_n X 0 d_G_countOf_97 rfl rfl ?_
    refine r_Vi X W0_good hN (c_G_saltOnRoads l D cy ad S J hS) yv_G_saltOnRoads m_G_374 (ct_lo (by decide)) k_G.2.1 rfl rfl rfl ⟨by decide, by decide⟩ (Nat.le_of_ble_eq_true rfl) ⟨by decide, by decide⟩ d_G_countOf_98 (fun r9 ad9 c9 hp9 => ?_)
    obtain ⟨rfl, rfl, rfl⟩ := hp9
    exact r_iret (post := fun r ad' c' => cntF S 5 = r ∧ ad = ad' ∧ (cont cy ad S J) = c') X hr hlk d_G_countOf_101 (by decide) (by decide) ⟨by (try simp only [cntF]); first | done | rfl | exact rup_id (by assumption), rfl, rfl⟩
  · refine r_tableIn X 102 d_G_countOf_1 (by decide) (by decide) (off := 101) (by decide) (by decide) ?_
    refine r_aload_n X 0 d_G_countOf_102 rfl rfl ?_
    refine r_Vi X W0_good hN (c_G_saltInRiver l D cy ad S J hS) yv_G_saltInRiver m_G_377 (ct_lo (by decide)) k_G.2.1 rfl rfl rfl ⟨by decide, by decide⟩ (Nat.le_of_ble_eq_true rfl) ⟨by decide, by decide⟩ d_G_countOf_103 (fun r9 ad9 c9 hp9 => ?_)
    obtain ⟨rfl, rfl, rfl⟩ := hp9
    exact r_iret (post := fun r ad' c' => cntF S 6 = r ∧ ad = ad' ∧ (cont cy ad S J) = c') X hr hlk d_G_countOf_106 (by decide) (by decide) ⟨by (try simp only [cntF]); first | done | rfl | exact rup_id (by assumption), rfl, rfl⟩
  · refine r_tableIn X 107 d_G_countOf_1 (by decide) (by decide) (off := 106) (by decide) (by decide) ?_
    refine r_aload_n X 0 d_G_countOf_107 rfl rfl ?_
    refine r_Vi X W0_good hN (c_G_saltOnFields l D cy ad S J hS) yv_G_saltOnFields m_G_380 (ct_lo (by decide)) k_G.2.1 rfl rfl rfl ⟨by decide, by decide⟩ (Nat.le_of_ble_eq_true rfl) ⟨by decide, by decide⟩ d_G_countOf_108 (fun r9 ad9 c9 hp9 => ?_)
    obtain ⟨rfl, rfl, rfl⟩ := hp9
    exact r_iret (post := fun r ad' c' => cntF S 7 = r ∧ ad = ad' ∧ (cont cy ad S J) = c') X hr hlk d_G_countOf_111 (by decide) (by decide) ⟨by (try simp only [cntF]); first | done | rfl | exact rup_id (by assumption), rfl, rfl⟩
  · refine r_tableIn X 112 d_G_countOf_1 (by decide) (by decide) (off := 111) (by decide) (by decide) ?_
    refine r_aload_n X 0 d_G_countOf_112 rfl rfl ?_
    refine r_get X k_G 14 (by decide) f_G_348 rfl (ct_lo (by decide)) rfl d_G_countOf_113 ?_
    exact r_iret (post := fun r ad' c' => cntF S 8 = r ∧ ad = ad' ∧ (cont cy ad S J) = c') X hr hlk d_G_countOf_116 (by decide) (by decide) ⟨by (try simp only [cntF]); first | done | rfl | exact rup_id (by assumption), rfl, rfl⟩
  · refine r_tableIn X 117 d_G_countOf_1 (by decide) (by decide) (off := 116) (by decide) (by decide) ?_
    refine r_aload_n X 0 d_G_countOf_117 rfl rfl ?_
    refine r_Vi X W0_good hN (c_G_waterRunOff l D cy ad S J hS) yv_G_waterRunOff m_G_383 (ct_lo (by decide)) k_G.2.1 rfl rfl rfl ⟨by decide, by decide⟩ (Nat.le_of_ble_eq_true rfl) ⟨by decide, by decide⟩ d_G_countOf_118 (fun r9 ad9 c9 hp9 => ?_)
    obtain ⟨rfl, rfl, rfl⟩ := hp9
    exact r_iret (post := fun r ad' c' => cntF S 9 = r ∧ ad = ad' ∧ (cont cy ad S J) = c') X hr hlk d_G_countOf_121 (by decide) (by decide) ⟨by (try simp only [cntF]); first | done | rfl | exact rup_id (by assumption), rfl, rfl⟩
  · refine r_tableIn X 122 d_G_countOf_1 (by decide) (by decide) (off := 121) (by decide) (by decide) ?_
    refine r_aload_n X 0 d_G_countOf_122 rfl rfl ?_
    refine r_get X k_G 15 (by decide) f_G_330 rfl (ct_lo (by decide)) rfl d_G_countOf_123 ?_
    exact r_iret (post := fun r ad' c' => cntF S 10 = r ∧ ad = ad' ∧ (cont cy ad S J) = c') X hr hlk d_G_countOf_126 (by decide) (by decide) ⟨by (try simp only [cntF]); first | done | rfl | exact rup_id (by assumption), rfl, rfl⟩
  · refine r_tableIn X 127 d_G_countOf_1 (by decide) (by decide) (off := 126) (by decide) (by decide) ?_
    refine r_aload_n X 0 d_G_countOf_127 rfl rfl ?_
    refine r_get X k_G 10 (by decide) f_G_122 rfl (ct_lo (by decide)) rfl d_G_countOf_128 ?_
    exact r_iret (post := fun r ad' c' => cntF S 11 = r ∧ ad = ad' ∧ (cont cy ad S J) = c') X hr hlk d_G_countOf_131 (by decide) (by decide) ⟨by (try simp only [cntF]); first | done | rfl | exact rup_id (by assumption), rfl, rfl⟩
  · refine r_tableIn X 132 d_G_countOf_1 (by decide) (by decide) (off := 131) (by decide) (by decide) ?_
    refine r_aload_n X 0 d_G_countOf_132 rfl rfl ?_
    refine r_Vi X W0_good hN (c_G_deliveriesOnTheirWay l D cy ad S J hS) yv_G_deliveriesOnTheirWay m_G_210 (ct_lo (by decide)) k_G.2.1 rfl rfl rfl ⟨by decide, by decide⟩ (Nat.le_of_ble_eq_true rfl) ⟨by decide, by decide⟩ d_G_countOf_133 (fun r9 ad9 c9 hp9 => ?_)
    obtain ⟨rfl, rfl, rfl⟩ := hp9
    exact r_iret (post := fun r ad' c' => cntF S 12 = r ∧ ad = ad' ∧ (cont cy ad S J) = c') X hr hlk d_G_countOf_136 (by decide) (by decide) ⟨by (try simp only [cntF]); first | done | rfl | exact rup_id (by assumption), rfl, rfl⟩
  · refine r_tableIn X 137 d_G_countOf_1 (by decide) (by decide) (off := 136) (by decide) (by decide) ?_
    refine r_aload_n X 0 d_G_countOf_137 rfl rfl ?_
    refine r_get X k_G 13 (by decide) f_G_345 rfl (ct_lo (by decide)) rfl d_G_countOf_138 ?_
    exact r_iret (post := fun r ad' c' => cntF S 13 = r ∧ ad = ad' ∧ (cont cy ad S J) = c') X hr hlk d_G_countOf_141 (by decide) (by decide) ⟨by (try simp only [cntF]); first | done | rfl | exact rup_id (by assumption), rfl, rfl⟩
  · refine r_tableOut X 142 d_G_countOf_1 (by decide) (by decide) ?_
    refine r_aload_n X 0 d_G_countOf_142 rfl rfl ?_
    refine r_Vi X W0_good hN (c_G_slipperyNow l D cy ad S J hS) yv_G_slipperyNow m_G_152 (ct_lo (by decide)) k_G.2.1 rfl rfl rfl ⟨by decide, by decide⟩ (Nat.le_of_ble_eq_true rfl) ⟨by decide, by decide⟩ d_G_countOf_143 (fun r9 ad9 c9 hp9 => ?_)
    obtain ⟨rfl, rfl, rfl⟩ := hp9
    exact r_iret (post := fun r ad' c' => cntF S 14 = r ∧ ad = ad' ∧ (cont cy ad S J) = c') X hr hlk d_G_countOf_146 (by decide) (by decide) ⟨by (try simp only [cntF]); first | done | rfl | exact rup_id (by assumption), rfl, rfl⟩
set_option maxRecDepth 100000 in
set_option maxHeartbeats 4000000 in
/-- G_answerTo -/
theorem c_G_answerTo (l : Launch) (D : va_G) (cy : Nat → ClassId) (ad : Nat → Nat)  (S : cS) (J : jS) (hS : wfS S) (q : Nat) (hq : q < sNr S) (t : Nat) (ht : t < 200) : rMi l D cls (TY cy) NW y_G_answerTo (Cond.code y_G_answerTo b_G_answerTo 4 rt_G_answerTo :: W0) { frames := 3, cells := 0, slots := 0, locals := 71 } [.ref (ad 0), .ref (ad (16 + 4 * q)), .int (nI t)] ad (cont cy ad S J) (fun r ad' c' => ansF S q t = r ∧ ad = ad' ∧ (cont cy ad S J) = c') := by
  intro sz
  refine r_of (own := R_G) rfl (by decide +kernel) (Nat.le_of_ble_eq_true rfl) ?_
  intro p e s m below meth cd hsz X hr hlk hN hin
  refine r_lv [0, 1, 2] [(0, .ref (ad 0)), (1, .ref (ad (16 + 4 * q))), (2, .int (nI t))] rfl ?_
  refine r_aload_n X 1 d_G_answerTo_0 rfl rfl ?_
  refine r_iload_n X 2 d_G_answerTo_1 rfl rfl ?_
  refine r_Vi X W0_good hN (c_Road_wasSlippery l D cy ad (cont cy ad S J) (16 + 4 * q) (17 + 4 * q) (18 + 4 * q) (19 + 4 * q) ((sRc S q).1) ((sRc S q).2.1) ((sRc S q).2.2.1) ((sRc S q).2.2.2.1) ((sRc S q).2.2.2.2.1) ((sRc S q).2.2.2.2.2.1) ((sRc S q).2.2.2.2.2.2.1) ((sRc S q).2.2.2.2.2.2.2.1) ((sRc S q).2.2.2.2.2.2.2.2) (ct_road hS.1 hq) (sSl S q) (ct_sl hS.1 hq) t ht) yv_Road_wasSlippery m_G_355 (ct_road hS.1 hq) k_Road.2.1 rfl rfl rfl ⟨by decide, by decide⟩ (Nat.le_of_ble_eq_true rfl) ⟨by decide, by decide⟩ d_G_answerTo_2 (fun r9 ad9 c9 hp9 => ?_)
  obtain ⟨rfl, rfl, rfl⟩ := hp9
  by_cases hz : sSl S q t = 0
  · refine r_top (y := 0) (if_pos hz) ?_
    refine r_if_ne X 10 d_G_answerTo_5 (by decide) (fun h9 => absurd h9 (by decide)) (fun _ => ?_)
    refine r_iconst X 0 d_G_answerTo_8 (by decide) ?_
    exact r_iret (post := fun r ad' c' => ansF S q t = r ∧ ad = ad' ∧ (cont cy ad S J) = c') X hr hlk d_G_answerTo_9 (by decide) (by decide) ⟨if_pos hz, rfl, rfl⟩
  · refine r_top (y := 1) (if_neg hz) ?_
    refine r_if_ne X 10 d_G_answerTo_5 (by decide) (fun _ => ?_) (fun h9 => absurd h9 (by decide))
    refine r_aload_n X 1 d_G_answerTo_10 rfl rfl ?_
    refine r_iload_n X 2 d_G_answerTo_11 rfl rfl ?_
    refine r_bipush X 12 d_G_answerTo_12 (by decide) ?_
    refine r_isub X d_G_answerTo_14 ?_
    refine r_iload_n X 2 d_G_answerTo_15 rfl rfl ?_
    refine r_Vi X W0_good hN (c_Road_wasTreatedWithin l D cy ad (cont cy ad S J) (16 + 4 * q) (17 + 4 * q) (18 + 4 * q) (19 + 4 * q) ((sRc S q).1) ((sRc S q).2.1) ((sRc S q).2.2.1) ((sRc S q).2.2.2.1) ((sRc S q).2.2.2.2.1) ((sRc S q).2.2.2.2.2.1) ((sRc S q).2.2.2.2.2.2.1) ((sRc S q).2.2.2.2.2.2.2.1) ((sRc S q).2.2.2.2.2.2.2.2) (ct_road hS.1 hq) (sTr S q) (ct_tr hS.1 hq) t ht ((nI t) - 12) (t - 12) (ans_j t ht) (by omega)) yv_Road_wasTreatedWithin m_G_358 (ct_road hS.1 hq) k_Road.2.1 rfl rfl rfl ⟨by decide, by decide⟩ (Nat.le_of_ble_eq_true rfl) ⟨by decide, by decide⟩ d_G_answerTo_16 (fun r9 ad9 c9 hp9 => ?_)
    obtain ⟨rfl, rfl, rfl⟩ := hp9
    refine r_if_eq X 24 d_G_answerTo_19 (by decide) (fun h_19 => ?_) (fun h_19 => ?_)
    · refine r_aload_n X 0 d_G_answerTo_24 rfl rfl ?_
      refine r_aload_n X 1 d_G_answerTo_25 rfl rfl ?_
      refine r_iload_n X 2 d_G_answerTo_26 rfl rfl ?_
      refine r_Vq X W0_good hN (c_G_lastWarning l D cy ad S J hS q hq t) yv_G_lastWarning m_G_362 (ct_lo (by decide)) k_G.2.1 rfl rfl rfl ⟨by decide, by decide⟩ (Nat.le_of_ble_eq_true rfl) ⟨by decide, by decide⟩ d_G_answerTo_27 (fun r9 ad9 c9 hp9 => ?_)
      obtain ⟨rfl, rfl, rfl⟩ := hp9
      refine r_astore_nN X [(3, .null), (0, .ref (ad 0)), (1, .ref (ad (16 + 4 * q))), (2, .int (nI t))] d_G_answerTo_30 rfl (by decide) rfl ?_
      refine r_aload_nN X 0 d_G_answerTo_31 rfl rfl ?_
      refine r_ifnonnullN X d_G_answerTo_32 ?_
      refine r_iconst X 2 d_G_answerTo_35 (by decide) ?_
      exact r_iret (post := fun r ad' c' => ansF S q t = r ∧ ad = ad' ∧ (cont cy ad S J) = c') X hr hlk d_G_answerTo_36 (by decide) (by decide) ⟨(if_neg hz).trans (if_pos h_19), rfl, rfl⟩
    · refine r_iconst X 1 d_G_answerTo_22 (by decide) ?_
      exact r_iret (post := fun r ad' c' => ansF S q t = r ∧ ad = ad' ∧ (cont cy ad S J) = c') X hr hlk d_G_answerTo_23 (by decide) (by decide) ⟨(if_neg hz).trans (if_neg h_19), rfl, rfl⟩
