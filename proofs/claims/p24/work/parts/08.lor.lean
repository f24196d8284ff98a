/-! lorries, as numbers -/
/-- a row of orders with the first dropped, i places done -/
def shF (od : Nat → Int32) (i : Nat) : Nat → Int32 := fun j => if j + 1 < i then od (j + 1) else od j
theorem shF_1 (od : Nat → Int32) : shF od 1 = od := by
  funext j
  simp [shF]
theorem shF_at (od : Nat → Int32) (i : Nat) : shF od i i = od i := if_neg (by omega)
theorem shF_s (od : Nat → Int32) (i : Nat) (hi : 1 ≤ i) : upd (shF od i) (i - 1) (od i) = shF od (i + 1) := by
  funext j
  unfold upd shF
  by_cases h : j = i - 1
  · subst h
    rw [if_pos rfl, if_pos (by omega), show i - 1 + 1 = i from by omega]
  · rw [if_neg h]
    by_cases h2 : j + 1 < i
    · rw [if_pos h2, if_pos (by omega)]
    · rw [if_neg h2, if_neg (by omega)]
def foF (cnt : Int32) (od : Nat → Int32) : Int32 := if cnt ≤ 0 then -1 else od 0
def lorF (kq : Nat) (plo cnt nod don hop rat hou spr : Int32) (od : Nat → Int32) : Int32 := match kq with
  | 0 => nod
  | 1 => if nod = -1 then foF cnt od else -1
  | 2 => don
  | 3 => hop
  | 4 => rat
  | 5 => if plo = 0 then 0 else 1
  | 6 => hou
  | 7 => cnt
  | _ => spr
set_option maxRecDepth 100000 in
set_option maxHeartbeats 4000000 in
/-- Lor_firstOrder -/
theorem c_Lor_firstOrder (l : Launch) (D : va_G) (cy : Nat → ClassId) (ad : Nat → Nat) (c : rC) (n ko : Nat) (hno : n ≠ ko) (plo cnt nod ahe don hop rat hou spr : Int32) (od : Nat → Int32) (hc : c n = some (.inr (3, [.int plo, .ref (ad ko), .int cnt, .int nod, .int ahe, .int don, .int hop, .int rat, .int hou, .int spr]))) (ho : c ko = some (.inl (cy 0, 8, .inl od))) : rMi l D cls (TY cy) NW y_Lor_firstOrder (Cond.code y_Lor_firstOrder b_Lor_firstOrder 1 rt_Lor_firstOrder :: W0) { frames := 0, cells := 0, slots := 0, locals := 0 } [.ref (ad n)] ad c (fun r ad' c' => foF cnt od = r ∧ ad = ad' ∧ c = c') := by
  intro sz
  refine r_of (own := R_Lor) rfl (by decide +kernel) (Nat.le_of_ble_eq_true rfl) ?_
  intro p e s m below meth cd hsz X hr hlk hN hin
  refine r_lv [0] [(0, .ref (ad n))] rfl ?_
  refine r_aload_n X 0 d_Lor_firstOrder_0 rfl rfl ?_
  refine r_get X k_Lor 2 (by decide) f_Lor_23 rfl hc rfl d_Lor_firstOrder_1 ?_
  refine r_if_le X 24 d_Lor_firstOrder_4 (by decide) (fun h_4 => ?_) (fun h_4 => ?_)
  · refine r_iconst X (-1) d_Lor_firstOrder_24 (by decide) ?_
    exact r_iret (post := fun r ad' c' => foF cnt od = r ∧ ad = ad' ∧ c = c') X hr hlk d_Lor_firstOrder_25 (by decide) (by decide) ⟨by (try simp only [foF, if_pos h_4]); first | done | rfl | exact rup_id (by assumption), rfl, rfl⟩
  · refine r_aload_n X 0 d_Lor_firstOrder_7 rfl rfl ?_
    refine r_get X k_Lor 1 (by decide) f_Lor_9 rfl hc rfl d_Lor_firstOrder_8 ?_
    refine r_alen (v := nI 8) X 0 ho rfl rfl d_Lor_firstOrder_11 ?_
    refine r_if_le X 24 d_Lor_firstOrder_12 (by decide) (fun h9 => absurd h9 (by decide)) (fun _ => ?_)
    refine r_aload_n X 0 d_Lor_firstOrder_15 rfl rfl ?_
    refine r_get X k_Lor 1 (by decide) f_Lor_9 rfl hc rfl d_Lor_firstOrder_16 ?_
    refine r_iconst X 0 d_Lor_firstOrder_19 (by decide) ?_
    refine r_iald (v := od 0) X 0 ho rfl (by unfold vp_in; decide) rfl d_Lor_firstOrder_20 ?_
    refine r_goto X 25 d_Lor_firstOrder_21 (by decide) ?_
    exact r_iret (post := fun r ad' c' => foF cnt od = r ∧ ad = ad' ∧ c = c') X hr hlk d_Lor_firstOrder_25 (by decide) (by decide) ⟨by (try simp only [foF, if_neg h_4]); first | done | rfl | exact rup_id (by assumption), rfl, rfl⟩
set_option maxRecDepth 100000 in
set_option maxHeartbeats 4000000 in
/-- Lor_addOrder -/
theorem c_Lor_addOrder (l : Launch) (D : va_G) (cy : Nat → ClassId) (ad : Nat → Nat) (c : rC) (n ko : Nat) (hno : n ≠ ko) (plo nod ahe don hop rat hou spr : Int32) (od : Nat → Int32) (qc : Nat) (hq : qc < 8) (ro : Int32) (hc : c n = some (.inr (3, [.int plo, .ref (ad ko), .int (nI qc), .int nod, .int ahe, .int don, .int hop, .int rat, .int hou, .int spr]))) (ho : c ko = some (.inl (cy 0, 8, .inl od))) : rMv l D cls (TY cy) NW y_Lor_addOrder (Cond.code y_Lor_addOrder b_Lor_addOrder 2 rt_Lor_addOrder :: W0) { frames := 0, cells := 0, slots := 0, locals := 0 } [.ref (ad n), .int ro] ad c (fun ad' c' => ad = ad' ∧ va_up (va_up c ko (some (.inl (cy 0, 8, .inl (upd od qc ro))))) n (some (.inr (3, [.int plo, .ref (ad ko), .int (nI (qc + 1)), .int nod, .int ahe, .int don, .int hop, .int rat, .int hou, .int spr]))) = c') := by
  intro sz
  refine r_of (own := R_Lor) rfl (by decide +kernel) (Nat.le_of_ble_eq_true rfl) ?_
  intro p e s m below meth cd hsz X hr hlk hN hin
  refine r_lv [0, 1] [(0, .ref (ad n)), (1, .int ro)] rfl ?_
  refine r_aload_n X 0 d_Lor_addOrder_0 rfl rfl ?_
  refine r_get X k_Lor 2 (by decide) f_Lor_23 rfl hc rfl d_Lor_addOrder_1 ?_
  refine r_if_lt X 39 d_Lor_addOrder_4 (by decide) (fun h9 => absurd h9 (nI_pos (by omega))) (fun _ => ?_)
  refine r_aload_n X 0 d_Lor_addOrder_7 rfl rfl ?_
  refine r_get X k_Lor 2 (by decide) f_Lor_23 rfl hc rfl d_Lor_addOrder_8 ?_
  refine r_aload_n X 0 d_Lor_addOrder_11 rfl rfl ?_
  refine r_get X k_Lor 1 (by decide) f_Lor_9 rfl hc rfl d_Lor_addOrder_12 ?_
  refine r_alen (v := nI 8) X 0 ho rfl rfl d_Lor_addOrder_15 ?_
  refine r_icmp_ge X 39 d_Lor_addOrder_16 (by decide) (fun h9 => absurd h9 (nI_ge (by omega) (by omega))) (fun _ => ?_)
  refine r_aload_n X 0 d_Lor_addOrder_19 rfl rfl ?_
  refine r_get X k_Lor 1 (by decide) f_Lor_9 rfl hc rfl d_Lor_addOrder_20 ?_
  refine r_aload_n X 0 d_Lor_addOrder_23 rfl rfl ?_
  refine r_get X k_Lor 2 (by decide) f_Lor_23 rfl hc rfl d_Lor_addOrder_24 ?_
  refine r_iload_n X 1 d_Lor_addOrder_27 rfl rfl ?_
  refine r_iast X 0 ho rfl (vp_in_nI hq (by decide)) (upd_nI (by omega)) (va_up c ko (some (.inl (cy 0, 8, .inl (upd od qc ro))))) rfl d_Lor_addOrder_28 ?_
  refine r_aload_n X 0 d_Lor_addOrder_29 rfl rfl ?_
  refine r_dup X d_Lor_addOrder_30 rfl ?_
  refine r_get X k_Lor 2 (by decide) f_Lor_23 rfl (rup_ne (by omega) (hc)) rfl d_Lor_addOrder_31 ?_
  refine r_iconst X 1 d_Lor_addOrder_34 (by decide) ?_
  refine r_iadd X d_Lor_addOrder_35 ?_
  refine r_put X k_Lor 2 (by decide) f_Lor_23 rfl (rup_ne (by omega) (hc)) rfl rfl rfl (Nat.le_of_ble_eq_true rfl) [.int plo, .ref (ad ko), .int ((nI qc) + 1), .int nod, .int ahe, .int don, .int hop, .int rat, .int hou, .int spr] rfl (va_up (va_up c ko (some (.inl (cy 0, 8, .inl (upd od qc ro))))) n (some (.inr (3, [.int plo, .ref (ad ko), .int ((nI qc) + 1), .int nod, .int ahe, .int don, .int hop, .int rat, .int hou, .int spr])))) rfl d_Lor_addOrder_36 ?_
  exact r_vret (post := fun ad' c' => ad = ad' ∧ va_up (va_up c ko (some (.inl (cy 0, 8, .inl (upd od qc ro))))) n (some (.inr (3, [.int plo, .ref (ad ko), .int (nI (qc + 1)), .int nod, .int ahe, .int don, .int hop, .int rat, .int hou, .int spr]))) = c') X hr hlk d_Lor_addOrder_39 (by decide) (by decide) ⟨rfl, by (try simp only [nI_1]); first | done | rfl | exact rup_id (by assumption)⟩
set_option maxRecDepth 100000 in
set_option maxHeartbeats 4000000 in
/-- Lor_dropFirstOrder -/
theorem c_Lor_dropFirstOrder (l : Launch) (D : va_G) (cy : Nat → ClassId) (ad : Nat → Nat) (c : rC) (n ko : Nat) (hno : n ≠ ko) (plo cnt nod ahe don hop rat hou spr : Int32) (od : Nat → Int32) (hc : c n = some (.inr (3, [.int plo, .ref (ad ko), .int cnt, .int nod, .int ahe, .int don, .int hop, .int rat, .int hou, .int spr]))) (ho : c ko = some (.inl (cy 0, 8, .inl od))) : rMv l D cls (TY cy) NW y_Lor_dropFirstOrder (Cond.code y_Lor_dropFirstOrder b_Lor_dropFirstOrder 2 rt_Lor_dropFirstOrder :: W0) { frames := 1, cells := 0, slots := 0, locals := 21 } [.ref (ad n)] ad c (fun ad' c' => ad = ad' ∧ va_up (va_up c ko (some (.inl (cy 0, 8, .inl (shF od 8))))) n (some (.inr (3, [.int plo, .ref (ad ko), .int (mx 0 (cnt - 1)), .int nod, .int ahe, .int don, .int hop, .int rat, .int hou, .int spr]))) = c') := by
  intro sz
  refine r_of (own := R_Lor) rfl (by decide +kernel) (Nat.le_of_ble_eq_true rfl) ?_
  intro p e s m below meth cd hsz X hr hlk hN hin
  refine r_lv [0] [(0, .ref (ad n))] rfl ?_
  refine r_iconst X 1 d_Lor_dropFirstOrder_0 (by decide) ?_
  refine r_istore_n X [(1, .int 1), (0, .ref (ad n))] d_Lor_dropFirstOrder_1 rfl (by decide) rfl ?_
  refine r_at (r_loop (σ := Nat) (fun f9 i => 1 ≤ i ∧ i ≤ 8 ∧ i + f9 = 9) (fun i => va_up c ko (some (.inl (cy 0, 8, .inl (shF od i))))) 2 (fun i => [(1, .int (nI i)), (0, .ref (ad n))]) (fun _ => []) (fun i h => by obtain ⟨h1, h2, h3⟩ := h; omega) (fun f9 i ih hI => ?_) 8 1 ⟨by omega, by omega, by omega⟩) (by rw [shF_1]; exact rup_id ho) rfl rfl rfl
  obtain ⟨hi1, hi8, hi9⟩ := hI
  refine r_iload_n X 0 d_Lor_dropFirstOrder_2 rfl rfl ?_
  refine r_aload_n X 1 d_Lor_dropFirstOrder_3 rfl rfl ?_
  refine r_get X k_Lor 1 (by decide) f_Lor_9 rfl (rup_ne (by omega) (hc)) rfl d_Lor_dropFirstOrder_4 ?_
  refine r_alen (v := nI 8) X 0 rup_self rfl rfl d_Lor_dropFirstOrder_7 ?_
  refine r_icmp_ge X 31 d_Lor_dropFirstOrder_8 (by decide) (fun h_8 => ?_) (fun h_8 => ?_)
  · have hi : i = 8 := by
      rcases Nat.lt_or_ge i 8 with h | h
      · exact absurd h_8 (nI_ge h (by decide))
      · omega
    subst hi
    refine r_aload_n X 1 d_Lor_dropFirstOrder_31 rfl rfl ?_
    refine r_iconst X 0 d_Lor_dropFirstOrder_32 (by decide) ?_
    refine r_aload_n X 1 d_Lor_dropFirstOrder_33 rfl rfl ?_
    refine r_get X k_Lor 2 (by decide) f_Lor_23 rfl (rup_ne (by omega) (hc)) rfl d_Lor_dropFirstOrder_34 ?_
    refine r_iconst X 1 d_Lor_dropFirstOrder_37 (by decide) ?_
    refine r_isub X d_Lor_dropFirstOrder_38 ?_
    refine r_max X m_Lor_26 s_max i_Math cd_max ⟨by decide, by decide, by decide, by decide⟩ (Nat.le_of_ble_eq_true rfl) d_Lor_dropFirstOrder_39 ?_
    refine r_put X k_Lor 2 (by decide) f_Lor_23 rfl (rup_ne (by omega) (hc)) rfl rfl rfl (Nat.le_of_ble_eq_true rfl) [.int plo, .ref (ad ko), .int (if 0 < (cnt - 1) then cnt - 1 else 0), .int nod, .int ahe, .int don, .int hop, .int rat, .int hou, .int spr] rfl (va_up (va_up c ko (some (.inl (cy 0, 8, .inl (shF od 8))))) n (some (.inr (3, [.int plo, .ref (ad ko), .int (if 0 < (cnt - 1) then cnt - 1 else 0), .int nod, .int ahe, .int don, .int hop, .int rat, .int hou, .int spr])))) rfl d_Lor_dropFirstOrder_42 ?_
    exact r_vret (post := fun ad' c' => ad = ad' ∧ va_up (va_up c ko (some (.inl (cy 0, 8, .inl (shF od 8))))) n (some (.inr (3, [.int plo, .ref (ad ko), .int (mx 0 (cnt - 1)), .int nod, .int ahe, .int don, .int hop, .int rat, .int hou, .int spr]))) = c') X hr hlk d_Lor_dropFirstOrder_45 (by decide) (by decide) ⟨rfl, by (try simp only [mx]); first | done | rfl | exact rup_id (by assumption)⟩
  · have hi : i < 8 := by
      rcases Nat.lt_or_ge i 8 with h | h
      · exact h
      · exact absurd (nI_le h (by omega)) h_8
    refine r_aload_n X 1 d_Lor_dropFirstOrder_11 rfl rfl ?_
    refine r_get X k_Lor 1 (by decide) f_Lor_9 rfl (rup_ne (by omega) (hc)) rfl d_Lor_dropFirstOrder_12 ?_
    refine r_iload_n X 0 d_Lor_dropFirstOrder_15 rfl rfl ?_
    refine r_iconst X 1 d_Lor_dropFirstOrder_16 (by decide) ?_
    refine r_isub X d_Lor_dropFirstOrder_17 ?_
    refine r_top (show nI i - 1 = nI (i - 1) from pk_sub hi1) ?_
    refine r_aload_n X 1 d_Lor_dropFirstOrder_18 rfl rfl ?_
    refine r_get X k_Lor 1 (by decide) f_Lor_9 rfl (rup_ne (by omega) (hc)) rfl d_Lor_dropFirstOrder_19 ?_
    refine r_iload_n X 0 d_Lor_dropFirstOrder_22 rfl rfl ?_
    refine r_iald (v := od i) X 0 rup_self rfl (vp_in_nI hi (by decide)) ((at_nI (by omega)).trans (shF_at od i)) d_Lor_dropFirstOrder_23 ?_
    refine r_iast X 0 rup_self rfl (vp_in_nI (by omega) (by decide)) ((upd_nI (by omega)).trans (shF_s od i hi1)) (va_up c ko (some (.inl (cy 0, 8, .inl (shF od (i + 1)))))) rup_up d_Lor_dropFirstOrder_24 ?_
    refine r_iinc X 0 [(1, .int (nI (i + 1))), (0, .ref (ad n))] d_Lor_dropFirstOrder_25 rfl (nI_1 i) (by decide) rfl ?_
    refine r_goto X 2 d_Lor_dropFirstOrder_28 (by decide) ?_
    exact ih (i + 1) ⟨by omega, by omega, by omega⟩
set_option maxRecDepth 100000 in
set_option maxHeartbeats 4000000 in
/-- Lor_arrive -/
theorem c_Lor_arrive (l : Launch) (D : va_G) (cy : Nat → ClassId) (ad : Nat → Nat) (c : rC) (n ko : Nat) (hno : n ≠ ko) (plo cnt nod ahe don hop rat hou spr : Int32) (od : Nat → Int32) (hc : c n = some (.inr (3, [.int plo, .ref (ad ko), .int cnt, .int nod, .int ahe, .int don, .int hop, .int rat, .int hou, .int spr]))) (ho : c ko = some (.inl (cy 0, 8, .inl od))) : rMv l D cls (TY cy) NW y_Lor_arrive (Cond.code y_Lor_arrive b_Lor_arrive 1 rt_Lor_arrive :: W0) { frames := 2, cells := 0, slots := 0, locals := 42 } [.ref (ad n)] ad c (fun ad' c' => ad = ad' ∧ va_up (va_up c n (some (.inr (3, [.int plo, .ref (ad ko), .int (mx 0 (cnt - 1)), .int ahe, .int ahe, .int 0, .int hop, .int rat, .int hou, .int spr])))) ko (some (.inl (cy 0, 8, .inl (shF od 8)))) = c') := by
  intro sz
  refine r_of (own := R_Lor) rfl (by decide +kernel) (Nat.le_of_ble_eq_true rfl) ?_
  intro p e s m below meth cd hsz X hr hlk hN hin
  refine r_lv [0] [(0, .ref (ad n))] rfl ?_
  refine r_aload_n X 0 d_Lor_arrive_0 rfl rfl ?_
  refine r_aload_n X 0 d_Lor_arrive_1 rfl rfl ?_
  refine r_get X k_Lor 4 (by decide) f_Lor_32 rfl hc rfl d_Lor_arrive_2 ?_
  refine r_put X k_Lor 3 (by decide) f_Lor_35 rfl hc rfl rfl rfl (Nat.le_of_ble_eq_true rfl) [.int plo, .ref (ad ko), .int cnt, .int ahe, .int ahe, .int don, .int hop, .int rat, .int hou, .int spr] rfl (va_up c n (some (.inr (3, [.int plo, .ref (ad ko), .int cnt, .int ahe, .int ahe, .int don, .int hop, .int rat, .int hou, .int spr])))) rfl d_Lor_arrive_5 ?_
  refine r_aload_n X 0 d_Lor_arrive_8 rfl rfl ?_
  refine r_iconst X 0 d_Lor_arrive_9 (by decide) ?_
  refine r_put X k_Lor 5 (by decide) f_Lor_38 rfl rup_self rfl rfl rfl (Nat.le_of_ble_eq_true rfl) [.int plo, .ref (ad ko), .int cnt, .int ahe, .int ahe, .int 0, .int hop, .int rat, .int hou, .int spr] rfl (va_up c n (some (.inr (3, [.int plo, .ref (ad ko), .int cnt, .int ahe, .int ahe, .int 0, .int hop, .int rat, .int hou, .int spr])))) rup_up d_Lor_arrive_10 ?_
  refine r_aload_n X 0 d_Lor_arrive_13 rfl rfl ?_
  refine r_Vv X W0_good hN (c_Lor_dropFirstOrder l D cy ad (va_up c n (some (.inr (3, [.int plo, .ref (ad ko), .int cnt, .int ahe, .int ahe, .int 0, .int hop, .int rat, .int hou, .int spr])))) n ko (by omega) plo cnt ahe ahe 0 hop rat hou spr od rup_self (rup_ne (by omega) (ho))) yv_Lor_dropFirstOrder m_Lor_41 rup_self k_Lor.2.1 rfl rfl rfl ⟨by decide, by decide⟩ (Nat.le_of_ble_eq_true rfl) ⟨by decide, by decide⟩ d_Lor_arrive_14 (fun ad9 c9 hp9 => ?_)
  obtain ⟨rfl, rfl⟩ := hp9
  refine r_c (va_up (va_up c n (some (.inr (3, [.int plo, .ref (ad ko), .int (mx 0 (cnt - 1)), .int ahe, .int ahe, .int 0, .int hop, .int rat, .int hou, .int spr])))) ko (some (.inl (cy 0, 8, .inl (shF od 8))))) (rup_in (by omega) rup_up rfl) ?_
  exact r_vret (post := fun ad' c' => ad = ad' ∧ va_up (va_up c n (some (.inr (3, [.int plo, .ref (ad ko), .int (mx 0 (cnt - 1)), .int ahe, .int ahe, .int 0, .int hop, .int rat, .int hou, .int spr])))) ko (some (.inl (cy 0, 8, .inl (shF od 8)))) = c') X hr hlk d_Lor_arrive_17 (by decide) (by decide) ⟨rfl, by (try simp only []); first | done | rfl | exact rup_id (by assumption)⟩
set_option maxRecDepth 100000 in
set_option maxHeartbeats 4000000 in
/-- Lor_fact -/
theorem c_Lor_fact (l : Launch) (D : va_G) (cy : Nat → ClassId) (ad : Nat → Nat) (c : rC) (n ko : Nat) (hno : n ≠ ko) (plo cnt nod ahe don hop rat hou spr : Int32) (od : Nat → Int32) (hc : c n = some (.inr (3, [.int plo, .ref (ad ko), .int cnt, .int nod, .int ahe, .int don, .int hop, .int rat, .int hou, .int spr]))) (ho : c ko = some (.inl (cy 0, 8, .inl od))) (kq : Nat) (hk8 : kq ≤ 8) : rMi l D cls (TY cy) NW y_Lor_fact (Cond.code y_Lor_fact b_Lor_fact 2 rt_Lor_fact :: W0) { frames := 1, cells := 0, slots := 0, locals := 20 } [.ref (ad n), .int (nI kq)] ad c (fun r ad' c' => lorF kq plo cnt nod don hop rat hou spr od = r ∧ ad = ad' ∧ c = c') := by
  intro sz
  refine r_of (own := R_Lor) rfl (by decide +kernel) (Nat.le_of_ble_eq_true rfl) ?_
  intro p e s m below meth cd hsz X hr hlk hN hin
  refine r_lv [0, 1] [(0, .ref (ad n)), (1, .int (nI kq))] rfl ?_
  refine r_iload_n X 1 d_Lor_fact_0 rfl rfl ?_
  obtain rfl | rfl | rfl | rfl | rfl | rfl | rfl | rfl | rfl : kq = 0 ∨ kq = 1 ∨ kq = 2 ∨ kq = 3 ∨ kq = 4 ∨ kq = 5 ∨ kq = 6 ∨ kq = 7 ∨ kq = 8 := by omega
  · refine r_tableIn X 48 d_Lor_fact_1 (by decide) (by decide) (off := 47) (by decide) (by decide) ?_
    refine r_aload_n X 0 d_Lor_fact_48 rfl rfl ?_
    refine r_get X k_Lor 3 (by decide) f_Lor_35 rfl hc rfl d_Lor_fact_49 ?_
    exact r_iret (post := fun r ad' c' => lorF 0 plo cnt nod don hop rat hou spr od = r ∧ ad = ad' ∧ c = c') X hr hlk d_Lor_fact_52 (by decide) (by decide) ⟨by (try simp only [lorF]); first | done | rfl | exact rup_id (by assumption), rfl, rfl⟩
  · refine r_tableIn X 53 d_Lor_fact_1 (by decide) (by decide) (off := 52) (by decide) (by decide) ?_
    refine r_aload_n X 0 d_Lor_fact_53 rfl rfl ?_
    refine r_get X k_Lor 3 (by decide) f_Lor_35 rfl hc rfl d_Lor_fact_54 ?_
    refine r_iconst X (-1) d_Lor_fact_57 (by decide) ?_
    refine r_icmp_ne X 68 d_Lor_fact_58 (by decide) (fun h_58 => ?_) (fun h_58 => ?_)
    · refine r_iconst X (-1) d_Lor_fact_68 (by decide) ?_
      exact r_iret (post := fun r ad' c' => lorF 1 plo cnt nod don hop rat hou spr od = r ∧ ad = ad' ∧ c = c') X hr hlk d_Lor_fact_69 (by decide) (by decide) ⟨by (try simp only [lorF, if_neg h_58]); first | done | rfl | exact rup_id (by assumption), rfl, rfl⟩
    · refine r_aload_n X 0 d_Lor_fact_61 rfl rfl ?_
      refine r_Vi X W0_good hN (c_Lor_firstOrder l D cy ad (c) n ko (by omega) plo cnt nod ahe don hop rat hou spr od hc ho) yv_Lor_firstOrder m_Lor_44 hc k_Lor.2.1 rfl rfl rfl ⟨by decide, by decide⟩ (Nat.le_of_ble_eq_true rfl) ⟨by decide, by decide⟩ d_Lor_fact_62 (fun r9 ad9 c9 hp9 => ?_)
      obtain ⟨rfl, rfl, rfl⟩ := hp9
      refine r_goto X 69 d_Lor_fact_65 (by decide) ?_
      exact r_iret (post := fun r ad' c' => lorF 1 plo cnt nod don hop rat hou spr od = r ∧ ad = ad' ∧ c = c') X hr hlk d_Lor_fact_69 (by decide) (by decide) ⟨by (try simp only [lorF, if_pos h_58]); first | done | rfl | exact rup_id (by assumption), rfl, rfl⟩
  · refine r_tableIn X 70 d_Lor_fact_1 (by decide) (by decide) (off := 69) (by decide) (by decide) ?_
    refine r_aload_n X 0 d_Lor_fact_70 rfl rfl ?_
    refine r_get X k_Lor 5 (by decide) f_Lor_38 rfl hc rfl d_Lor_fact_71 ?_
    exact r_iret (post := fun r ad' c' => lorF 2 plo cnt nod don hop rat hou spr od = r ∧ ad = ad' ∧ c = c') X hr hlk d_Lor_fact_74 (by decide) (by decide) ⟨by (try simp only [lorF]); first | done | rfl | exact rup_id (by assumption), rfl, rfl⟩
  · refine r_tableIn X 75 d_Lor_fact_1 (by decide) (by decide) (off := 74) (by decide) (by decide) ?_
    refine r_aload_n X 0 d_Lor_fact_75 rfl rfl ?_
    refine r_get X k_Lor 6 (by decide) f_Lor_48 rfl hc rfl d_Lor_fact_76 ?_
    exact r_iret (post := fun r ad' c' => lorF 3 plo cnt nod don hop rat hou spr od = r ∧ ad = ad' ∧ c = c') X hr hlk d_Lor_fact_79 (by decide) (by decide) ⟨by (try simp only [lorF]); first | done | rfl | exact rup_id (by assumption), rfl, rfl⟩
  · refine r_tableIn X 80 d_Lor_fact_1 (by decide) (by decide) (off := 79) (by decide) (by decide) ?_
    refine r_aload_n X 0 d_Lor_fact_80 rfl rfl ?_
    refine r_get X k_Lor 7 (by decide) f_Lor_15 rfl hc rfl d_Lor_fact_81 ?_
    exact r_iret (post := fun r ad' c' => lorF 4 plo cnt nod don hop rat hou spr od = r ∧ ad = ad' ∧ c = c') X hr hlk d_Lor_fact_84 (by decide) (by decide) ⟨by (try simp only [lorF]); first | done | rfl | exact rup_id (by assumption), rfl, rfl⟩
  · refine r_tableIn X 85 d_Lor_fact_1 (by decide) (by decide) (off := 84) (by decide) (by decide) ?_
    refine r_aload_n X 0 d_Lor_fact_85 rfl rfl ?_
    refine r_get X k_Lor 0 (by decide) f_Lor_19 rfl hc rfl d_Lor_fact_86 ?_
    refine r_cut (fun u9 : Int32 => u9 = (if plo = 0 then 0 else 1)) (fun _ => c) 97 (fun _ => [(0, .ref (ad n)), (1, .int (nI 5))]) (fun u9 => [.int u9]) (fun J9 => ?_) (fun t_1 ht_1 => ?_)
    · refine r_if_eq X 96 d_Lor_fact_89 (by decide) (fun h9 => ?_) (fun h9 => ?_)
      · refine r_iconst X 0 d_Lor_fact_96 (by decide) ?_
        exact J9 _ (if_pos h9).symm
      · refine r_iconst X 1 d_Lor_fact_92 (by decide) ?_
        refine r_goto X 97 d_Lor_fact_93 (by decide) ?_
        exact J9 _ (if_neg h9).symm
    subst ht_1
    exact r_iret (post := fun r ad' c' => lorF 5 plo cnt nod don hop rat hou spr od = r ∧ ad = ad' ∧ c = c') X hr hlk d_Lor_fact_97 (by decide) (by decide) ⟨by (try simp only [lorF]); first | done | rfl | exact rup_id (by assumption), rfl, rfl⟩
  · refine r_tableIn X 98 d_Lor_fact_1 (by decide) (by decide) (off := 97) (by decide) (by decide) ?_
    refine r_aload_n X 0 d_Lor_fact_98 rfl rfl ?_
    refine r_get X k_Lor 8 (by decide) f_Lor_51 rfl hc rfl d_Lor_fact_99 ?_
    exact r_iret (post := fun r ad' c' => lorF 6 plo cnt nod don hop rat hou spr od = r ∧ ad = ad' ∧ c = c') X hr hlk d_Lor_fact_102 (by decide) (by decide) ⟨by (try simp only [lorF]); first | done | rfl | exact rup_id (by assumption), rfl, rfl⟩
  · refine r_tableIn X 103 d_Lor_fact_1 (by decide) (by decide) (off := 102) (by decide) (by decide) ?_
    refine r_aload_n X 0 d_Lor_fact_103 rfl rfl ?_
    refine r_get X k_Lor 2 (by decide) f_Lor_23 rfl hc rfl d_Lor_fact_104 ?_
    exact r_iret (post := fun r ad' c' => lorF 7 plo cnt nod don hop rat hou spr od = r ∧ ad = ad' ∧ c = c') X hr hlk d_Lor_fact_107 (by decide) (by decide) ⟨by (try simp only [lorF]); first | done | rfl | exact rup_id (by assumption), rfl, rfl⟩
  · refine r_tableOut X 108 d_Lor_fact_1 (by decide) (by decide) ?_
    refine r_aload_n X 0 d_Lor_fact_108 rfl rfl ?_
    refine r_get X k_Lor 9 (by decide) f_Lor_54 rfl hc rfl d_Lor_fact_109 ?_
    exact r_iret (post := fun r ad' c' => lorF 8 plo cnt nod don hop rat hou spr od = r ∧ ad = ad' ∧ c = c') X hr hlk d_Lor_fact_112 (by decide) (by decide) ⟨by (try simp only [lorF]); first | done | rfl | exact rup_id (by assumption), rfl, rfl⟩
