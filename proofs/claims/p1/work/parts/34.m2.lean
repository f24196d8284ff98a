/-! the reference on a fresh object: by program (wip/p1/m2.py) -/
/-! what a call on a fresh object throws (0: nothing) -/
theorem inF_or (x a b : Int32) : inF x a b = 1 ∨ inF x a b = 0 := by
  unfold inF
  by_cases h1 : x < a
  · exact Or.inr (if_pos h1)
  · by_cases h2 : b < x
    · exact Or.inr ((if_neg h1).trans (if_pos h2))
    · exact Or.inl ((if_neg h1).trans (if_neg h2))
theorem inF_n1 {x a b : Int32} (h : inF x a b = 0) : ¬ inF x a b = 1 := by rw [h]; decide
theorem inF_m1 (x : Int32) : inF x 0 (-1) = 0 := by
  unfold inF
  by_cases h1 : x < 0
  · exact if_pos h1
  · exact (if_neg h1).trans (if_pos (by
      have h2 : (0 : Int32) ≤ x := Int32.not_lt.mp h1
      have h3 : ((-1 : Int32)) < 0 := by decide
      exact Int32.lt_of_lt_of_le h3 h2))
/-- a number within bounds is one of a few -/
theorem inF_nI {x : Int32} {a n : Nat} (ha : a < 2 ^ 31) (hn : n < 2 ^ 31) (h : inF x (nI a) (nI n) = 1) : ∃ t : Nat, a ≤ t ∧ t ≤ n ∧ x = nI t := by
  have h1 : ¬ x < nI a := fun z => by
    unfold inF at h
    rw [if_pos z] at h
    exact absurd h (by decide)
  have h2 : ¬ nI n < x := fun z => by
    unfold inF at h
    rw [if_neg h1, if_pos z] at h
    exact absurd h (by decide)
  have h0 : ¬ x < 0 := fun z => h1 (Int32.lt_of_lt_of_le z (nI_pos' ha))
  obtain ⟨j, hj, rfl⟩ := nI_of h0
  refine ⟨j, ?_, ?_, rfl⟩
  · rcases Nat.lt_or_ge j a with hh | hh
    · exact absurd (nI_lt hh ha) h1
    · exact hh
  · rcases Nat.lt_or_ge n j with hh | hh
    · exact absurd (nI_lt hh hj) h2
    · exact hh
def kF_road (p0 p1 p2 p3 p4 p5 p6 : Int32) : Int32 := if inF p0 0 6 = 1 then if inF p1 0 6 = 1 then if p0 = p1 then 2 else if inF p2 1 6 = 1 then if inF p3 0 2 = 1 then if inF p4 0 9 = 1 then if inF p5 0 2 = 1 then 0 else 2 else 2 else 2 else 2 else 1 else 1
def kF_air (p0 p1 : Int32) : Int32 := if inF p0 (-20) 20 = 1 then 0 else 1
def kF_fall (p0 p1 p2 : Int32) : Int32 := if inF p0 0 3 = 1 then if inF p1 0 3 = 1 then if inF p2 0 3 = 1 then 0 else 1 else 1 else 1
def kF_forecast (p0 p1 p2 p3 p4 : Int32) : Int32 := if inF p0 1 48 = 1 then if inF p1 (-20) 20 = 1 then if inF p2 (-20) 20 = 1 then if inF p3 (-20) 20 = 1 then 0 else 1 else 1 else 1 else 1
def kF_pass (p0 : Int32) : Int32 := if inF p0 1 20 = 1 then 0 else 1
def kF_lorry (p0 : Int32) : Int32 := 0
def kF_rate (p0 p1 : Int32) : Int32 := 1
def kF_order (p0 p1 : Int32) : Int32 := 1
def kF_load (p0 : Int32) : Int32 := 1
def kF_rest (p0 : Int32) : Int32 := 1
def kF_deliver (p0 p1 : Int32) : Int32 := if inF p0 1 500 = 1 then if inF p1 1 96 = 1 then 0 else 1 else 1
def kF_claim (p0 p1 : Int32) : Int32 := 1
def kF_ofRoad (p0 p1 : Int32) : Int32 := 1
def kF_ofLorry (p0 p1 : Int32) : Int32 := 1
def kF_many (p0 : Int32) : Int32 := if inF p0 0 14 = 1 then 0 else 1
def kF_way (p0 p1 : Int32) : Int32 := if inF p0 0 6 = 1 then if inF p1 0 6 = 1 then 0 else 1 else 1
def kF_slipperyIn (p0 p1 : Int32) : Int32 := 1
def kF_saltFor (p0 p1 : Int32) : Int32 := 1
def kF_bestOrders (p0 p1 : Int32) : Int32 := 1
set_option maxRecDepth 100000 in
set_option maxHeartbeats 4000000 in
/-- M_in -/
theorem c_M_in (l : Launch) (D : va_G) (cy : Nat → ClassId) (ad : Nat → Nat) (c : rC) (x a b : Int32) : rMi l D cls (TY cy) NW y_M_in (Cond.code y_M_in b_M_in 3 rt_M_in :: W0) { frames := 0, cells := 0, slots := 0, locals := 0 } [.int x, .int a, .int b] ad c (fun r ad' c' => inF x a b = r ∧ ad = ad' ∧ c = c') := by
  intro sz
  refine r_of (own := R_M) rfl (by decide +kernel) (Nat.le_of_ble_eq_true rfl) ?_
  intro p e s m below meth cd hsz X hr hlk hN hin
  refine r_lv [0, 1, 2] [(0, .int x), (1, .int a), (2, .int b)] rfl ?_
  refine r_iload_n X 0 d_M_in_0 rfl rfl ?_
  refine r_iload_n X 1 d_M_in_1 rfl rfl ?_
  refine r_icmp_lt X 14 d_M_in_2 (by decide) (fun h_2 => ?_) (fun h_2 => ?_)
  · refine r_iconst X 0 d_M_in_14 (by decide) ?_
    exact r_zret (post := fun r ad' c' => inF x a b = r ∧ ad = ad' ∧ c = c') X hr hlk (by first | decide | (split <;> decide) | assumption) d_M_in_15 (by decide) (by decide) ⟨by (try simp only [inF, if_pos h_2]); first | done | rfl | exact rup_id (by assumption), rfl, rfl⟩
  · refine r_iload_n X 0 d_M_in_5 rfl rfl ?_
    refine r_iload_n X 2 d_M_in_6 rfl rfl ?_
    refine r_icmp_gt X 14 d_M_in_7 (by decide) (fun h_7 => ?_) (fun h_7 => ?_)
    · refine r_iconst X 0 d_M_in_14 (by decide) ?_
      exact r_zret (post := fun r ad' c' => inF x a b = r ∧ ad = ad' ∧ c = c') X hr hlk (by first | decide | (split <;> decide) | assumption) d_M_in_15 (by decide) (by decide) ⟨by (try simp only [inF, if_neg h_2, if_pos h_7]); first | done | rfl | exact rup_id (by assumption), rfl, rfl⟩
    · refine r_iconst X 1 d_M_in_10 (by decide) ?_
      refine r_goto X 15 d_M_in_11 (by decide) ?_
      exact r_zret (post := fun r ad' c' => inF x a b = r ∧ ad = ad' ∧ c = c') X hr hlk (by first | decide | (split <;> decide) | assumption) d_M_in_15 (by decide) (by decide) ⟨by (try simp only [inF, if_neg h_2, if_neg h_7]); first | done | rfl | exact rup_id (by assumption), rfl, rfl⟩
set_option maxRecDepth 100000 in
set_option maxHeartbeats 4000000 in
/-- M_isNode -/
theorem c_M_isNode (l : Launch) (D : va_G) (cy : Nat → ClassId) (ad : Nat → Nat) (c : rC) (x : Int32) : rMi l D cls (TY cy) NW y_M_isNode (Cond.code y_M_isNode b_M_isNode 1 rt_M_isNode :: W0) { frames := 1, cells := 0, slots := 0, locals := 22 } [.int x] ad c (fun r ad' c' => inF x 0 6 = r ∧ ad = ad' ∧ c = c') := by
  intro sz
  refine r_of (own := R_M) rfl (by decide +kernel) (Nat.le_of_ble_eq_true rfl) ?_
  intro p e s m below meth cd hsz X hr hlk hN hin
  refine r_lv [0] [(0, .int x)] rfl ?_
  refine r_iload_n X 0 d_M_isNode_0 rfl rfl ?_
  refine r_iconst X 0 d_M_isNode_1 (by decide) ?_
  refine r_bipush X 6 d_M_isNode_2 (by decide) ?_
  refine r_Si X W0_good hN (c_M_in l D cy ad (c) x 0 6) ys_M_in m_M_167 rfl rfl ⟨by decide, by decide⟩ (Nat.le_of_ble_eq_true rfl) ⟨by decide, by decide⟩ d_M_isNode_4 (fun r9 ad9 c9 hp9 => ?_)
  obtain ⟨rfl, rfl, rfl⟩ := hp9
  exact r_zret (post := fun r ad' c' => inF x 0 6 = r ∧ ad = ad' ∧ c = c') X hr hlk (by rcases inF_or x 0 6 with h | h <;> rw [h] <;> rfl) d_M_isNode_7 (by decide) (by decide) ⟨rfl, rfl, rfl⟩
set_option maxRecDepth 100000 in
set_option maxHeartbeats 4000000 in
/-- M_no -/
theorem c_M_no (l : Launch) (D : va_G) (cy : Nat → ClassId) (ad : Nat → Nat) (c : rC) (t0 : Nat) (f1 f2 : Nat → Option Nat) (hm : mC t0 f1 f2 cy ad c) (k : Int32) : rMi l D cls (TY cy) NW y_M_no (Cond.code y_M_no b_M_no 2 rt_M_no :: W0) { frames := 0, cells := 0, slots := 0, locals := 0 } [.ref (ad 128), .int k] ad c (fun r ad' c' => 0 = r ∧ ad = ad' ∧ va_up c 128 (some (.inr (11, [.int k, .ref (ad 129), .ref (ad 130), .ref (ad 131), .ref (ad 152), .ref (ad 158), .int 0, .int 0, .int 0, .int 100, .int 0, .int 0, .int 0, .int 0, .int 0, .int 0]))) = c') := by
  intro sz
  refine r_of (own := R_M) rfl (by decide +kernel) (Nat.le_of_ble_eq_true rfl) ?_
  intro p e s m below meth cd hsz X hr hlk hN hin
  refine r_lv [0, 1] [(0, .ref (ad 128)), (1, .int k)] rfl ?_
  refine r_aload_n X 0 d_M_no_0 rfl rfl ?_
  refine r_iload_n X 1 d_M_no_1 rfl rfl ?_
  refine r_put X k_M 0 (by decide) f_M_38 rfl (hm.1) rfl rfl rfl (Nat.le_of_ble_eq_true rfl) [.int k, .ref (ad 129), .ref (ad 130), .ref (ad 131), .ref (ad 152), .ref (ad 158), .int 0, .int 0, .int 0, .int 100, .int 0, .int 0, .int 0, .int 0, .int 0, .int 0] rfl (va_up c 128 (some (.inr (11, [.int k, .ref (ad 129), .ref (ad 130), .ref (ad 131), .ref (ad 152), .ref (ad 158), .int 0, .int 0, .int 0, .int 100, .int 0, .int 0, .int 0, .int 0, .int 0, .int 0])))) rfl d_M_no_2 ?_
  refine r_iconst X 0 d_M_no_5 (by decide) ?_
  exact r_iret (post := fun r ad' c' => 0 = r ∧ ad = ad' ∧ va_up c 128 (some (.inr (11, [.int k, .ref (ad 129), .ref (ad 130), .ref (ad 131), .ref (ad 152), .ref (ad 158), .int 0, .int 0, .int 0, .int 100, .int 0, .int 0, .int 0, .int 0, .int 0, .int 0]))) = c') X hr hlk d_M_no_6 (by decide) (by decide) ⟨by (try simp only []); first | done | rfl | exact rup_id (by assumption), rfl, rfl⟩
set_option maxRecDepth 100000 in
set_option maxHeartbeats 4000000 in
/-- M_thrown -/
theorem c_M_thrown (l : Launch) (D : va_G) (cy : Nat → ClassId) (ad : Nat → Nat) (c : rC) (x : Int32) (fs : List Value) (h : c 128 = some (.inr (11, .int x :: fs))) : rMi l D cls (TY cy) NW y_M_thrown (Cond.code y_M_thrown b_M_thrown 1 rt_M_thrown :: W0) { frames := 0, cells := 0, slots := 0, locals := 0 } [.ref (ad 128)] ad c (fun r ad' c' => x = r ∧ ad = ad' ∧ c = c') := by
  intro sz
  refine r_of (own := R_M) rfl (by decide +kernel) (Nat.le_of_ble_eq_true rfl) ?_
  intro p e s m below meth cd hsz X hr hlk hN hin
  refine r_lv [0] [(0, .ref (ad 128))] rfl ?_
  refine r_aload_n X 0 d_M_thrown_0 rfl rfl ?_
  refine r_get X k_M 0 (by decide) f_M_38 rfl h rfl d_M_thrown_1 ?_
  exact r_iret (post := fun r ad' c' => x = r ∧ ad = ad' ∧ c = c') X hr hlk d_M_thrown_4 (by decide) (by decide) ⟨by (try simp only []); first | done | rfl | exact rup_id (by assumption), rfl, rfl⟩
set_option maxRecDepth 100000 in
set_option maxHeartbeats 4000000 in
theorem c_AL_size_8abf5 (l : Launch) (D : va_G) (cy : Nat → ClassId) (t0 : Nat) (ad : Nat → Nat) (c : rC) (n : Nat) (va vb : Value) (z : Int32) (hc : c n = some (.inr (12, [va, vb, .int z]))) : xMi l D cls (TY cy) NW t0 y_AL_size_8abf5 (Cond.code y_AL_size_8abf5 b_AL_size_8abf5 1 rt_AL_size_8abf5 :: W0) { frames := 0, cells := 0, slots := 0, locals := 0 } [.ref (ad n)] ad c (fun r ad' c' => z = r ∧ ad = ad' ∧ c = c') := by
  intro sz
  refine x_of (own := R_AL) rfl (by decide +kernel) (Nat.le_of_ble_eq_true rfl) ?_
  intro p e s m below meth cd hsz X hr hlk hN hE hin
  refine r_lv [0] [(0, .ref (ad n))] rfl ?_
  refine r_aload_n X 0 d_AL_size_8abf5_0 rfl rfl ?_
  refine r_get X k_AL 2 (by decide) f_AL_48 rfl hc rfl d_AL_size_8abf5_1 ?_
  exact r_iret (post := fun r ad' c' => z = r ∧ ad = ad' ∧ c = c') X hr hlk d_AL_size_8abf5_4 (by decide) (by decide) ⟨by (try simp only []); first | done | rfl | exact rup_id (by assumption), rfl, rfl⟩
set_option maxRecDepth 100000 in
set_option maxHeartbeats 4000000 in
theorem c_AL_isEmpty_aae02 (l : Launch) (D : va_G) (cy : Nat → ClassId) (t0 : Nat) (ad : Nat → Nat) (c : rC) (n : Nat) (va vb : Value) (hc : c n = some (.inr (12, [va, vb, .int 0]))) : xMi l D cls (TY cy) NW t0 y_AL_isEmpty_aae02 (Cond.code y_AL_isEmpty_aae02 b_AL_isEmpty_aae02 1 rt_AL_isEmpty_aae02 :: W0) { frames := 0, cells := 0, slots := 0, locals := 0 } [.ref (ad n)] ad c (fun r ad' c' => 1 = r ∧ ad = ad' ∧ c = c') := by
  intro sz
  refine x_of (own := R_AL) rfl (by decide +kernel) (Nat.le_of_ble_eq_true rfl) ?_
  intro p e s m below meth cd hsz X hr hlk hN hE hin
  refine r_lv [0] [(0, .ref (ad n))] rfl ?_
  refine r_aload_n X 0 d_AL_isEmpty_aae02_0 rfl rfl ?_
  refine r_get X k_AL 2 (by decide) f_AL_48 rfl hc rfl d_AL_isEmpty_aae02_1 ?_
  refine r_if_ne X 11 d_AL_isEmpty_aae02_4 (by decide) (fun h9 => absurd h9 (by decide)) (fun _ => ?_)
  refine r_iconst X 1 d_AL_isEmpty_aae02_7 (by decide) ?_
  refine r_goto X 12 d_AL_isEmpty_aae02_8 (by decide) ?_
  exact r_zret (post := fun r ad' c' => 1 = r ∧ ad = ad' ∧ c = c') X hr hlk (by first | decide | (split <;> decide) | assumption) d_AL_isEmpty_aae02_12 (by decide) (by decide) ⟨by (try simp only []); first | done | rfl | exact rup_id (by assumption), rfl, rfl⟩
set_option maxRecDepth 100000 in
set_option maxHeartbeats 4000000 in
theorem c_M_isRoad (l : Launch) (D : va_G) (cy : Nat → ClassId) (t0 : Nat) (ad : Nat → Nat) (c : rC) (f1 f2 : Nat → Option Nat) (hm : mC t0 f1 f2 cy ad c) (x : Int32) : xMi l D cls (TY cy) NW t0 y_M_isRoad (Cond.code y_M_isRoad b_M_isRoad 2 rt_M_isRoad :: W0) { frames := 1, cells := 0, slots := 0, locals := 22 } [.ref (ad 128), .int x] ad c (fun r ad' c' => 0 = r ∧ ad = ad' ∧ c = c') := by
  intro sz
  refine x_of (own := R_M) rfl (by decide +kernel) (Nat.le_of_ble_eq_true rfl) ?_
  intro p e s m below meth cd hsz X hr hlk hN hE hin
  refine r_lv [0, 1] [(0, .ref (ad 128)), (1, .int x)] rfl ?_
  refine r_iload_n X 1 d_M_isRoad_0 rfl rfl ?_
  refine r_iconst X 0 d_M_isRoad_1 (by decide) ?_
  refine r_aload_n X 0 d_M_isRoad_2 rfl rfl ?_
  refine r_get X k_M 1 (by decide) f_M_10 rfl (hm.1) rfl d_M_isRoad_3 ?_
  refine x_Fi X W0_good hN hE (c_AL_size_8abf5 l D cy t0 ad (c) 129 (.int 0) (.ref t0) 0 (hm.2.1)) yF_size (by decide +kernel) m9_M_124 (hm.2.1) k_AL.2.1 rfl rfl rfl ⟨by decide, by decide⟩ (Nat.le_of_ble_eq_true rfl) ⟨by decide, by decide⟩ d_M_isRoad_6 (fun r9 ad9 c9 hp9 => ?_)
  obtain ⟨rfl, rfl, rfl⟩ := hp9
  refine r_iconst X 1 d_M_isRoad_11 (by decide) ?_
  refine r_isub X d_M_isRoad_12 ?_
  refine r_top (y := (-1)) (by decide) ?_
  refine r_Si X W0_good hN (c_M_in l D cy ad (c) x 0 (-1)) ys_M_in m_M_167 rfl rfl ⟨by decide, by decide⟩ (Nat.le_of_ble_eq_true rfl) ⟨by decide, by decide⟩ d_M_isRoad_13 (fun r9 ad9 c9 hp9 => ?_)
  obtain ⟨rfl, rfl, rfl⟩ := hp9
  refine r_top (y := 0) (inF_m1 x) ?_
  exact r_zret (post := fun r ad' c' => 0 = r ∧ ad = ad' ∧ c = c') X hr hlk (by first | decide | (split <;> decide) | assumption) d_M_isRoad_16 (by decide) (by decide) ⟨by (try simp only []); first | done | rfl | exact rup_id (by assumption), rfl, rfl⟩
set_option maxRecDepth 100000 in
set_option maxHeartbeats 4000000 in
theorem c_M_isLorry (l : Launch) (D : va_G) (cy : Nat → ClassId) (t0 : Nat) (ad : Nat → Nat) (c : rC) (f1 f2 : Nat → Option Nat) (hm : mC t0 f1 f2 cy ad c) (x : Int32) : xMi l D cls (TY cy) NW t0 y_M_isLorry (Cond.code y_M_isLorry b_M_isLorry 2 rt_M_isLorry :: W0) { frames := 1, cells := 0, slots := 0, locals := 22 } [.ref (ad 128), .int x] ad c (fun r ad' c' => 0 = r ∧ ad = ad' ∧ c = c') := by
  intro sz
  refine x_of (own := R_M) rfl (by decide +kernel) (Nat.le_of_ble_eq_true rfl) ?_
  intro p e s m below meth cd hsz X hr hlk hN hE hin
  refine r_lv [0, 1] [(0, .ref (ad 128)), (1, .int x)] rfl ?_
  refine r_iload_n X 1 d_M_isLorry_0 rfl rfl ?_
  refine r_iconst X 0 d_M_isLorry_1 (by decide) ?_
  refine r_aload_n X 0 d_M_isLorry_2 rfl rfl ?_
  refine r_get X k_M 2 (by decide) f_M_16 rfl (hm.1) rfl d_M_isLorry_3 ?_
  refine x_Fi X W0_good hN hE (c_AL_size_8abf5 l D cy t0 ad (c) 130 (.int 0) (.ref t0) 0 (hm.2.2.1)) yF_size (by decide +kernel) m9_M_124 (hm.2.2.1) k_AL.2.1 rfl rfl rfl ⟨by decide, by decide⟩ (Nat.le_of_ble_eq_true rfl) ⟨by decide, by decide⟩ d_M_isLorry_6 (fun r9 ad9 c9 hp9 => ?_)
  obtain ⟨rfl, rfl, rfl⟩ := hp9
  refine r_iconst X 1 d_M_isLorry_11 (by decide) ?_
  refine r_isub X d_M_isLorry_12 ?_
  refine r_top (y := (-1)) (by decide) ?_
  refine r_Si X W0_good hN (c_M_in l D cy ad (c) x 0 (-1)) ys_M_in m_M_167 rfl rfl ⟨by decide, by decide⟩ (Nat.le_of_ble_eq_true rfl) ⟨by decide, by decide⟩ d_M_isLorry_13 (fun r9 ad9 c9 hp9 => ?_)
  obtain ⟨rfl, rfl, rfl⟩ := hp9
  refine r_top (y := 0) (inF_m1 x) ?_
  exact r_zret (post := fun r ad' c' => 0 = r ∧ ad = ad' ∧ c = c') X hr hlk (by first | decide | (split <;> decide) | assumption) d_M_isLorry_16 (by decide) (by decide) ⟨by (try simp only []); first | done | rfl | exact rup_id (by assumption), rfl, rfl⟩
set_option maxRecDepth 100000 in
set_option maxHeartbeats 4000000 in
theorem c_M_rate (l : Launch) (D : va_G) (cy : Nat → ClassId) (t0 : Nat) (ad : Nat → Nat) (c : rC) (f1 f2 : Nat → Option Nat) (hm : mC t0 f1 f2 cy ad c) (p0 p1 : Int32)  : xMi l D cls (TY cy) NW t0 y_M_rate (Cond.code y_M_rate b_M_rate 4 rt_M_rate :: W0) { frames := 2, cells := 0, slots := 0, locals := 43 } [.ref (ad 128), .int p0, .int p1] ad c (fun r ad' c' => ((kF_rate p0 p1) = 0 → r = 0) ∧ (∀ j, j < 160 → ad' j = ad j) ∧ (∀ j, j < 128 → c' j = c j) ∧ ∃ fs, c' 128 = some (.inr (11, .int (kF_rate p0 p1) :: fs))) := by
  intro sz
  refine x_of (own := R_M) rfl (by decide +kernel) (Nat.le_of_ble_eq_true rfl) ?_
  intro p e s m below meth cd hsz X hr hlk hN hE hin
  refine r_lv [0, 1, 2] [(0, .ref (ad 128)), (1, .int p0), (2, .int p1)] rfl ?_
  refine r_aload_n X 0 d_M_rate_0 rfl rfl ?_
  refine r_iconst X 0 d_M_rate_1 (by decide) ?_
  refine r_put X k_M 0 (by decide) f_M_38 rfl (hm.1) rfl rfl rfl (Nat.le_of_ble_eq_true rfl) [.int 0, .ref (ad 129), .ref (ad 130), .ref (ad 131), .ref (ad 152), .ref (ad 158), .int 0, .int 0, .int 0, .int 100, .int 0, .int 0, .int 0, .int 0, .int 0, .int 0] rfl (va_up c 128 (some (.inr (11, [.int 0, .ref (ad 129), .ref (ad 130), .ref (ad 131), .ref (ad 152), .ref (ad 158), .int 0, .int 0, .int 0, .int 100, .int 0, .int 0, .int 0, .int 0, .int 0, .int 0])))) rfl d_M_rate_2 ?_
  refine r_c c (rup_id hm.1) ?_
  refine r_aload_n X 0 d_M_rate_5 rfl rfl ?_
  refine r_iload_n X 1 d_M_rate_6 rfl rfl ?_
  refine x_Vi X W0_good hN hE (c_M_isLorry l D cy t0 ad (c) f1 f2 hm p0) yv_M_isLorry m_M_226 (hm.1) k_M.2.1 rfl rfl rfl ⟨by decide, by decide⟩ (Nat.le_of_ble_eq_true rfl) ⟨by decide, by decide⟩ d_M_rate_7 (fun r9 ad9 c9 hp9 => ?_)
  obtain ⟨rfl, rfl, rfl⟩ := hp9
  refine r_if_ne X 19 d_M_rate_10 (by decide) (fun h9 => absurd h9 (by decide)) (fun _ => ?_)
  refine r_aload_n X 0 d_M_rate_13 rfl rfl ?_
  refine r_iconst X 1 d_M_rate_14 (by decide) ?_
  refine r_Vi X W0_good hN (c_M_no l D cy ad (c) t0 f1 f2 hm 1) yv_M_no m_M_174 (hm.1) k_M.2.1 rfl rfl rfl ⟨by decide, by decide⟩ (Nat.le_of_ble_eq_true rfl) ⟨by decide, by decide⟩ d_M_rate_15 (fun r9 ad9 c9 hp9 => ?_)
  obtain ⟨rfl, rfl, rfl⟩ := hp9
  have hk_1 : (kF_rate p0 p1) = 1 := rfl
  exact r_iret (post := fun r ad' c' => ((kF_rate p0 p1) = 0 → r = 0) ∧ (∀ j, j < 160 → ad' j = ad j) ∧ (∀ j, j < 128 → c' j = c j) ∧ ∃ fs, c' 128 = some (.inr (11, .int (kF_rate p0 p1) :: fs))) X hr hlk d_M_rate_18 (by decide) (by decide) ⟨(fun h9 => absurd (hk_1.symm.trans h9) (by decide)), (fun j hj => rfl), (fun j hj => (rup_ne (by omega) rfl)), _, (by rw [hk_1]; exact rup_self)⟩
set_option maxRecDepth 100000 in
set_option maxHeartbeats 4000000 in
theorem c_M_order (l : Launch) (D : va_G) (cy : Nat → ClassId) (t0 : Nat) (ad : Nat → Nat) (c : rC) (f1 f2 : Nat → Option Nat) (hm : mC t0 f1 f2 cy ad c) (p0 p1 : Int32)  : xMi l D cls (TY cy) NW t0 y_M_order (Cond.code y_M_order b_M_order 4 rt_M_order :: W0) { frames := 2, cells := 0, slots := 0, locals := 43 } [.ref (ad 128), .int p0, .int p1] ad c (fun r ad' c' => ((kF_order p0 p1) = 0 → r = 0) ∧ (∀ j, j < 160 → ad' j = ad j) ∧ (∀ j, j < 128 → c' j = c j) ∧ ∃ fs, c' 128 = some (.inr (11, .int (kF_order p0 p1) :: fs))) := by
  intro sz
  refine x_of (own := R_M) rfl (by decide +kernel) (Nat.le_of_ble_eq_true rfl) ?_
  intro p e s m below meth cd hsz X hr hlk hN hE hin
  refine r_lv [0, 1, 2] [(0, .ref (ad 128)), (1, .int p0), (2, .int p1)] rfl ?_
  refine r_aload_n X 0 d_M_order_0 rfl rfl ?_
  refine r_iconst X 0 d_M_order_1 (by decide) ?_
  refine r_put X k_M 0 (by decide) f_M_38 rfl (hm.1) rfl rfl rfl (Nat.le_of_ble_eq_true rfl) [.int 0, .ref (ad 129), .ref (ad 130), .ref (ad 131), .ref (ad 152), .ref (ad 158), .int 0, .int 0, .int 0, .int 100, .int 0, .int 0, .int 0, .int 0, .int 0, .int 0] rfl (va_up c 128 (some (.inr (11, [.int 0, .ref (ad 129), .ref (ad 130), .ref (ad 131), .ref (ad 152), .ref (ad 158), .int 0, .int 0, .int 0, .int 100, .int 0, .int 0, .int 0, .int 0, .int 0, .int 0])))) rfl d_M_order_2 ?_
  refine r_c c (rup_id hm.1) ?_
  refine r_aload_n X 0 d_M_order_5 rfl rfl ?_
  refine r_iload_n X 1 d_M_order_6 rfl rfl ?_
  refine x_Vi X W0_good hN hE (c_M_isLorry l D cy t0 ad (c) f1 f2 hm p0) yv_M_isLorry m_M_226 (hm.1) k_M.2.1 rfl rfl rfl ⟨by decide, by decide⟩ (Nat.le_of_ble_eq_true rfl) ⟨by decide, by decide⟩ d_M_order_7 (fun r9 ad9 c9 hp9 => ?_)
  obtain ⟨rfl, rfl, rfl⟩ := hp9
  refine r_if_eq X 21 d_M_order_10 (by decide) (fun _ => ?_) (fun h9 => absurd h9 (by decide))
  refine r_aload_n X 0 d_M_order_21 rfl rfl ?_
  refine r_iconst X 1 d_M_order_22 (by decide) ?_
  refine r_Vi X W0_good hN (c_M_no l D cy ad (c) t0 f1 f2 hm 1) yv_M_no m_M_174 (hm.1) k_M.2.1 rfl rfl rfl ⟨by decide, by decide⟩ (Nat.le_of_ble_eq_true rfl) ⟨by decide, by decide⟩ d_M_order_23 (fun r9 ad9 c9 hp9 => ?_)
  obtain ⟨rfl, rfl, rfl⟩ := hp9
  have hk_1 : (kF_order p0 p1) = 1 := rfl
  exact r_iret (post := fun r ad' c' => ((kF_order p0 p1) = 0 → r = 0) ∧ (∀ j, j < 160 → ad' j = ad j) ∧ (∀ j, j < 128 → c' j = c j) ∧ ∃ fs, c' 128 = some (.inr (11, .int (kF_order p0 p1) :: fs))) X hr hlk d_M_order_26 (by decide) (by decide) ⟨(fun h9 => absurd (hk_1.symm.trans h9) (by decide)), (fun j hj => rfl), (fun j hj => (rup_ne (by omega) rfl)), _, (by rw [hk_1]; exact rup_self)⟩
set_option maxRecDepth 100000 in
set_option maxHeartbeats 4000000 in
theorem c_M_load (l : Launch) (D : va_G) (cy : Nat → ClassId) (t0 : Nat) (ad : Nat → Nat) (c : rC) (f1 f2 : Nat → Option Nat) (hm : mC t0 f1 f2 cy ad c) (p0 : Int32)  : xMi l D cls (TY cy) NW t0 y_M_load (Cond.code y_M_load b_M_load 4 rt_M_load :: W0) { frames := 2, cells := 0, slots := 0, locals := 43 } [.ref (ad 128), .int p0] ad c (fun r ad' c' => ((kF_load p0) = 0 → r = 0) ∧ (∀ j, j < 160 → ad' j = ad j) ∧ (∀ j, j < 128 → c' j = c j) ∧ ∃ fs, c' 128 = some (.inr (11, .int (kF_load p0) :: fs))) := by
  intro sz
  refine x_of (own := R_M) rfl (by decide +kernel) (Nat.le_of_ble_eq_true rfl) ?_
  intro p e s m below meth cd hsz X hr hlk hN hE hin
  refine r_lv [0, 1] [(0, .ref (ad 128)), (1, .int p0)] rfl ?_
  refine r_aload_n X 0 d_M_load_0 rfl rfl ?_
  refine r_iconst X 0 d_M_load_1 (by decide) ?_
  refine r_put X k_M 0 (by decide) f_M_38 rfl (hm.1) rfl rfl rfl (Nat.le_of_ble_eq_true rfl) [.int 0, .ref (ad 129), .ref (ad 130), .ref (ad 131), .ref (ad 152), .ref (ad 158), .int 0, .int 0, .int 0, .int 100, .int 0, .int 0, .int 0, .int 0, .int 0, .int 0] rfl (va_up c 128 (some (.inr (11, [.int 0, .ref (ad 129), .ref (ad 130), .ref (ad 131), .ref (ad 152), .ref (ad 158), .int 0, .int 0, .int 0, .int 100, .int 0, .int 0, .int 0, .int 0, .int 0, .int 0])))) rfl d_M_load_2 ?_
  refine r_c c (rup_id hm.1) ?_
  refine r_aload_n X 0 d_M_load_5 rfl rfl ?_
  refine r_iload_n X 1 d_M_load_6 rfl rfl ?_
  refine x_Vi X W0_good hN hE (c_M_isLorry l D cy t0 ad (c) f1 f2 hm p0) yv_M_isLorry m_M_226 (hm.1) k_M.2.1 rfl rfl rfl ⟨by decide, by decide⟩ (Nat.le_of_ble_eq_true rfl) ⟨by decide, by decide⟩ d_M_load_7 (fun r9 ad9 c9 hp9 => ?_)
  obtain ⟨rfl, rfl, rfl⟩ := hp9
  refine r_if_ne X 19 d_M_load_10 (by decide) (fun h9 => absurd h9 (by decide)) (fun _ => ?_)
  refine r_aload_n X 0 d_M_load_13 rfl rfl ?_
  refine r_iconst X 1 d_M_load_14 (by decide) ?_
  refine r_Vi X W0_good hN (c_M_no l D cy ad (c) t0 f1 f2 hm 1) yv_M_no m_M_174 (hm.1) k_M.2.1 rfl rfl rfl ⟨by decide, by decide⟩ (Nat.le_of_ble_eq_true rfl) ⟨by decide, by decide⟩ d_M_load_15 (fun r9 ad9 c9 hp9 => ?_)
  obtain ⟨rfl, rfl, rfl⟩ := hp9
  have hk_1 : (kF_load p0) = 1 := rfl
  exact r_iret (post := fun r ad' c' => ((kF_load p0) = 0 → r = 0) ∧ (∀ j, j < 160 → ad' j = ad j) ∧ (∀ j, j < 128 → c' j = c j) ∧ ∃ fs, c' 128 = some (.inr (11, .int (kF_load p0) :: fs))) X hr hlk d_M_load_18 (by decide) (by decide) ⟨(fun h9 => absurd (hk_1.symm.trans h9) (by decide)), (fun j hj => rfl), (fun j hj => (rup_ne (by omega) rfl)), _, (by rw [hk_1]; exact rup_self)⟩
set_option maxRecDepth 100000 in
set_option maxHeartbeats 4000000 in
theorem c_M_rest (l : Launch) (D : va_G) (cy : Nat → ClassId) (t0 : Nat) (ad : Nat → Nat) (c : rC) (f1 f2 : Nat → Option Nat) (hm : mC t0 f1 f2 cy ad c) (p0 : Int32)  : xMi l D cls (TY cy) NW t0 y_M_rest (Cond.code y_M_rest b_M_rest 4 rt_M_rest :: W0) { frames := 2, cells := 0, slots := 0, locals := 43 } [.ref (ad 128), .int p0] ad c (fun r ad' c' => ((kF_rest p0) = 0 → r = 0) ∧ (∀ j, j < 160 → ad' j = ad j) ∧ (∀ j, j < 128 → c' j = c j) ∧ ∃ fs, c' 128 = some (.inr (11, .int (kF_rest p0) :: fs))) := by
  intro sz
  refine x_of (own := R_M) rfl (by decide +kernel) (Nat.le_of_ble_eq_true rfl) ?_
  intro p e s m below meth cd hsz X hr hlk hN hE hin
  refine r_lv [0, 1] [(0, .ref (ad 128)), (1, .int p0)] rfl ?_
  refine r_aload_n X 0 d_M_rest_0 rfl rfl ?_
  refine r_iconst X 0 d_M_rest_1 (by decide) ?_
  refine r_put X k_M 0 (by decide) f_M_38 rfl (hm.1) rfl rfl rfl (Nat.le_of_ble_eq_true rfl) [.int 0, .ref (ad 129), .ref (ad 130), .ref (ad 131), .ref (ad 152), .ref (ad 158), .int 0, .int 0, .int 0, .int 100, .int 0, .int 0, .int 0, .int 0, .int 0, .int 0] rfl (va_up c 128 (some (.inr (11, [.int 0, .ref (ad 129), .ref (ad 130), .ref (ad 131), .ref (ad 152), .ref (ad 158), .int 0, .int 0, .int 0, .int 100, .int 0, .int 0, .int 0, .int 0, .int 0, .int 0])))) rfl d_M_rest_2 ?_
  refine r_c c (rup_id hm.1) ?_
  refine r_aload_n X 0 d_M_rest_5 rfl rfl ?_
  refine r_iload_n X 1 d_M_rest_6 rfl rfl ?_
  refine x_Vi X W0_good hN hE (c_M_isLorry l D cy t0 ad (c) f1 f2 hm p0) yv_M_isLorry m_M_226 (hm.1) k_M.2.1 rfl rfl rfl ⟨by decide, by decide⟩ (Nat.le_of_ble_eq_true rfl) ⟨by decide, by decide⟩ d_M_rest_7 (fun r9 ad9 c9 hp9 => ?_)
  obtain ⟨rfl, rfl, rfl⟩ := hp9
  refine r_if_ne X 19 d_M_rest_10 (by decide) (fun h9 => absurd h9 (by decide)) (fun _ => ?_)
  refine r_aload_n X 0 d_M_rest_13 rfl rfl ?_
  refine r_iconst X 1 d_M_rest_14 (by decide) ?_
  refine r_Vi X W0_good hN (c_M_no l D cy ad (c) t0 f1 f2 hm 1) yv_M_no m_M_174 (hm.1) k_M.2.1 rfl rfl rfl ⟨by decide, by decide⟩ (Nat.le_of_ble_eq_true rfl) ⟨by decide, by decide⟩ d_M_rest_15 (fun r9 ad9 c9 hp9 => ?_)
  obtain ⟨rfl, rfl, rfl⟩ := hp9
  have hk_1 : (kF_rest p0) = 1 := rfl
  exact r_iret (post := fun r ad' c' => ((kF_rest p0) = 0 → r = 0) ∧ (∀ j, j < 160 → ad' j = ad j) ∧ (∀ j, j < 128 → c' j = c j) ∧ ∃ fs, c' 128 = some (.inr (11, .int (kF_rest p0) :: fs))) X hr hlk d_M_rest_18 (by decide) (by decide) ⟨(fun h9 => absurd (hk_1.symm.trans h9) (by decide)), (fun j hj => rfl), (fun j hj => (rup_ne (by omega) rfl)), _, (by rw [hk_1]; exact rup_self)⟩
set_option maxRecDepth 100000 in
set_option maxHeartbeats 4000000 in
theorem c_M_claim (l : Launch) (D : va_G) (cy : Nat → ClassId) (t0 : Nat) (ad : Nat → Nat) (c : rC) (f1 f2 : Nat → Option Nat) (hm : mC t0 f1 f2 cy ad c) (p0 p1 : Int32)  : xMi l D cls (TY cy) NW t0 y_M_claim (Cond.code y_M_claim b_M_claim 3 rt_M_claim :: W0) { frames := 3, cells := 0, slots := 0, locals := 71 } [.ref (ad 128), .int p0, .int p1] ad c (fun r ad' c' => ((kF_claim p0 p1) = 0 → r = 0) ∧ (∀ j, j < 160 → ad' j = ad j) ∧ (∀ j, j < 128 → c' j = c j) ∧ ∃ fs, c' 128 = some (.inr (11, .int (kF_claim p0 p1) :: fs))) := by
  intro sz
  refine x_of (own := R_M) rfl (by decide +kernel) (Nat.le_of_ble_eq_true rfl) ?_
  intro p e s m below meth cd hsz X hr hlk hN hE hin
  refine r_lv [0, 1, 2] [(0, .ref (ad 128)), (1, .int p0), (2, .int p1)] rfl ?_
  refine r_aload_n X 0 d_M_claim_0 rfl rfl ?_
  refine r_iconst X 0 d_M_claim_1 (by decide) ?_
  refine r_put X k_M 0 (by decide) f_M_38 rfl (hm.1) rfl rfl rfl (Nat.le_of_ble_eq_true rfl) [.int 0, .ref (ad 129), .ref (ad 130), .ref (ad 131), .ref (ad 152), .ref (ad 158), .int 0, .int 0, .int 0, .int 100, .int 0, .int 0, .int 0, .int 0, .int 0, .int 0] rfl (va_up c 128 (some (.inr (11, [.int 0, .ref (ad 129), .ref (ad 130), .ref (ad 131), .ref (ad 152), .ref (ad 158), .int 0, .int 0, .int 0, .int 100, .int 0, .int 0, .int 0, .int 0, .int 0, .int 0])))) rfl d_M_claim_2 ?_
  refine r_c c (rup_id hm.1) ?_
  refine r_aload_n X 0 d_M_claim_5 rfl rfl ?_
  refine r_iload_n X 1 d_M_claim_6 rfl rfl ?_
  refine x_Vi X W0_good hN hE (c_M_isRoad l D cy t0 ad (c) f1 f2 hm p0) yv_M_isRoad m_M_229 (hm.1) k_M.2.1 rfl rfl rfl ⟨by decide, by decide⟩ (Nat.le_of_ble_eq_true rfl) ⟨by decide, by decide⟩ d_M_claim_7 (fun r9 ad9 c9 hp9 => ?_)
  obtain ⟨rfl, rfl, rfl⟩ := hp9
  refine r_if_ne X 19 d_M_claim_10 (by decide) (fun h9 => absurd h9 (by decide)) (fun _ => ?_)
  refine r_aload_n X 0 d_M_claim_13 rfl rfl ?_
  refine r_iconst X 1 d_M_claim_14 (by decide) ?_
  refine r_Vi X W0_good hN (c_M_no l D cy ad (c) t0 f1 f2 hm 1) yv_M_no m_M_174 (hm.1) k_M.2.1 rfl rfl rfl ⟨by decide, by decide⟩ (Nat.le_of_ble_eq_true rfl) ⟨by decide, by decide⟩ d_M_claim_15 (fun r9 ad9 c9 hp9 => ?_)
  obtain ⟨rfl, rfl, rfl⟩ := hp9
  have hk_1 : (kF_claim p0 p1) = 1 := rfl
  exact r_iret (post := fun r ad' c' => ((kF_claim p0 p1) = 0 → r = 0) ∧ (∀ j, j < 160 → ad' j = ad j) ∧ (∀ j, j < 128 → c' j = c j) ∧ ∃ fs, c' 128 = some (.inr (11, .int (kF_claim p0 p1) :: fs))) X hr hlk d_M_claim_18 (by decide) (by decide) ⟨(fun h9 => absurd (hk_1.symm.trans h9) (by decide)), (fun j hj => rfl), (fun j hj => (rup_ne (by omega) rfl)), _, (by rw [hk_1]; exact rup_self)⟩
set_option maxRecDepth 100000 in
set_option maxHeartbeats 4000000 in
theorem c_M_ofRoad (l : Launch) (D : va_G) (cy : Nat → ClassId) (t0 : Nat) (ad : Nat → Nat) (c : rC) (f1 f2 : Nat → Option Nat) (hm : mC t0 f1 f2 cy ad c) (p0 p1 : Int32)  : xMi l D cls (TY cy) NW t0 y_M_ofRoad (Cond.code y_M_ofRoad b_M_ofRoad 3 rt_M_ofRoad :: W0) { frames := 3, cells := 0, slots := 0, locals := 64 } [.ref (ad 128), .int p0, .int p1] ad c (fun r ad' c' => ((kF_ofRoad p0 p1) = 0 → r = 0) ∧ (∀ j, j < 160 → ad' j = ad j) ∧ (∀ j, j < 128 → c' j = c j) ∧ ∃ fs, c' 128 = some (.inr (11, .int (kF_ofRoad p0 p1) :: fs))) := by
  intro sz
  refine x_of (own := R_M) rfl (by decide +kernel) (Nat.le_of_ble_eq_true rfl) ?_
  intro p e s m below meth cd hsz X hr hlk hN hE hin
  refine r_lv [0, 1, 2] [(0, .ref (ad 128)), (1, .int p0), (2, .int p1)] rfl ?_
  refine r_aload_n X 0 d_M_ofRoad_0 rfl rfl ?_
  refine r_iconst X 0 d_M_ofRoad_1 (by decide) ?_
  refine r_put X k_M 0 (by decide) f_M_38 rfl (hm.1) rfl rfl rfl (Nat.le_of_ble_eq_true rfl) [.int 0, .ref (ad 129), .ref (ad 130), .ref (ad 131), .ref (ad 152), .ref (ad 158), .int 0, .int 0, .int 0, .int 100, .int 0, .int 0, .int 0, .int 0, .int 0, .int 0] rfl (va_up c 128 (some (.inr (11, [.int 0, .ref (ad 129), .ref (ad 130), .ref (ad 131), .ref (ad 152), .ref (ad 158), .int 0, .int 0, .int 0, .int 100, .int 0, .int 0, .int 0, .int 0, .int 0, .int 0])))) rfl d_M_ofRoad_2 ?_
  refine r_c c (rup_id hm.1) ?_
  refine r_aload_n X 0 d_M_ofRoad_5 rfl rfl ?_
  refine r_iload_n X 1 d_M_ofRoad_6 rfl rfl ?_
  refine x_Vi X W0_good hN hE (c_M_isRoad l D cy t0 ad (c) f1 f2 hm p0) yv_M_isRoad m_M_229 (hm.1) k_M.2.1 rfl rfl rfl ⟨by decide, by decide⟩ (Nat.le_of_ble_eq_true rfl) ⟨by decide, by decide⟩ d_M_ofRoad_7 (fun r9 ad9 c9 hp9 => ?_)
  obtain ⟨rfl, rfl, rfl⟩ := hp9
  refine r_if_ne X 19 d_M_ofRoad_10 (by decide) (fun h9 => absurd h9 (by decide)) (fun _ => ?_)
  refine r_aload_n X 0 d_M_ofRoad_13 rfl rfl ?_
  refine r_iconst X 1 d_M_ofRoad_14 (by decide) ?_
  refine r_Vi X W0_good hN (c_M_no l D cy ad (c) t0 f1 f2 hm 1) yv_M_no m_M_174 (hm.1) k_M.2.1 rfl rfl rfl ⟨by decide, by decide⟩ (Nat.le_of_ble_eq_true rfl) ⟨by decide, by decide⟩ d_M_ofRoad_15 (fun r9 ad9 c9 hp9 => ?_)
  obtain ⟨rfl, rfl, rfl⟩ := hp9
  have hk_1 : (kF_ofRoad p0 p1) = 1 := rfl
  exact r_iret (post := fun r ad' c' => ((kF_ofRoad p0 p1) = 0 → r = 0) ∧ (∀ j, j < 160 → ad' j = ad j) ∧ (∀ j, j < 128 → c' j = c j) ∧ ∃ fs, c' 128 = some (.inr (11, .int (kF_ofRoad p0 p1) :: fs))) X hr hlk d_M_ofRoad_18 (by decide) (by decide) ⟨(fun h9 => absurd (hk_1.symm.trans h9) (by decide)), (fun j hj => rfl), (fun j hj => (rup_ne (by omega) rfl)), _, (by rw [hk_1]; exact rup_self)⟩
set_option maxRecDepth 100000 in
set_option maxHeartbeats 4000000 in
theorem c_M_ofLorry (l : Launch) (D : va_G) (cy : Nat → ClassId) (t0 : Nat) (ad : Nat → Nat) (c : rC) (f1 f2 : Nat → Option Nat) (hm : mC t0 f1 f2 cy ad c) (p0 p1 : Int32)  : xMi l D cls (TY cy) NW t0 y_M_ofLorry (Cond.code y_M_ofLorry b_M_ofLorry 3 rt_M_ofLorry :: W0) { frames := 2, cells := 0, slots := 0, locals := 43 } [.ref (ad 128), .int p0, .int p1] ad c (fun r ad' c' => ((kF_ofLorry p0 p1) = 0 → r = 0) ∧ (∀ j, j < 160 → ad' j = ad j) ∧ (∀ j, j < 128 → c' j = c j) ∧ ∃ fs, c' 128 = some (.inr (11, .int (kF_ofLorry p0 p1) :: fs))) := by
  intro sz
  refine x_of (own := R_M) rfl (by decide +kernel) (Nat.le_of_ble_eq_true rfl) ?_
  intro p e s m below meth cd hsz X hr hlk hN hE hin
  refine r_lv [0, 1, 2] [(0, .ref (ad 128)), (1, .int p0), (2, .int p1)] rfl ?_
  refine r_aload_n X 0 d_M_ofLorry_0 rfl rfl ?_
  refine r_iconst X 0 d_M_ofLorry_1 (by decide) ?_
  refine r_put X k_M 0 (by decide) f_M_38 rfl (hm.1) rfl rfl rfl (Nat.le_of_ble_eq_true rfl) [.int 0, .ref (ad 129), .ref (ad 130), .ref (ad 131), .ref (ad 152), .ref (ad 158), .int 0, .int 0, .int 0, .int 100, .int 0, .int 0, .int 0, .int 0, .int 0, .int 0] rfl (va_up c 128 (some (.inr (11, [.int 0, .ref (ad 129), .ref (ad 130), .ref (ad 131), .ref (ad 152), .ref (ad 158), .int 0, .int 0, .int 0, .int 100, .int 0, .int 0, .int 0, .int 0, .int 0, .int 0])))) rfl d_M_ofLorry_2 ?_
  refine r_c c (rup_id hm.1) ?_
  refine r_aload_n X 0 d_M_ofLorry_5 rfl rfl ?_
  refine r_iload_n X 1 d_M_ofLorry_6 rfl rfl ?_
  refine x_Vi X W0_good hN hE (c_M_isLorry l D cy t0 ad (c) f1 f2 hm p0) yv_M_isLorry m_M_226 (hm.1) k_M.2.1 rfl rfl rfl ⟨by decide, by decide⟩ (Nat.le_of_ble_eq_true rfl) ⟨by decide, by decide⟩ d_M_ofLorry_7 (fun r9 ad9 c9 hp9 => ?_)
  obtain ⟨rfl, rfl, rfl⟩ := hp9
  refine r_if_ne X 19 d_M_ofLorry_10 (by decide) (fun h9 => absurd h9 (by decide)) (fun _ => ?_)
  refine r_aload_n X 0 d_M_ofLorry_13 rfl rfl ?_
  refine r_iconst X 1 d_M_ofLorry_14 (by decide) ?_
  refine r_Vi X W0_good hN (c_M_no l D cy ad (c) t0 f1 f2 hm 1) yv_M_no m_M_174 (hm.1) k_M.2.1 rfl rfl rfl ⟨by decide, by decide⟩ (Nat.le_of_ble_eq_true rfl) ⟨by decide, by decide⟩ d_M_ofLorry_15 (fun r9 ad9 c9 hp9 => ?_)
  obtain ⟨rfl, rfl, rfl⟩ := hp9
  have hk_1 : (kF_ofLorry p0 p1) = 1 := rfl
  exact r_iret (post := fun r ad' c' => ((kF_ofLorry p0 p1) = 0 → r = 0) ∧ (∀ j, j < 160 → ad' j = ad j) ∧ (∀ j, j < 128 → c' j = c j) ∧ ∃ fs, c' 128 = some (.inr (11, .int (kF_ofLorry p0 p1) :: fs))) X hr hlk d_M_ofLorry_18 (by decide) (by decide) ⟨(fun h9 => absurd (hk_1.symm.trans h9) (by decide)), (fun j hj => rfl), (fun j hj => (rup_ne (by omega) rfl)), _, (by rw [hk_1]; exact rup_self)⟩
set_option maxRecDepth 100000 in
set_option maxHeartbeats 4000000 in
theorem c_M_slipperyIn (l : Launch) (D : va_G) (cy : Nat → ClassId) (t0 : Nat) (ad : Nat → Nat) (c : rC) (f1 f2 : Nat → Option Nat) (hm : mC t0 f1 f2 cy ad c) (p0 p1 : Int32)  : xMi l D cls (TY cy) NW t0 y_M_slipperyIn (Cond.code y_M_slipperyIn b_M_slipperyIn 3 rt_M_slipperyIn :: W0) { frames := 4, cells := 0, slots := 0, locals := 93 } [.ref (ad 128), .int p0, .int p1] ad c (fun r ad' c' => ((kF_slipperyIn p0 p1) = 0 → r = 0) ∧ (∀ j, j < 160 → ad' j = ad j) ∧ (∀ j, j < 128 → c' j = c j) ∧ ∃ fs, c' 128 = some (.inr (11, .int (kF_slipperyIn p0 p1) :: fs))) := by
  intro sz
  refine x_of (own := R_M) rfl (by decide +kernel) (Nat.le_of_ble_eq_true rfl) ?_
  intro p e s m below meth cd hsz X hr hlk hN hE hin
  refine r_lv [0, 1, 2] [(0, .ref (ad 128)), (1, .int p0), (2, .int p1)] rfl ?_
  refine r_aload_n X 0 d_M_slipperyIn_0 rfl rfl ?_
  refine r_iconst X 0 d_M_slipperyIn_1 (by decide) ?_
  refine r_put X k_M 0 (by decide) f_M_38 rfl (hm.1) rfl rfl rfl (Nat.le_of_ble_eq_true rfl) [.int 0, .ref (ad 129), .ref (ad 130), .ref (ad 131), .ref (ad 152), .ref (ad 158), .int 0, .int 0, .int 0, .int 100, .int 0, .int 0, .int 0, .int 0, .int 0, .int 0] rfl (va_up c 128 (some (.inr (11, [.int 0, .ref (ad 129), .ref (ad 130), .ref (ad 131), .ref (ad 152), .ref (ad 158), .int 0, .int 0, .int 0, .int 100, .int 0, .int 0, .int 0, .int 0, .int 0, .int 0])))) rfl d_M_slipperyIn_2 ?_
  refine r_c c (rup_id hm.1) ?_
  refine r_aload_n X 0 d_M_slipperyIn_5 rfl rfl ?_
  refine r_iload_n X 1 d_M_slipperyIn_6 rfl rfl ?_
  refine x_Vi X W0_good hN hE (c_M_isRoad l D cy t0 ad (c) f1 f2 hm p0) yv_M_isRoad m_M_229 (hm.1) k_M.2.1 rfl rfl rfl ⟨by decide, by decide⟩ (Nat.le_of_ble_eq_true rfl) ⟨by decide, by decide⟩ d_M_slipperyIn_7 (fun r9 ad9 c9 hp9 => ?_)
  obtain ⟨rfl, rfl, rfl⟩ := hp9
  refine r_if_ne X 19 d_M_slipperyIn_10 (by decide) (fun h9 => absurd h9 (by decide)) (fun _ => ?_)
  refine r_aload_n X 0 d_M_slipperyIn_13 rfl rfl ?_
  refine r_iconst X 1 d_M_slipperyIn_14 (by decide) ?_
  refine r_Vi X W0_good hN (c_M_no l D cy ad (c) t0 f1 f2 hm 1) yv_M_no m_M_174 (hm.1) k_M.2.1 rfl rfl rfl ⟨by decide, by decide⟩ (Nat.le_of_ble_eq_true rfl) ⟨by decide, by decide⟩ d_M_slipperyIn_15 (fun r9 ad9 c9 hp9 => ?_)
  obtain ⟨rfl, rfl, rfl⟩ := hp9
  have hk_1 : (kF_slipperyIn p0 p1) = 1 := rfl
  exact r_iret (post := fun r ad' c' => ((kF_slipperyIn p0 p1) = 0 → r = 0) ∧ (∀ j, j < 160 → ad' j = ad j) ∧ (∀ j, j < 128 → c' j = c j) ∧ ∃ fs, c' 128 = some (.inr (11, .int (kF_slipperyIn p0 p1) :: fs))) X hr hlk d_M_slipperyIn_18 (by decide) (by decide) ⟨(fun h9 => absurd (hk_1.symm.trans h9) (by decide)), (fun j hj => rfl), (fun j hj => (rup_ne (by omega) rfl)), _, (by rw [hk_1]; exact rup_self)⟩
set_option maxRecDepth 100000 in
set_option maxHeartbeats 4000000 in
theorem c_M_saltFor (l : Launch) (D : va_G) (cy : Nat → ClassId) (t0 : Nat) (ad : Nat → Nat) (c : rC) (f1 f2 : Nat → Option Nat) (hm : mC t0 f1 f2 cy ad c) (p0 p1 : Int32)  : xMi l D cls (TY cy) NW t0 y_M_saltFor (Cond.code y_M_saltFor b_M_saltFor 3 rt_M_saltFor :: W0) { frames := 5, cells := 0, slots := 0, locals := 117 } [.ref (ad 128), .int p0, .int p1] ad c (fun r ad' c' => ((kF_saltFor p0 p1) = 0 → r = 0) ∧ (∀ j, j < 160 → ad' j = ad j) ∧ (∀ j, j < 128 → c' j = c j) ∧ ∃ fs, c' 128 = some (.inr (11, .int (kF_saltFor p0 p1) :: fs))) := by
  intro sz
  refine x_of (own := R_M) rfl (by decide +kernel) (Nat.le_of_ble_eq_true rfl) ?_
  intro p e s m below meth cd hsz X hr hlk hN hE hin
  refine r_lv [0, 1, 2] [(0, .ref (ad 128)), (1, .int p0), (2, .int p1)] rfl ?_
  refine r_aload_n X 0 d_M_saltFor_0 rfl rfl ?_
  refine r_iconst X 0 d_M_saltFor_1 (by decide) ?_
  refine r_put X k_M 0 (by decide) f_M_38 rfl (hm.1) rfl rfl rfl (Nat.le_of_ble_eq_true rfl) [.int 0, .ref (ad 129), .ref (ad 130), .ref (ad 131), .ref (ad 152), .ref (ad 158), .int 0, .int 0, .int 0, .int 100, .int 0, .int 0, .int 0, .int 0, .int 0, .int 0] rfl (va_up c 128 (some (.inr (11, [.int 0, .ref (ad 129), .ref (ad 130), .ref (ad 131), .ref (ad 152), .ref (ad 158), .int 0, .int 0, .int 0, .int 100, .int 0, .int 0, .int 0, .int 0, .int 0, .int 0])))) rfl d_M_saltFor_2 ?_
  refine r_c c (rup_id hm.1) ?_
  refine r_aload_n X 0 d_M_saltFor_5 rfl rfl ?_
  refine r_iload_n X 1 d_M_saltFor_6 rfl rfl ?_
  refine x_Vi X W0_good hN hE (c_M_isRoad l D cy t0 ad (c) f1 f2 hm p0) yv_M_isRoad m_M_229 (hm.1) k_M.2.1 rfl rfl rfl ⟨by decide, by decide⟩ (Nat.le_of_ble_eq_true rfl) ⟨by decide, by decide⟩ d_M_saltFor_7 (fun r9 ad9 c9 hp9 => ?_)
  obtain ⟨rfl, rfl, rfl⟩ := hp9
  refine r_if_ne X 19 d_M_saltFor_10 (by decide) (fun h9 => absurd h9 (by decide)) (fun _ => ?_)
  refine r_aload_n X 0 d_M_saltFor_13 rfl rfl ?_
  refine r_iconst X 1 d_M_saltFor_14 (by decide) ?_
  refine r_Vi X W0_good hN (c_M_no l D cy ad (c) t0 f1 f2 hm 1) yv_M_no m_M_174 (hm.1) k_M.2.1 rfl rfl rfl ⟨by decide, by decide⟩ (Nat.le_of_ble_eq_true rfl) ⟨by decide, by decide⟩ d_M_saltFor_15 (fun r9 ad9 c9 hp9 => ?_)
  obtain ⟨rfl, rfl, rfl⟩ := hp9
  have hk_1 : (kF_saltFor p0 p1) = 1 := rfl
  exact r_iret (post := fun r ad' c' => ((kF_saltFor p0 p1) = 0 → r = 0) ∧ (∀ j, j < 160 → ad' j = ad j) ∧ (∀ j, j < 128 → c' j = c j) ∧ ∃ fs, c' 128 = some (.inr (11, .int (kF_saltFor p0 p1) :: fs))) X hr hlk d_M_saltFor_18 (by decide) (by decide) ⟨(fun h9 => absurd (hk_1.symm.trans h9) (by decide)), (fun j hj => rfl), (fun j hj => (rup_ne (by omega) rfl)), _, (by rw [hk_1]; exact rup_self)⟩
set_option maxRecDepth 100000 in
set_option maxHeartbeats 4000000 in
theorem c_M_bestOrders (l : Launch) (D : va_G) (cy : Nat → ClassId) (t0 : Nat) (ad : Nat → Nat) (c : rC) (f1 f2 : Nat → Option Nat) (hm : mC t0 f1 f2 cy ad c) (p0 p1 : Int32)  : xMi l D cls (TY cy) NW t0 y_M_bestOrders (Cond.code y_M_bestOrders b_M_bestOrders 3 rt_M_bestOrders :: W0) { frames := 2, cells := 0, slots := 0, locals := 57 } [.ref (ad 128), .int p0, .int p1] ad c (fun r ad' c' => ((kF_bestOrders p0 p1) = 0 → r = 0) ∧ (∀ j, j < 160 → ad' j = ad j) ∧ (∀ j, j < 128 → c' j = c j) ∧ ∃ fs, c' 128 = some (.inr (11, .int (kF_bestOrders p0 p1) :: fs))) := by
  intro sz
  refine x_of (own := R_M) rfl (by decide +kernel) (Nat.le_of_ble_eq_true rfl) ?_
  intro p e s m below meth cd hsz X hr hlk hN hE hin
  refine r_lv [0, 1, 2] [(0, .ref (ad 128)), (1, .int p0), (2, .int p1)] rfl ?_
  refine r_aload_n X 0 d_M_bestOrders_0 rfl rfl ?_
  refine r_iconst X 0 d_M_bestOrders_1 (by decide) ?_
  refine r_put X k_M 0 (by decide) f_M_38 rfl (hm.1) rfl rfl rfl (Nat.le_of_ble_eq_true rfl) [.int 0, .ref (ad 129), .ref (ad 130), .ref (ad 131), .ref (ad 152), .ref (ad 158), .int 0, .int 0, .int 0, .int 100, .int 0, .int 0, .int 0, .int 0, .int 0, .int 0] rfl (va_up c 128 (some (.inr (11, [.int 0, .ref (ad 129), .ref (ad 130), .ref (ad 131), .ref (ad 152), .ref (ad 158), .int 0, .int 0, .int 0, .int 100, .int 0, .int 0, .int 0, .int 0, .int 0, .int 0])))) rfl d_M_bestOrders_2 ?_
  refine r_c c (rup_id hm.1) ?_
  refine r_aload_n X 0 d_M_bestOrders_5 rfl rfl ?_
  refine r_iload_n X 1 d_M_bestOrders_6 rfl rfl ?_
  refine x_Vi X W0_good hN hE (c_M_isLorry l D cy t0 ad (c) f1 f2 hm p0) yv_M_isLorry m_M_226 (hm.1) k_M.2.1 rfl rfl rfl ⟨by decide, by decide⟩ (Nat.le_of_ble_eq_true rfl) ⟨by decide, by decide⟩ d_M_bestOrders_7 (fun r9 ad9 c9 hp9 => ?_)
  obtain ⟨rfl, rfl, rfl⟩ := hp9
  refine r_if_eq X 20 d_M_bestOrders_10 (by decide) (fun _ => ?_) (fun h9 => absurd h9 (by decide))
  refine r_aload_n X 0 d_M_bestOrders_20 rfl rfl ?_
  refine r_iconst X 1 d_M_bestOrders_21 (by decide) ?_
  refine r_Vi X W0_good hN (c_M_no l D cy ad (c) t0 f1 f2 hm 1) yv_M_no m_M_174 (hm.1) k_M.2.1 rfl rfl rfl ⟨by decide, by decide⟩ (Nat.le_of_ble_eq_true rfl) ⟨by decide, by decide⟩ d_M_bestOrders_22 (fun r9 ad9 c9 hp9 => ?_)
  obtain ⟨rfl, rfl, rfl⟩ := hp9
  have hk_1 : (kF_bestOrders p0 p1) = 1 := rfl
  exact r_iret (post := fun r ad' c' => ((kF_bestOrders p0 p1) = 0 → r = 0) ∧ (∀ j, j < 160 → ad' j = ad j) ∧ (∀ j, j < 128 → c' j = c j) ∧ ∃ fs, c' 128 = some (.inr (11, .int (kF_bestOrders p0 p1) :: fs))) X hr hlk d_M_bestOrders_25 (by decide) (by decide) ⟨(fun h9 => absurd (hk_1.symm.trans h9) (by decide)), (fun j hj => rfl), (fun j hj => (rup_ne (by omega) rfl)), _, (by rw [hk_1]; exact rup_self)⟩
set_option maxRecDepth 100000 in
set_option maxHeartbeats 4000000 in
theorem c_M_air (l : Launch) (D : va_G) (cy : Nat → ClassId) (t0 : Nat) (ad : Nat → Nat) (c : rC) (f1 f2 : Nat → Option Nat) (hm : mC t0 f1 f2 cy ad c) (p0 p1 : Int32) (hz : p1 = 0 ∨ p1 = 1) : xMi l D cls (TY cy) NW t0 y_M_air (Cond.code y_M_air b_M_air 4 rt_M_air :: W0) { frames := 1, cells := 0, slots := 0, locals := 22 } [.ref (ad 128), .int p0, .int p1] ad c (fun r ad' c' => ((kF_air p0 p1) = 0 → r = 5) ∧ (∀ j, j < 160 → ad' j = ad j) ∧ (∀ j, j < 128 → c' j = c j) ∧ ∃ fs, c' 128 = some (.inr (11, .int (kF_air p0 p1) :: fs))) := by
  intro sz
  refine x_of (own := R_M) rfl (by decide +kernel) (Nat.le_of_ble_eq_true rfl) ?_
  intro p e s m below meth cd hsz X hr hlk hN hE hin
  refine r_lv [0, 1, 2] [(0, .ref (ad 128)), (1, .int p0), (2, .int p1)] rfl ?_
  refine r_aload_n X 0 d_M_air_0 rfl rfl ?_
  refine r_iconst X 0 d_M_air_1 (by decide) ?_
  refine r_put X k_M 0 (by decide) f_M_38 rfl (hm.1) rfl rfl rfl (Nat.le_of_ble_eq_true rfl) [.int 0, .ref (ad 129), .ref (ad 130), .ref (ad 131), .ref (ad 152), .ref (ad 158), .int 0, .int 0, .int 0, .int 100, .int 0, .int 0, .int 0, .int 0, .int 0, .int 0] rfl (va_up c 128 (some (.inr (11, [.int 0, .ref (ad 129), .ref (ad 130), .ref (ad 131), .ref (ad 152), .ref (ad 158), .int 0, .int 0, .int 0, .int 100, .int 0, .int 0, .int 0, .int 0, .int 0, .int 0])))) rfl d_M_air_2 ?_
  refine r_c c (rup_id hm.1) ?_
  refine r_iload_n X 1 d_M_air_5 rfl rfl ?_
  refine r_bipush X (-20) d_M_air_6 (by decide) ?_
  refine r_bipush X 20 d_M_air_8 (by decide) ?_
  refine r_Si X W0_good hN (c_M_in l D cy ad (c) p0 (-20) 20) ys_M_in m_M_167 rfl rfl ⟨by decide, by decide⟩ (Nat.le_of_ble_eq_true rfl) ⟨by decide, by decide⟩ d_M_air_10 (fun r9 ad9 c9 hp9 => ?_)
  obtain ⟨rfl, rfl, rfl⟩ := hp9
  rcases inF_or p0 (-20) 20 with hq_1 | hq_1
  · refine r_top (y := 1) hq_1 ?_
    refine r_if_ne X 22 d_M_air_13 (by decide) (fun _ => ?_) (fun h9 => absurd h9 (by decide))
    refine r_aload_n X 0 d_M_air_22 rfl rfl ?_
    refine r_get X k_M 5 (by decide) f_M_30 rfl (hm.1) rfl d_M_air_23 ?_
    refine r_get X k_MWea 0 (by decide) f_M_185 rfl (hm.2.2.2.2.2.2.2.1) rfl d_M_air_26 ?_
    refine r_istore_n X [(3, .int 5), (0, .ref (ad 128)), (1, .int p0), (2, .int p1)] d_M_air_29 rfl (by decide) rfl ?_
    refine r_aload_n X 1 d_M_air_30 rfl rfl ?_
    refine r_get X k_M 5 (by decide) f_M_30 rfl (hm.1) rfl d_M_air_31 ?_
    refine r_iload_n X 2 d_M_air_34 rfl rfl ?_
    refine r_put X k_MWea 0 (by decide) f_M_185 rfl (hm.2.2.2.2.2.2.2.1) rfl rfl rfl (Nat.le_of_ble_eq_true rfl) [.int p0, .int 0, .int 0, .int 0, .int 0] rfl (va_up c 158 (some (.inr (8, [.int p0, .int 0, .int 0, .int 0, .int 0])))) rfl d_M_air_35 ?_
    refine r_aload_n X 1 d_M_air_38 rfl rfl ?_
    refine r_get X k_M 5 (by decide) f_M_30 rfl (rup_ne (by omega) ((hm.1))) rfl d_M_air_39 ?_
    refine r_iload_n X 3 d_M_air_42 rfl rfl ?_
    refine r_put X k_MWea 4 (by decide) f_M_188 rfl rup_self rfl (nb_bit hz) (fb_bit hz) (Nat.le_of_ble_eq_true rfl) [.int p0, .int 0, .int 0, .int 0, .int p1] rfl (va_up c 158 (some (.inr (8, [.int p0, .int 0, .int 0, .int 0, .int p1])))) rup_up d_M_air_43 ?_
    refine r_iload_n X 0 d_M_air_46 rfl rfl ?_
    have hk_2 : (kF_air p0 p1) = 0 := by unfold kF_air; rw [if_pos hq_1]
    exact r_iret (post := fun r ad' c' => ((kF_air p0 p1) = 0 → r = 5) ∧ (∀ j, j < 160 → ad' j = ad j) ∧ (∀ j, j < 128 → c' j = c j) ∧ ∃ fs, c' 128 = some (.inr (11, .int (kF_air p0 p1) :: fs))) X hr hlk d_M_air_47 (by decide) (by decide) ⟨(fun _ => rfl), (fun j hj => rfl), (fun j hj => (rup_ne (by omega) rfl)), _, (by rw [hk_2]; exact rup_ne (by omega) ((hm.1)))⟩
  · refine r_top (y := 0) hq_1 ?_
    refine r_if_ne X 22 d_M_air_13 (by decide) (fun h9 => absurd h9 (by decide)) (fun _ => ?_)
    refine r_aload_n X 0 d_M_air_16 rfl rfl ?_
    refine r_iconst X 1 d_M_air_17 (by decide) ?_
    refine r_Vi X W0_good hN (c_M_no l D cy ad (c) t0 f1 f2 hm 1) yv_M_no m_M_174 (hm.1) k_M.2.1 rfl rfl rfl ⟨by decide, by decide⟩ (Nat.le_of_ble_eq_true rfl) ⟨by decide, by decide⟩ d_M_air_18 (fun r9 ad9 c9 hp9 => ?_)
    obtain ⟨rfl, rfl, rfl⟩ := hp9
    have hk_3 : (kF_air p0 p1) = 1 := by unfold kF_air; rw [if_neg (inF_n1 hq_1)]
    exact r_iret (post := fun r ad' c' => ((kF_air p0 p1) = 0 → r = 5) ∧ (∀ j, j < 160 → ad' j = ad j) ∧ (∀ j, j < 128 → c' j = c j) ∧ ∃ fs, c' 128 = some (.inr (11, .int (kF_air p0 p1) :: fs))) X hr hlk d_M_air_21 (by decide) (by decide) ⟨(fun h9 => absurd (hk_3.symm.trans h9) (by decide)), (fun j hj => rfl), (fun j hj => (rup_ne (by omega) rfl)), _, (by rw [hk_3]; exact rup_self)⟩
set_option maxRecDepth 100000 in
set_option maxHeartbeats 4000000 in
theorem c_M_fall (l : Launch) (D : va_G) (cy : Nat → ClassId) (t0 : Nat) (ad : Nat → Nat) (c : rC) (f1 f2 : Nat → Option Nat) (hm : mC t0 f1 f2 cy ad c) (p0 p1 p2 : Int32)  : xMi l D cls (TY cy) NW t0 y_M_fall (Cond.code y_M_fall b_M_fall 5 rt_M_fall :: W0) { frames := 1, cells := 0, slots := 0, locals := 22 } [.ref (ad 128), .int p0, .int p1, .int p2] ad c (fun r ad' c' => ((kF_fall p0 p1 p2) = 0 → r = 0) ∧ (∀ j, j < 160 → ad' j = ad j) ∧ (∀ j, j < 128 → c' j = c j) ∧ ∃ fs, c' 128 = some (.inr (11, .int (kF_fall p0 p1 p2) :: fs))) := by
  intro sz
  refine x_of (own := R_M) rfl (by decide +kernel) (Nat.le_of_ble_eq_true rfl) ?_
  intro p e s m below meth cd hsz X hr hlk hN hE hin
  refine r_lv [0, 1, 2, 3] [(0, .ref (ad 128)), (1, .int p0), (2, .int p1), (3, .int p2)] rfl ?_
  refine r_aload_n X 0 d_M_fall_0 rfl rfl ?_
  refine r_iconst X 0 d_M_fall_1 (by decide) ?_
  refine r_put X k_M 0 (by decide) f_M_38 rfl (hm.1) rfl rfl rfl (Nat.le_of_ble_eq_true rfl) [.int 0, .ref (ad 129), .ref (ad 130), .ref (ad 131), .ref (ad 152), .ref (ad 158), .int 0, .int 0, .int 0, .int 100, .int 0, .int 0, .int 0, .int 0, .int 0, .int 0] rfl (va_up c 128 (some (.inr (11, [.int 0, .ref (ad 129), .ref (ad 130), .ref (ad 131), .ref (ad 152), .ref (ad 158), .int 0, .int 0, .int 0, .int 100, .int 0, .int 0, .int 0, .int 0, .int 0, .int 0])))) rfl d_M_fall_2 ?_
  refine r_c c (rup_id hm.1) ?_
  refine r_iload_n X 1 d_M_fall_5 rfl rfl ?_
  refine r_iconst X 0 d_M_fall_6 (by decide) ?_
  refine r_iconst X 3 d_M_fall_7 (by decide) ?_
  refine r_Si X W0_good hN (c_M_in l D cy ad (c) p0 0 3) ys_M_in m_M_167 rfl rfl ⟨by decide, by decide⟩ (Nat.le_of_ble_eq_true rfl) ⟨by decide, by decide⟩ d_M_fall_8 (fun r9 ad9 c9 hp9 => ?_)
  obtain ⟨rfl, rfl, rfl⟩ := hp9
  rcases inF_or p0 0 3 with hq_1 | hq_1
  · refine r_top (y := 1) hq_1 ?_
    refine r_if_eq X 32 d_M_fall_11 (by decide) (fun h9 => absurd h9 (by decide)) (fun _ => ?_)
    refine r_iload_n X 2 d_M_fall_14 rfl rfl ?_
    refine r_iconst X 0 d_M_fall_15 (by decide) ?_
    refine r_iconst X 3 d_M_fall_16 (by decide) ?_
    refine r_Si X W0_good hN (c_M_in l D cy ad (c) p1 0 3) ys_M_in m_M_167 rfl rfl ⟨by decide, by decide⟩ (Nat.le_of_ble_eq_true rfl) ⟨by decide, by decide⟩ d_M_fall_17 (fun r9 ad9 c9 hp9 => ?_)
    obtain ⟨rfl, rfl, rfl⟩ := hp9
    rcases inF_or p1 0 3 with hq_2 | hq_2
    · refine r_top (y := 1) hq_2 ?_
      refine r_if_eq X 32 d_M_fall_20 (by decide) (fun h9 => absurd h9 (by decide)) (fun _ => ?_)
      refine r_iload_n X 3 d_M_fall_23 rfl rfl ?_
      refine r_iconst X 0 d_M_fall_24 (by decide) ?_
      refine r_iconst X 3 d_M_fall_25 (by decide) ?_
      refine r_Si X W0_good hN (c_M_in l D cy ad (c) p2 0 3) ys_M_in m_M_167 rfl rfl ⟨by decide, by decide⟩ (Nat.le_of_ble_eq_true rfl) ⟨by decide, by decide⟩ d_M_fall_26 (fun r9 ad9 c9 hp9 => ?_)
      obtain ⟨rfl, rfl, rfl⟩ := hp9
      rcases inF_or p2 0 3 with hq_3 | hq_3
      · refine r_top (y := 1) hq_3 ?_
        refine r_if_ne X 38 d_M_fall_29 (by decide) (fun _ => ?_) (fun h9 => absurd h9 (by decide))
        refine r_aload_n X 0 d_M_fall_38 rfl rfl ?_
        refine r_get X k_M 5 (by decide) f_M_30 rfl (hm.1) rfl d_M_fall_39 ?_
        refine r_get X k_MWea 3 (by decide) f_M_191 rfl (hm.2.2.2.2.2.2.2.1) rfl d_M_fall_42 ?_
        refine r_istore X [(4, .int 0), (0, .ref (ad 128)), (1, .int p0), (2, .int p1), (3, .int p2)] d_M_fall_45 (by decide) rfl ?_
        refine r_aload_n X 1 d_M_fall_47 rfl rfl ?_
        refine r_get X k_M 5 (by decide) f_M_30 rfl (hm.1) rfl d_M_fall_48 ?_
        refine r_iload_n X 2 d_M_fall_51 rfl rfl ?_
        refine r_put X k_MWea 1 (by decide) f_M_194 rfl (hm.2.2.2.2.2.2.2.1) rfl rfl rfl (Nat.le_of_ble_eq_true rfl) [.int 5, .int p0, .int 0, .int 0, .int 0] rfl (va_up c 158 (some (.inr (8, [.int 5, .int p0, .int 0, .int 0, .int 0])))) rfl d_M_fall_52 ?_
        refine r_aload_n X 1 d_M_fall_55 rfl rfl ?_
        refine r_get X k_M 5 (by decide) f_M_30 rfl (rup_ne (by omega) ((hm.1))) rfl d_M_fall_56 ?_
        refine r_iload_n X 3 d_M_fall_59 rfl rfl ?_
        refine r_put X k_MWea 2 (by decide) f_M_197 rfl rup_self rfl rfl rfl (Nat.le_of_ble_eq_true rfl) [.int 5, .int p0, .int p1, .int 0, .int 0] rfl (va_up c 158 (some (.inr (8, [.int 5, .int p0, .int p1, .int 0, .int 0])))) rup_up d_M_fall_60 ?_
        refine r_aload_n X 1 d_M_fall_63 rfl rfl ?_
        refine r_get X k_M 5 (by decide) f_M_30 rfl (rup_ne (by omega) ((hm.1))) rfl d_M_fall_64 ?_
        refine r_iload_n X 4 d_M_fall_67 rfl rfl ?_
        refine r_put X k_MWea 3 (by decide) f_M_191 rfl rup_self rfl rfl rfl (Nat.le_of_ble_eq_true rfl) [.int 5, .int p0, .int p1, .int p2, .int 0] rfl (va_up c 158 (some (.inr (8, [.int 5, .int p0, .int p1, .int p2, .int 0])))) rup_up d_M_fall_68 ?_
        refine r_iload X 0 d_M_fall_71 rfl ?_
        have hk_4 : (kF_fall p0 p1 p2) = 0 := by unfold kF_fall; rw [if_pos hq_1, if_pos hq_2, if_pos hq_3]
        exact r_iret (post := fun r ad' c' => ((kF_fall p0 p1 p2) = 0 → r = 0) ∧ (∀ j, j < 160 → ad' j = ad j) ∧ (∀ j, j < 128 → c' j = c j) ∧ ∃ fs, c' 128 = some (.inr (11, .int (kF_fall p0 p1 p2) :: fs))) X hr hlk d_M_fall_73 (by decide) (by decide) ⟨(fun _ => rfl), (fun j hj => rfl), (fun j hj => (rup_ne (by omega) rfl)), _, (by rw [hk_4]; exact rup_ne (by omega) ((hm.1)))⟩
      · refine r_top (y := 0) hq_3 ?_
        refine r_if_ne X 38 d_M_fall_29 (by decide) (fun h9 => absurd h9 (by decide)) (fun _ => ?_)
        refine r_aload_n X 0 d_M_fall_32 rfl rfl ?_
        refine r_iconst X 1 d_M_fall_33 (by decide) ?_
        refine r_Vi X W0_good hN (c_M_no l D cy ad (c) t0 f1 f2 hm 1) yv_M_no m_M_174 (hm.1) k_M.2.1 rfl rfl rfl ⟨by decide, by decide⟩ (Nat.le_of_ble_eq_true rfl) ⟨by decide, by decide⟩ d_M_fall_34 (fun r9 ad9 c9 hp9 => ?_)
        obtain ⟨rfl, rfl, rfl⟩ := hp9
        have hk_5 : (kF_fall p0 p1 p2) = 1 := by unfold kF_fall; rw [if_pos hq_1, if_pos hq_2, if_neg (inF_n1 hq_3)]
        exact r_iret (post := fun r ad' c' => ((kF_fall p0 p1 p2) = 0 → r = 0) ∧ (∀ j, j < 160 → ad' j = ad j) ∧ (∀ j, j < 128 → c' j = c j) ∧ ∃ fs, c' 128 = some (.inr (11, .int (kF_fall p0 p1 p2) :: fs))) X hr hlk d_M_fall_37 (by decide) (by decide) ⟨(fun h9 => absurd (hk_5.symm.trans h9) (by decide)), (fun j hj => rfl), (fun j hj => (rup_ne (by omega) rfl)), _, (by rw [hk_5]; exact rup_self)⟩
    · refine r_top (y := 0) hq_2 ?_
      refine r_if_eq X 32 d_M_fall_20 (by decide) (fun _ => ?_) (fun h9 => absurd h9 (by decide))
      refine r_aload_n X 0 d_M_fall_32 rfl rfl ?_
      refine r_iconst X 1 d_M_fall_33 (by decide) ?_
      refine r_Vi X W0_good hN (c_M_no l D cy ad (c) t0 f1 f2 hm 1) yv_M_no m_M_174 (hm.1) k_M.2.1 rfl rfl rfl ⟨by decide, by decide⟩ (Nat.le_of_ble_eq_true rfl) ⟨by decide, by decide⟩ d_M_fall_34 (fun r9 ad9 c9 hp9 => ?_)
      obtain ⟨rfl, rfl, rfl⟩ := hp9
      have hk_6 : (kF_fall p0 p1 p2) = 1 := by unfold kF_fall; rw [if_pos hq_1, if_neg (inF_n1 hq_2)]
      exact r_iret (post := fun r ad' c' => ((kF_fall p0 p1 p2) = 0 → r = 0) ∧ (∀ j, j < 160 → ad' j = ad j) ∧ (∀ j, j < 128 → c' j = c j) ∧ ∃ fs, c' 128 = some (.inr (11, .int (kF_fall p0 p1 p2) :: fs))) X hr hlk d_M_fall_37 (by decide) (by decide) ⟨(fun h9 => absurd (hk_6.symm.trans h9) (by decide)), (fun j hj => rfl), (fun j hj => (rup_ne (by omega) rfl)), _, (by rw [hk_6]; exact rup_self)⟩
  · refine r_top (y := 0) hq_1 ?_
    refine r_if_eq X 32 d_M_fall_11 (by decide) (fun _ => ?_) (fun h9 => absurd h9 (by decide))
    refine r_aload_n X 0 d_M_fall_32 rfl rfl ?_
    refine r_iconst X 1 d_M_fall_33 (by decide) ?_
    refine r_Vi X W0_good hN (c_M_no l D cy ad (c) t0 f1 f2 hm 1) yv_M_no m_M_174 (hm.1) k_M.2.1 rfl rfl rfl ⟨by decide, by decide⟩ (Nat.le_of_ble_eq_true rfl) ⟨by decide, by decide⟩ d_M_fall_34 (fun r9 ad9 c9 hp9 => ?_)
    obtain ⟨rfl, rfl, rfl⟩ := hp9
    have hk_7 : (kF_fall p0 p1 p2) = 1 := by unfold kF_fall; rw [if_neg (inF_n1 hq_1)]
    exact r_iret (post := fun r ad' c' => ((kF_fall p0 p1 p2) = 0 → r = 0) ∧ (∀ j, j < 160 → ad' j = ad j) ∧ (∀ j, j < 128 → c' j = c j) ∧ ∃ fs, c' 128 = some (.inr (11, .int (kF_fall p0 p1 p2) :: fs))) X hr hlk d_M_fall_37 (by decide) (by decide) ⟨(fun h9 => absurd (hk_7.symm.trans h9) (by decide)), (fun j hj => rfl), (fun j hj => (rup_ne (by omega) rfl)), _, (by rw [hk_7]; exact rup_self)⟩
