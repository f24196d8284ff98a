/-! the county's own small methods -/
theorem r_ldcw {p : Program} {l : Launch} {e : Env} {R : Room} {s : State} {m : MethodId} {args : Array Value} {below : List Frame} {meth : Method} {cd : Code} {cc : ByteArray} {nL : Nat} {own : String} {Ts : List Cond} {D : va_G} {cl : List vw_C} {tys : List (ClassId × FieldType)} {A : Nat → Prop} {cells slots : Nat} {Q : State → Prop} {ad : Nat → Nat} {c : rC} {pc : Nat} {lv : List (Nat × Value)} {st : List Value} (X : rX p s m args cd cc nL own Ts D cl tys A) {i : Nat} {v : Int32} (hw : Cond.constant own i v ∈ Ts) (hd : decode cc pc = .ok (.ldc_w i, 3)) (kk : rW p l e R s m args below meth cd nL D cl A cells slots Q ad c (pc + 3) lv (.int v :: st)) : rW p l e R s m args below meth cd nL D cl A cells slots Q ad c pc lv st := fun H locs ls hP hS hl => lv_ldcw X.1 X.2.1 X.2.2.2.1 (X.2.2.2.2.1 _ hw) hd (kk H locs ls hP hS hl)
theorem rRf_y {ad : Nat → Nat} {nr i : Nat} (hi : i < 2 ^ 31) (h : i < nr) : va_rf (rRf ad nr (nI i).toNatClampNeg) = .ref (ad (16 + 4 * i)) := by
  rw [nI_clamp hi]; unfold rRf; rw [if_pos h]; rfl
theorem rRf_n {ad : Nat → Nat} {nr i : Nat} (hi : i < 2 ^ 31) (h : ¬ i < nr) : va_rf (rRf ad nr (nI i).toNatClampNeg) = .null := by
  rw [nI_clamp hi]; unfold rRf; rw [if_neg h]; rfl
theorem lRf_y {ad : Nat → Nat} {nl i : Nat} (hi : i < 2 ^ 31) (h : i < nl) : va_rf (lRf ad nl (nI i).toNatClampNeg) = .ref (ad (48 + 2 * i)) := by
  rw [nI_clamp hi]; unfold lRf; rw [if_pos h]; rfl
theorem lRf_n {ad : Nat → Nat} {nl i : Nat} (hi : i < 2 ^ 31) (h : ¬ i < nl) : va_rf (lRf ad nl (nI i).toNatClampNeg) = .null := by
  rw [nI_clamp hi]; unfold lRf; rw [if_neg h]; rfl
theorem r_vin {x : Int32} {N : Nat} (hN : N < 2 ^ 31) (h0 : ¬ x < 0) (h1 : ¬ nI N ≤ x) : vp_in x N := by
  rcases pk_ix x hN with h | h | ⟨j, hj, rfl⟩
  · exact absurd h h0
  · exact absurd h h1
  · exact vp_in_nI hj hN
def farK : Int32 := 1000000000
def numA (N : Nat) (f : Nat → Int32) (x : Int32) : Int32 := if x < 0 then farK else if nI N ≤ x then farK else f x.toNatClampNeg
def lowA (N : Nat) (f : Nat → Int32) (i x : Int32) : Nat → Int32 := if i < 0 then f else if nI N ≤ i then f else if f i.toNatClampNeg ≤ x then f else upd f i.toNatClampNeg x
def inF (x a b : Int32) : Int32 := if x < a then 0 else if b < x then 0 else 1
theorem sumN_y {nr i : Nat} {f : Nat → Int32} (h : i < nr) : sumN nr f i + f i = sumN nr f (i + 1) := by simp only [sumN, if_pos h]
theorem sumN_n {nr i : Nat} {f : Nat → Int32} (h : ¬ i < nr) : sumN nr f i + 0 = sumN nr f (i + 1) := by simp only [sumN, if_neg h]
set_option maxRecDepth 100000 in
set_option maxHeartbeats 4000000 in
/-- G_isWithin -/
theorem c_G_isWithin (l : Launch) (D : va_G) (cy : Nat → ClassId) (ad : Nat → Nat) (c : rC) (x a b : Int32) : rMi l D cls (TY cy) NW y_G_isWithin (Cond.code y_G_isWithin b_G_isWithin 3 rt_G_isWithin :: W0) { frames := 0, cells := 0, slots := 0, locals := 0 } [.int x, .int a, .int b] ad c (fun r ad' c' => inF x a b = r ∧ ad = ad' ∧ c = c') := by
  intro sz
  refine r_of (own := R_G) rfl (by decide +kernel) (Nat.le_of_ble_eq_true rfl) ?_
  intro p e s m below meth cd hsz X hr hlk hN hin
  refine r_lv [0, 1, 2] [(0, .int x), (1, .int a), (2, .int b)] rfl ?_
  refine r_iload_n X 0 d_G_isWithin_0 rfl rfl ?_
  refine r_iload_n X 1 d_G_isWithin_1 rfl rfl ?_
  refine r_icmp_lt X 14 d_G_isWithin_2 (by decide) (fun h_2 => ?_) (fun h_2 => ?_)
  · refine r_iconst X 0 d_G_isWithin_14 (by decide) ?_
    exact r_zret (post := fun r ad' c' => inF x a b = r ∧ ad = ad' ∧ c = c') X hr hlk (by first | decide | (split <;> decide) | assumption) d_G_isWithin_15 (by decide) (by decide) ⟨by (try simp only [inF, if_pos h_2]); first | done | rfl | exact rup_id (by assumption), rfl, rfl⟩
  · refine r_iload_n X 0 d_G_isWithin_5 rfl rfl ?_
    refine r_iload_n X 2 d_G_isWithin_6 rfl rfl ?_
    refine r_icmp_gt X 14 d_G_isWithin_7 (by decide) (fun h_7 => ?_) (fun h_7 => ?_)
    · refine r_iconst X 0 d_G_isWithin_14 (by decide) ?_
      exact r_zret (post := fun r ad' c' => inF x a b = r ∧ ad = ad' ∧ c = c') X hr hlk (by first | decide | (split <;> decide) | assumption) d_G_isWithin_15 (by decide) (by decide) ⟨by (try simp only [inF, if_neg h_2, if_pos h_7]); first | done | rfl | exact rup_id (by assumption), rfl, rfl⟩
    · refine r_iconst X 1 d_G_isWithin_10 (by decide) ?_
      refine r_goto X 15 d_G_isWithin_11 (by decide) ?_
      exact r_zret (post := fun r ad' c' => inF x a b = r ∧ ad = ad' ∧ c = c') X hr hlk (by first | decide | (split <;> decide) | assumption) d_G_isWithin_15 (by decide) (by decide) ⟨by (try simp only [inF, if_neg h_2, if_neg h_7]); first | done | rfl | exact rup_id (by assumption), rfl, rfl⟩
set_option maxRecDepth 100000 in
set_option maxHeartbeats 4000000 in
/-- G_isNode -/
theorem c_G_isNode (l : Launch) (D : va_G) (cy : Nat → ClassId) (ad : Nat → Nat) (c : rC) (x : Int32) : rMi l D cls (TY cy) NW y_G_isNode (Cond.code y_G_isNode b_G_isNode 1 rt_G_isNode :: W0) { frames := 1, cells := 0, slots := 0, locals := 22 } [.int x] ad c (fun r ad' c' => inF x 0 6 = r ∧ ad = ad' ∧ c = c') := by
  intro sz
  refine r_of (own := R_G) rfl (by decide +kernel) (Nat.le_of_ble_eq_true rfl) ?_
  intro p e s m below meth cd hsz X hr hlk hN hin
  refine r_lv [0] [(0, .int x)] rfl ?_
  refine r_iload_n X 0 d_G_isNode_0 rfl rfl ?_
  refine r_iconst X 0 d_G_isNode_1 (by decide) ?_
  refine r_bipush X 6 d_G_isNode_2 (by decide) ?_
  refine r_Si X W0_good hN (c_G_isWithin l D cy ad (c) x 0 6) ys_G_isWithin m_G_78 rfl rfl ⟨by decide, by decide⟩ (Nat.le_of_ble_eq_true rfl) ⟨by decide, by decide⟩ d_G_isNode_4 (fun r9 ad9 c9 hp9 => ?_)
  obtain ⟨rfl, rfl, rfl⟩ := hp9
  exact r_zret (post := fun r ad' c' => inF x 0 6 = r ∧ ad = ad' ∧ c = c') X hr hlk (by unfold inF; first | decide | (split <;> first | decide | (split <;> decide))) d_G_isNode_7 (by decide) (by decide) ⟨rfl, rfl, rfl⟩
set_option maxRecDepth 100000 in
set_option maxHeartbeats 4000000 in
/-- G_isAir -/
theorem c_G_isAir (l : Launch) (D : va_G) (cy : Nat → ClassId) (ad : Nat → Nat) (c : rC) (x : Int32) : rMi l D cls (TY cy) NW y_G_isAir (Cond.code y_G_isAir b_G_isAir 1 rt_G_isAir :: W0) { frames := 1, cells := 0, slots := 0, locals := 22 } [.int x] ad c (fun r ad' c' => inF x (-20) 20 = r ∧ ad = ad' ∧ c = c') := by
  intro sz
  refine r_of (own := R_G) rfl (by decide +kernel) (Nat.le_of_ble_eq_true rfl) ?_
  intro p e s m below meth cd hsz X hr hlk hN hin
  refine r_lv [0] [(0, .int x)] rfl ?_
  refine r_iload_n X 0 d_G_isAir_0 rfl rfl ?_
  refine r_bipush X (-20) d_G_isAir_1 (by decide) ?_
  refine r_bipush X 20 d_G_isAir_3 (by decide) ?_
  refine r_Si X W0_good hN (c_G_isWithin l D cy ad (c) x (-20) 20) ys_G_isWithin m_G_78 rfl rfl ⟨by decide, by decide⟩ (Nat.le_of_ble_eq_true rfl) ⟨by decide, by decide⟩ d_G_isAir_5 (fun r9 ad9 c9 hp9 => ?_)
  obtain ⟨rfl, rfl, rfl⟩ := hp9
  exact r_zret (post := fun r ad' c' => inF x (-20) 20 = r ∧ ad = ad' ∧ c = c') X hr hlk (by unfold inF; first | decide | (split <;> first | decide | (split <;> decide))) d_G_isAir_8 (by decide) (by decide) ⟨rfl, rfl, rfl⟩
set_option maxRecDepth 100000 in
set_option maxHeartbeats 4000000 in
/-- G_roadAt -/
theorem c_G_roadAt_y (l : Launch) (D : va_G) (cy : Nat → ClassId) (ad : Nat → Nat)  (S : cS) (J : jS) (hS : wfS S) (i : Nat) (hi : i < sNr S) : rMq l D cls (TY cy) NW y_G_roadAt (Cond.code y_G_roadAt b_G_roadAt 2 rt_G_roadAt :: W0) { frames := 0, cells := 0, slots := 0, locals := 0 } [.ref (ad 0), .int (nI i)] ad (cont cy ad S J) (fun r ad' c' => some (ad (16 + 4 * i)) = r ∧ ad = ad' ∧ (cont cy ad S J) = c') := by
  intro sz
  refine r_of (own := R_G) rfl (by decide +kernel) (Nat.le_of_ble_eq_true rfl) ?_
  intro p e s m below meth cd hsz X hr hlk hN hin
  have hb8 := hS.1
  refine r_lv [0, 1] [(0, .ref (ad 0)), (1, .int (nI i))] rfl ?_
  refine r_iload_n X 1 d_G_roadAt_0 rfl rfl ?_
  refine r_if_lt X 22 d_G_roadAt_1 (by decide) (fun h9 => absurd h9 (nI_pos (by omega))) (fun _ => ?_)
  refine r_iload_n X 1 d_G_roadAt_4 rfl rfl ?_
  refine r_aload_n X 0 d_G_roadAt_5 rfl rfl ?_
  refine r_get X k_G 0 (by decide) f_G_11 rfl (ct_lo (by decide)) rfl d_G_roadAt_6 ?_
  refine r_alen (v := nI 8) X 2 (ct_lo (by decide)) rfl rfl d_G_roadAt_9 ?_
  refine r_icmp_ge X 22 d_G_roadAt_10 (by decide) (fun h9 => absurd h9 (nI_ge (by omega) (by omega))) (fun _ => ?_)
  refine r_aload_n X 0 d_G_roadAt_13 rfl rfl ?_
  refine r_get X k_G 0 (by decide) f_G_11 rfl (ct_lo (by decide)) rfl d_G_roadAt_14 ?_
  refine r_iload_n X 1 d_G_roadAt_17 rfl rfl ?_
  refine r_aald (v := .ref (ad (16 + 4 * i))) X 2 (ct_lo (by decide)) rfl (vp_in_nI (by omega) (by decide)) (rRf_y (by omega) hi) d_G_roadAt_18 ?_
  refine r_goto X 23 d_G_roadAt_19 (by decide) ?_
  exact r_aret (post := fun r ad' c' => some (ad (16 + 4 * i)) = r ∧ ad = ad' ∧ (cont cy ad S J) = c') (v := some (ad (16 + 4 * i))) X hr hlk (Or.inl ⟨_, rfl⟩) rfl d_G_roadAt_23 (by decide) (by decide) ⟨rfl, rfl, rfl⟩
set_option maxRecDepth 100000 in
set_option maxHeartbeats 4000000 in
/-- G_roadAt -/
theorem c_G_roadAt_n (l : Launch) (D : va_G) (cy : Nat → ClassId) (ad : Nat → Nat)  (S : cS) (J : jS) (hS : wfS S) (x : Int32) (hx : ∀ j, j < sNr S → x ≠ nI j) : rMq l D cls (TY cy) NW y_G_roadAt (Cond.code y_G_roadAt b_G_roadAt 2 rt_G_roadAt :: W0) { frames := 0, cells := 0, slots := 0, locals := 0 } [.ref (ad 0), .int x] ad (cont cy ad S J) (fun r ad' c' => none = r ∧ ad = ad' ∧ (cont cy ad S J) = c') := by
  intro sz
  refine r_of (own := R_G) rfl (by decide +kernel) (Nat.le_of_ble_eq_true rfl) ?_
  intro p e s m below meth cd hsz X hr hlk hN hin
  have hb8 := hS.1
  refine r_lv [0, 1] [(0, .ref (ad 0)), (1, .int x)] rfl ?_
  have hv9 : ∀ hx0 : ¬ x < 0, va_rf (rRf ad (sNr S) x.toNatClampNeg) = .null := fun hx0 => by
    rcases pk_ix x (n := sNr S) (by omega) with h | h | ⟨j, hj, hxj⟩
    · exact absurd h hx0
    · obtain ⟨j, hj, rfl⟩ := nI_of hx0
      exact rRf_n hj (fun h9 => absurd h (nI_ge h9 (by omega)))
    · exact absurd hxj (hx j hj)
  refine r_iload_n X 1 d_G_roadAt_0 rfl rfl ?_
  refine r_if_lt X 22 d_G_roadAt_1 (by decide) (fun h_1 => ?_) (fun h_1 => ?_)
  · refine r_null X d_G_roadAt_22 ?_
    exact r_aret (post := fun r ad' c' => none = r ∧ ad = ad' ∧ (cont cy ad S J) = c') (v := none) X hr hlk (Or.inl ⟨_, rfl⟩) rfl d_G_roadAt_23 (by decide) (by decide) ⟨rfl, rfl, rfl⟩
  · refine r_iload_n X 1 d_G_roadAt_4 rfl rfl ?_
    refine r_aload_n X 0 d_G_roadAt_5 rfl rfl ?_
    refine r_get X k_G 0 (by decide) f_G_11 rfl (ct_lo (by decide)) rfl d_G_roadAt_6 ?_
    refine r_alen (v := nI 8) X 2 (ct_lo (by decide)) rfl rfl d_G_roadAt_9 ?_
    refine r_icmp_ge X 22 d_G_roadAt_10 (by decide) (fun h_10 => ?_) (fun h_10 => ?_)
    · refine r_null X d_G_roadAt_22 ?_
      exact r_aret (post := fun r ad' c' => none = r ∧ ad = ad' ∧ (cont cy ad S J) = c') (v := none) X hr hlk (Or.inl ⟨_, rfl⟩) rfl d_G_roadAt_23 (by decide) (by decide) ⟨rfl, rfl, rfl⟩
    · refine r_aload_n X 0 d_G_roadAt_13 rfl rfl ?_
      refine r_get X k_G 0 (by decide) f_G_11 rfl (ct_lo (by decide)) rfl d_G_roadAt_14 ?_
      refine r_iload_n X 1 d_G_roadAt_17 rfl rfl ?_
      refine r_aald (v := .null) X 2 (ct_lo (by decide)) rfl (r_vin (by decide) h_1 h_10) (hv9 h_1) d_G_roadAt_18 ?_
      refine r_goto X 23 d_G_roadAt_19 (by decide) ?_
      exact r_aret (post := fun r ad' c' => none = r ∧ ad = ad' ∧ (cont cy ad S J) = c') (v := none) X hr hlk (Or.inl ⟨_, rfl⟩) rfl d_G_roadAt_23 (by decide) (by decide) ⟨rfl, rfl, rfl⟩
set_option maxRecDepth 100000 in
set_option maxHeartbeats 4000000 in
/-- G_lorryAt -/
theorem c_G_lorryAt_y (l : Launch) (D : va_G) (cy : Nat → ClassId) (ad : Nat → Nat)  (S : cS) (J : jS) (hS : wfS S) (i : Nat) (hi : i < sNl S) : rMq l D cls (TY cy) NW y_G_lorryAt (Cond.code y_G_lorryAt b_G_lorryAt 2 rt_G_lorryAt :: W0) { frames := 0, cells := 0, slots := 0, locals := 0 } [.ref (ad 0), .int (nI i)] ad (cont cy ad S J) (fun r ad' c' => some (ad (48 + 2 * i)) = r ∧ ad = ad' ∧ (cont cy ad S J) = c') := by
  intro sz
  refine r_of (own := R_G) rfl (by decide +kernel) (Nat.le_of_ble_eq_true rfl) ?_
  intro p e s m below meth cd hsz X hr hlk hN hin
  have hb8 := hS.2.1
  refine r_lv [0, 1] [(0, .ref (ad 0)), (1, .int (nI i))] rfl ?_
  refine r_iload_n X 1 d_G_lorryAt_0 rfl rfl ?_
  refine r_if_lt X 22 d_G_lorryAt_1 (by decide) (fun h9 => absurd h9 (nI_pos (by omega))) (fun _ => ?_)
  refine r_iload_n X 1 d_G_lorryAt_4 rfl rfl ?_
  refine r_aload_n X 0 d_G_lorryAt_5 rfl rfl ?_
  refine r_get X k_G 1 (by decide) f_G_17 rfl (ct_lo (by decide)) rfl d_G_lorryAt_6 ?_
  refine r_alen (v := nI 3) X 3 (ct_lo (by decide)) rfl rfl d_G_lorryAt_9 ?_
  refine r_icmp_ge X 22 d_G_lorryAt_10 (by decide) (fun h9 => absurd h9 (nI_ge (by omega) (by omega))) (fun _ => ?_)
  refine r_aload_n X 0 d_G_lorryAt_13 rfl rfl ?_
  refine r_get X k_G 1 (by decide) f_G_17 rfl (ct_lo (by decide)) rfl d_G_lorryAt_14 ?_
  refine r_iload_n X 1 d_G_lorryAt_17 rfl rfl ?_
  refine r_aald (v := .ref (ad (48 + 2 * i))) X 3 (ct_lo (by decide)) rfl (vp_in_nI (by omega) (by decide)) (lRf_y (by omega) hi) d_G_lorryAt_18 ?_
  refine r_goto X 23 d_G_lorryAt_19 (by decide) ?_
  exact r_aret (post := fun r ad' c' => some (ad (48 + 2 * i)) = r ∧ ad = ad' ∧ (cont cy ad S J) = c') (v := some (ad (48 + 2 * i))) X hr hlk (Or.inl ⟨_, rfl⟩) rfl d_G_lorryAt_23 (by decide) (by decide) ⟨rfl, rfl, rfl⟩
set_option maxRecDepth 100000 in
set_option maxHeartbeats 4000000 in
/-- G_lorryAt -/
theorem c_G_lorryAt_n (l : Launch) (D : va_G) (cy : Nat → ClassId) (ad : Nat → Nat)  (S : cS) (J : jS) (hS : wfS S) (x : Int32) (hx : ∀ j, j < sNl S → x ≠ nI j) : rMq l D cls (TY cy) NW y_G_lorryAt (Cond.code y_G_lorryAt b_G_lorryAt 2 rt_G_lorryAt :: W0) { frames := 0, cells := 0, slots := 0, locals := 0 } [.ref (ad 0), .int x] ad (cont cy ad S J) (fun r ad' c' => none = r ∧ ad = ad' ∧ (cont cy ad S J) = c') := by
  intro sz
  refine r_of (own := R_G) rfl (by decide +kernel) (Nat.le_of_ble_eq_true rfl) ?_
  intro p e s m below meth cd hsz X hr hlk hN hin
  have hb8 := hS.2.1
  refine r_lv [0, 1] [(0, .ref (ad 0)), (1, .int x)] rfl ?_
  have hv9 : ∀ hx0 : ¬ x < 0, va_rf (lRf ad (sNl S) x.toNatClampNeg) = .null := fun hx0 => by
    rcases pk_ix x (n := sNl S) (by omega) with h | h | ⟨j, hj, hxj⟩
    · exact absurd h hx0
    · obtain ⟨j, hj, rfl⟩ := nI_of hx0
      exact lRf_n hj (fun h9 => absurd h (nI_ge h9 (by omega)))
    · exact absurd hxj (hx j hj)
  refine r_iload_n X 1 d_G_lorryAt_0 rfl rfl ?_
  refine r_if_lt X 22 d_G_lorryAt_1 (by decide) (fun h_1 => ?_) (fun h_1 => ?_)
  · refine r_null X d_G_lorryAt_22 ?_
    exact r_aret (post := fun r ad' c' => none = r ∧ ad = ad' ∧ (cont cy ad S J) = c') (v := none) X hr hlk (Or.inl ⟨_, rfl⟩) rfl d_G_lorryAt_23 (by decide) (by decide) ⟨rfl, rfl, rfl⟩
  · refine r_iload_n X 1 d_G_lorryAt_4 rfl rfl ?_
    refine r_aload_n X 0 d_G_lorryAt_5 rfl rfl ?_
    refine r_get X k_G 1 (by decide) f_G_17 rfl (ct_lo (by decide)) rfl d_G_lorryAt_6 ?_
    refine r_alen (v := nI 3) X 3 (ct_lo (by decide)) rfl rfl d_G_lorryAt_9 ?_
    refine r_icmp_ge X 22 d_G_lorryAt_10 (by decide) (fun h_10 => ?_) (fun h_10 => ?_)
    · refine r_null X d_G_lorryAt_22 ?_
      exact r_aret (post := fun r ad' c' => none = r ∧ ad = ad' ∧ (cont cy ad S J) = c') (v := none) X hr hlk (Or.inl ⟨_, rfl⟩) rfl d_G_lorryAt_23 (by decide) (by decide) ⟨rfl, rfl, rfl⟩
    · refine r_aload_n X 0 d_G_lorryAt_13 rfl rfl ?_
      refine r_get X k_G 1 (by decide) f_G_17 rfl (ct_lo (by decide)) rfl d_G_lorryAt_14 ?_
      refine r_iload_n X 1 d_G_lorryAt_17 rfl rfl ?_
      refine r_aald (v := .null) X 3 (ct_lo (by decide)) rfl (r_vin (by decide) h_1 h_10) (hv9 h_1) d_G_lorryAt_18 ?_
      refine r_goto X 23 d_G_lorryAt_19 (by decide) ?_
      exact r_aret (post := fun r ad' c' => none = r ∧ ad = ad' ∧ (cont cy ad S J) = c') (v := none) X hr hlk (Or.inl ⟨_, rfl⟩) rfl d_G_lorryAt_23 (by decide) (by decide) ⟨rfl, rfl, rfl⟩
set_option maxRecDepth 100000 in
set_option maxHeartbeats 4000000 in
/-- G_numberAt -/
theorem c_G_numberAt (l : Launch) (D : va_G) (cy : Nat → ClassId) (ad : Nat → Nat) (c : rC) (k N : Nat) (hNN : N < 2 ^ 31) (f : Nat → Int32) (hk : c k = some (.inl (cy 0, N, .inl f))) (x : Int32) : rMi l D cls (TY cy) NW y_G_numberAt (Cond.code y_G_numberAt b_G_numberAt 2 rt_G_numberAt :: W0) { frames := 0, cells := 0, slots := 0, locals := 0 } [.ref (ad k), .int x] ad c (fun r ad' c' => numA N f x = r ∧ ad = ad' ∧ c = c') := by
  intro sz
  refine r_of (own := R_G) rfl (by decide +kernel) (Nat.le_of_ble_eq_true rfl) ?_
  intro p e s m below meth cd hsz X hr hlk hN hin
  refine r_lv [0, 1] [(0, .ref (ad k)), (1, .int x)] rfl ?_
  refine r_iload_n X 1 d_G_numberAt_0 rfl rfl ?_
  refine r_if_lt X 16 d_G_numberAt_1 (by decide) (fun h_1 => ?_) (fun h_1 => ?_)
  · refine r_ldcw X q_G_278 d_G_numberAt_16 ?_
    exact r_iret (post := fun r ad' c' => numA N f x = r ∧ ad = ad' ∧ c = c') X hr hlk d_G_numberAt_19 (by decide) (by decide) ⟨by (try simp only [numA, farK, if_pos h_1]); first | done | rfl | exact rup_id (by assumption), rfl, rfl⟩
  · refine r_iload_n X 1 d_G_numberAt_4 rfl rfl ?_
    refine r_aload_n X 0 d_G_numberAt_5 rfl rfl ?_
    refine r_alen (v := nI N) X 0 hk rfl rfl d_G_numberAt_6 ?_
    refine r_icmp_ge X 16 d_G_numberAt_7 (by decide) (fun h_7 => ?_) (fun h_7 => ?_)
    · refine r_ldcw X q_G_278 d_G_numberAt_16 ?_
      exact r_iret (post := fun r ad' c' => numA N f x = r ∧ ad = ad' ∧ c = c') X hr hlk d_G_numberAt_19 (by decide) (by decide) ⟨by (try simp only [numA, farK, if_neg h_1, if_pos h_7]); first | done | rfl | exact rup_id (by assumption), rfl, rfl⟩
    · refine r_aload_n X 0 d_G_numberAt_10 rfl rfl ?_
      refine r_iload_n X 1 d_G_numberAt_11 rfl rfl ?_
      refine r_iald (v := f x.toNatClampNeg) X 0 hk rfl (r_vin hNN h_1 h_7) rfl d_G_numberAt_12 ?_
      refine r_goto X 19 d_G_numberAt_13 (by decide) ?_
      exact r_iret (post := fun r ad' c' => numA N f x = r ∧ ad = ad' ∧ c = c') X hr hlk d_G_numberAt_19 (by decide) (by decide) ⟨by (try simp only [numA, farK, if_neg h_1, if_neg h_7]); first | done | rfl | exact rup_id (by assumption), rfl, rfl⟩
set_option maxRecDepth 100000 in
set_option maxHeartbeats 4000000 in
/-- G_lower -/
theorem c_G_lower (l : Launch) (D : va_G) (cy : Nat → ClassId) (ad : Nat → Nat) (c : rC) (k N : Nat) (hNN : N < 2 ^ 31) (f : Nat → Int32) (hk : c k = some (.inl (cy 0, N, .inl f))) (i x : Int32) : rMv l D cls (TY cy) NW y_G_lower (Cond.code y_G_lower b_G_lower 3 rt_G_lower :: W0) { frames := 0, cells := 0, slots := 0, locals := 0 } [.ref (ad k), .int i, .int x] ad c (fun ad' c' => ad = ad' ∧ va_up c k (some (.inl (cy 0, N, .inl (lowA N f i x)))) = c') := by
  intro sz
  refine r_of (own := R_G) rfl (by decide +kernel) (Nat.le_of_ble_eq_true rfl) ?_
  intro p e s m below meth cd hsz X hr hlk hN hin
  refine r_lv [0, 1, 2] [(0, .ref (ad k)), (1, .int i), (2, .int x)] rfl ?_
  refine r_iload_n X 1 d_G_lower_0 rfl rfl ?_
  refine r_if_lt X 21 d_G_lower_1 (by decide) (fun h_1 => ?_) (fun h_1 => ?_)
  · exact r_vret (post := fun ad' c' => ad = ad' ∧ va_up c k (some (.inl (cy 0, N, .inl (lowA N f i x)))) = c') X hr hlk d_G_lower_21 (by decide) (by decide) ⟨rfl, by (try simp only [lowA, if_pos h_1]); first | done | rfl | exact rup_id (by assumption)⟩
  · refine r_iload_n X 1 d_G_lower_4 rfl rfl ?_
    refine r_aload_n X 0 d_G_lower_5 rfl rfl ?_
    refine r_alen (v := nI N) X 0 hk rfl rfl d_G_lower_6 ?_
    refine r_icmp_ge X 21 d_G_lower_7 (by decide) (fun h_7 => ?_) (fun h_7 => ?_)
    · exact r_vret (post := fun ad' c' => ad = ad' ∧ va_up c k (some (.inl (cy 0, N, .inl (lowA N f i x)))) = c') X hr hlk d_G_lower_21 (by decide) (by decide) ⟨rfl, by (try simp only [lowA, if_neg h_1, if_pos h_7]); first | done | rfl | exact rup_id (by assumption)⟩
    · refine r_iload_n X 2 d_G_lower_10 rfl rfl ?_
      refine r_aload_n X 0 d_G_lower_11 rfl rfl ?_
      refine r_iload_n X 1 d_G_lower_12 rfl rfl ?_
      refine r_iald (v := f i.toNatClampNeg) X 0 hk rfl (r_vin hNN h_1 h_7) rfl d_G_lower_13 ?_
      refine r_icmp_ge X 21 d_G_lower_14 (by decide) (fun h_14 => ?_) (fun h_14 => ?_)
      · exact r_vret (post := fun ad' c' => ad = ad' ∧ va_up c k (some (.inl (cy 0, N, .inl (lowA N f i x)))) = c') X hr hlk d_G_lower_21 (by decide) (by decide) ⟨rfl, by (try simp only [lowA, if_neg h_1, if_neg h_7, if_pos h_14]); first | done | rfl | exact rup_id (by assumption)⟩
      · refine r_aload_n X 0 d_G_lower_17 rfl rfl ?_
        refine r_iload_n X 1 d_G_lower_18 rfl rfl ?_
        refine r_iload_n X 2 d_G_lower_19 rfl rfl ?_
        refine r_iast X 0 hk rfl (r_vin hNN h_1 h_7) rfl (va_up c k (some (.inl (cy 0, N, .inl (upd f i.toNatClampNeg x))))) rfl d_G_lower_20 ?_
        exact r_vret (post := fun ad' c' => ad = ad' ∧ va_up c k (some (.inl (cy 0, N, .inl (lowA N f i x)))) = c') X hr hlk d_G_lower_21 (by decide) (by decide) ⟨rfl, by (try simp only [lowA, if_neg h_1, if_neg h_7, if_neg h_14]); first | done | rfl | exact rup_id (by assumption)⟩
set_option maxRecDepth 100000 in
set_option maxHeartbeats 4000000 in
/-- G_saltInHoppers -/
theorem c_G_saltInHoppers (l : Launch) (D : va_G) (cy : Nat → ClassId) (ad : Nat → Nat)  (S : cS) (J : jS) (hS : wfS S) : rMi l D cls (TY cy) NW y_G_saltInHoppers (Cond.code y_G_saltInHoppers b_G_saltInHoppers 6 rt_G_saltInHoppers :: W0) { frames := 0, cells := 0, slots := 0, locals := 0 } [.ref (ad 0)] ad (cont cy ad S J) (fun r ad' c' => sumN (sNl S) (fun q9 => (sLo S q9).2.2.2.2.2.1) 3 = r ∧ ad = ad' ∧ (cont cy ad S J) = c') := by
  intro sz
  refine r_of (own := R_G) rfl (by decide +kernel) (Nat.le_of_ble_eq_true rfl) ?_
  intro p e s m below meth cd hsz X hr hlk hN hin
  refine r_lv [0] [(0, .ref (ad 0))] rfl ?_
  refine r_iconst X 0 d_G_saltInHoppers_0 (by decide) ?_
  refine r_istore_n X [(1, .int 0), (0, .ref (ad 0))] d_G_saltInHoppers_1 rfl (by decide) rfl ?_
  refine r_aload_n X 1 d_G_saltInHoppers_2 rfl rfl ?_
  refine r_get X k_G 1 (by decide) f_G_17 rfl (ct_lo (by decide)) rfl d_G_saltInHoppers_3 ?_
  refine r_astore_n X [(2, .ref (ad 2)), (1, .int 0), (0, .ref (ad 0))] d_G_saltInHoppers_6 rfl (by decide) rfl ?_
  refine r_aload_n X 0 d_G_saltInHoppers_7 rfl rfl ?_
  refine r_alen (v := nI 3) X 3 (ct_lo (by decide)) rfl rfl d_G_saltInHoppers_8 ?_
  refine r_istore_n X [(3, .int (nI 3)), (2, .ref (ad 2)), (1, .int 0), (0, .ref (ad 0))] d_G_saltInHoppers_9 rfl (by decide) rfl ?_
  refine r_iconst X 0 d_G_saltInHoppers_10 (by decide) ?_
  refine r_istore X [(4, .int 0), (3, .int (nI 3)), (2, .ref (ad 2)), (1, .int 0), (0, .ref (ad 0))] d_G_saltInHoppers_11 (by decide) rfl ?_
  refine r_lv [4, 3, 2, 1, 0] [(0, .ref (ad 0)), (1, .int (sumN (sNl S) (fun q9 => (sLo S q9).2.2.2.2.2.1) 0)), (2, .ref (ad 2)), (3, .int (nI 3)), (4, .int (nI 0))] rfl ?_
  refine r_at (r_loop (σ := Nat) (fun f9 i => i ≤ 3 ∧ i + f9 = 3 + 1) (fun i => cont cy ad S J) 13 (fun i => [(0, .ref (ad 0)), (1, .int (sumN (sNl S) (fun q9 => (sLo S q9).2.2.2.2.2.1) i)), (2, .ref (ad 2)), (3, .int (nI 3)), (4, .int (nI i))]) (fun _ => []) (fun i h => by have h1 := h.1; have h2 := h.2; omega) (fun f9 i ih_i hI => ?_) (3 + 1 - 0) 0 ⟨by omega, by omega⟩) rfl rfl rfl rfl
  obtain ⟨hi8, hi9⟩ := hI
  refine r_iload X 4 d_G_saltInHoppers_13 rfl ?_
  refine r_iload_n X 3 d_G_saltInHoppers_15 rfl rfl ?_
  refine r_icmp_ge X 48 d_G_saltInHoppers_16 (by decide) (fun h_16 => ?_) (fun h_16 => ?_)
  · have hi : 3 = i := by
      rcases Nat.lt_or_ge i 3 with h | h
      · exact absurd h_16 (nI_ge (by omega) (by omega))
      · omega
    subst hi
    refine r_iload_n X 1 d_G_saltInHoppers_48 rfl rfl ?_
    exact r_iret (post := fun r ad' c' => sumN (sNl S) (fun q9 => (sLo S q9).2.2.2.2.2.1) 3 = r ∧ ad = ad' ∧ (cont cy ad S J) = c') X hr hlk d_G_saltInHoppers_49 (by decide) (by decide) ⟨by (try simp only []); first | done | rfl | exact rup_id (by assumption), rfl, rfl⟩
  · have hi : i < 3 := by
      rcases Nat.lt_or_ge i 3 with h | h
      · exact h
      · exact absurd (nI_le (by omega) (by omega)) h_16
    refine r_aload_n X 2 d_G_saltInHoppers_19 rfl rfl ?_
    refine r_iload X 4 d_G_saltInHoppers_20 rfl ?_
    by_cases hr : i < sNl S
    · refine r_aald (v := .ref (ad (48 + 2 * i))) X 3 (ct_lo (by decide)) rfl (vp_in_nI hi (by decide)) (lRf_y (by omega) hr) d_G_saltInHoppers_22 ?_
      refine r_astore X [(5, .ref (ad (48 + 2 * i))), (0, .ref (ad 0)), (1, .int (sumN (sNl S) (fun q9 => (sLo S q9).2.2.2.2.2.1) i)), (2, .ref (ad 2)), (3, .int (nI 3)), (4, .int (nI i))] d_G_saltInHoppers_23 (by decide) rfl ?_
      refine r_iload_n X 2 d_G_saltInHoppers_25 rfl rfl ?_
      refine r_aload X 0 d_G_saltInHoppers_26 rfl ?_
      refine r_ifnonnull X 35 d_G_saltInHoppers_28 (by decide) ?_
      refine r_aload X 0 d_G_saltInHoppers_35 rfl ?_
      refine r_get X k_Lor 6 (by decide) f_G_194 rfl (ct_lor hS.2.1 hr) rfl d_G_saltInHoppers_37 ?_
      refine r_iadd X d_G_saltInHoppers_40 ?_
      refine r_top (y := sumN (sNl S) (fun q9 => (sLo S q9).2.2.2.2.2.1) (i + 1)) (sumN_y (f := fun q9 => (sLo S q9).2.2.2.2.2.1) hr) ?_
      refine r_istore_n X [(1, .int (sumN (sNl S) (fun q9 => (sLo S q9).2.2.2.2.2.1) (i + 1))), (5, .ref (ad (48 + 2 * i))), (0, .ref (ad 0)), (2, .ref (ad 2)), (3, .int (nI 3)), (4, .int (nI i))] d_G_saltInHoppers_41 rfl (by decide) rfl ?_
      refine r_iinc X 5 [(4, .int (nI (i + 1))), (1, .int (sumN (sNl S) (fun q9 => (sLo S q9).2.2.2.2.2.1) (i + 1))), (5, .ref (ad (48 + 2 * i))), (0, .ref (ad 0)), (2, .ref (ad 2)), (3, .int (nI 3))] d_G_saltInHoppers_42 rfl (nI_1 i) (by decide) rfl ?_
      refine r_goto X 13 d_G_saltInHoppers_45 (by decide) ?_
      refine r_lv [3, 1, 4, 5, 0] [(0, .ref (ad 0)), (1, .int (sumN (sNl S) (fun q9 => (sLo S q9).2.2.2.2.2.1) (i + 1))), (2, .ref (ad 2)), (3, .int (nI 3)), (4, .int (nI (i + 1)))] rfl ?_
      exact ih_i (i + 1) ⟨by omega, by omega⟩
    · refine r_aald (v := .null) X 3 (ct_lo (by decide)) rfl (vp_in_nI hi (by decide)) (lRf_n (by omega) hr) d_G_saltInHoppers_22 ?_
      refine r_astoreN X [(5, .null), (0, .ref (ad 0)), (1, .int (sumN (sNl S) (fun q9 => (sLo S q9).2.2.2.2.2.1) i)), (2, .ref (ad 2)), (3, .int (nI 3)), (4, .int (nI i))] d_G_saltInHoppers_23 (by decide) rfl ?_
      refine r_iload_n X 2 d_G_saltInHoppers_25 rfl rfl ?_
      refine r_aloadN X 0 d_G_saltInHoppers_26 rfl ?_
      refine r_ifnonnullN X d_G_saltInHoppers_28 ?_
      refine r_iconst X 0 d_G_saltInHoppers_31 (by decide) ?_
      refine r_goto X 40 d_G_saltInHoppers_32 (by decide) ?_
      refine r_iadd X d_G_saltInHoppers_40 ?_
      refine r_top (y := sumN (sNl S) (fun q9 => (sLo S q9).2.2.2.2.2.1) (i + 1)) (sumN_n (f := fun q9 => (sLo S q9).2.2.2.2.2.1) hr) ?_
      refine r_istore_n X [(1, .int (sumN (sNl S) (fun q9 => (sLo S q9).2.2.2.2.2.1) (i + 1))), (5, .null), (0, .ref (ad 0)), (2, .ref (ad 2)), (3, .int (nI 3)), (4, .int (nI i))] d_G_saltInHoppers_41 rfl (by decide) rfl ?_
      refine r_iinc X 5 [(4, .int (nI (i + 1))), (1, .int (sumN (sNl S) (fun q9 => (sLo S q9).2.2.2.2.2.1) (i + 1))), (5, .null), (0, .ref (ad 0)), (2, .ref (ad 2)), (3, .int (nI 3))] d_G_saltInHoppers_42 rfl (nI_1 i) (by decide) rfl ?_
      refine r_goto X 13 d_G_saltInHoppers_45 (by decide) ?_
      refine r_lv [3, 1, 4, 5, 0] [(0, .ref (ad 0)), (1, .int (sumN (sNl S) (fun q9 => (sLo S q9).2.2.2.2.2.1) (i + 1))), (2, .ref (ad 2)), (3, .int (nI 3)), (4, .int (nI (i + 1)))] rfl ?_
      exact ih_i (i + 1) ⟨by omega, by omega⟩
set_option maxRecDepth 100000 in
set_option maxHeartbeats 4000000 in
/-- G_saltOnRoads -/
theorem c_G_saltOnRoads (l : Launch) (D : va_G) (cy : Nat → ClassId) (ad : Nat → Nat)  (S : cS) (J : jS) (hS : wfS S) : rMi l D cls (TY cy) NW y_G_saltOnRoads (Cond.code y_G_saltOnRoads b_G_saltOnRoads 6 rt_G_saltOnRoads :: W0) { frames := 0, cells := 0, slots := 0, locals := 0 } [.ref (ad 0)] ad (cont cy ad S J) (fun r ad' c' => sumN (sNr S) (fun q9 => (sSf S q9).2.2.2.2.1) 8 = r ∧ ad = ad' ∧ (cont cy ad S J) = c') := by
  intro sz
  refine r_of (own := R_G) rfl (by decide +kernel) (Nat.le_of_ble_eq_true rfl) ?_
  intro p e s m below meth cd hsz X hr hlk hN hin
  refine r_lv [0] [(0, .ref (ad 0))] rfl ?_
  refine r_iconst X 0 d_G_saltOnRoads_0 (by decide) ?_
  refine r_istore_n X [(1, .int 0), (0, .ref (ad 0))] d_G_saltOnRoads_1 rfl (by decide) rfl ?_
  refine r_aload_n X 1 d_G_saltOnRoads_2 rfl rfl ?_
  refine r_get X k_G 0 (by decide) f_G_11 rfl (ct_lo (by decide)) rfl d_G_saltOnRoads_3 ?_
  refine r_astore_n X [(2, .ref (ad 1)), (1, .int 0), (0, .ref (ad 0))] d_G_saltOnRoads_6 rfl (by decide) rfl ?_
  refine r_aload_n X 0 d_G_saltOnRoads_7 rfl rfl ?_
  refine r_alen (v := nI 8) X 2 (ct_lo (by decide)) rfl rfl d_G_saltOnRoads_8 ?_
  refine r_istore_n X [(3, .int (nI 8)), (2, .ref (ad 1)), (1, .int 0), (0, .ref (ad 0))] d_G_saltOnRoads_9 rfl (by decide) rfl ?_
  refine r_iconst X 0 d_G_saltOnRoads_10 (by decide) ?_
  refine r_istore X [(4, .int 0), (3, .int (nI 8)), (2, .ref (ad 1)), (1, .int 0), (0, .ref (ad 0))] d_G_saltOnRoads_11 (by decide) rfl ?_
  refine r_lv [4, 3, 2, 1, 0] [(0, .ref (ad 0)), (1, .int (sumN (sNr S) (fun q9 => (sSf S q9).2.2.2.2.1) 0)), (2, .ref (ad 1)), (3, .int (nI 8)), (4, .int (nI 0))] rfl ?_
  refine r_at (r_loop (σ := Nat) (fun f9 i => i ≤ 8 ∧ i + f9 = 8 + 1) (fun i => cont cy ad S J) 13 (fun i => [(0, .ref (ad 0)), (1, .int (sumN (sNr S) (fun q9 => (sSf S q9).2.2.2.2.1) i)), (2, .ref (ad 1)), (3, .int (nI 8)), (4, .int (nI i))]) (fun _ => []) (fun i h => by have h1 := h.1; have h2 := h.2; omega) (fun f9 i ih_i hI => ?_) (8 + 1 - 0) 0 ⟨by omega, by omega⟩) rfl rfl rfl rfl
  obtain ⟨hi8, hi9⟩ := hI
  refine r_iload X 4 d_G_saltOnRoads_13 rfl ?_
  refine r_iload_n X 3 d_G_saltOnRoads_15 rfl rfl ?_
  refine r_icmp_ge X 51 d_G_saltOnRoads_16 (by decide) (fun h_16 => ?_) (fun h_16 => ?_)
  · have hi : 8 = i := by
      rcases Nat.lt_or_ge i 8 with h | h
      · exact absurd h_16 (nI_ge (by omega) (by omega))
      · omega
    subst hi
    refine r_iload_n X 1 d_G_saltOnRoads_51 rfl rfl ?_
    exact r_iret (post := fun r ad' c' => sumN (sNr S) (fun q9 => (sSf S q9).2.2.2.2.1) 8 = r ∧ ad = ad' ∧ (cont cy ad S J) = c') X hr hlk d_G_saltOnRoads_52 (by decide) (by decide) ⟨by (try simp only []); first | done | rfl | exact rup_id (by assumption), rfl, rfl⟩
  · have hi : i < 8 := by
      rcases Nat.lt_or_ge i 8 with h | h
      · exact h
      · exact absurd (nI_le (by omega) (by omega)) h_16
    refine r_aload_n X 2 d_G_saltOnRoads_19 rfl rfl ?_
    refine r_iload X 4 d_G_saltOnRoads_20 rfl ?_
    by_cases hr : i < sNr S
    · refine r_aald (v := .ref (ad (16 + 4 * i))) X 2 (ct_lo (by decide)) rfl (vp_in_nI hi (by decide)) (rRf_y (by omega) hr) d_G_saltOnRoads_22 ?_
      refine r_astore X [(5, .ref (ad (16 + 4 * i))), (0, .ref (ad 0)), (1, .int (sumN (sNr S) (fun q9 => (sSf S q9).2.2.2.2.1) i)), (2, .ref (ad 1)), (3, .int (nI 8)), (4, .int (nI i))] d_G_saltOnRoads_23 (by decide) rfl ?_
      refine r_iload_n X 2 d_G_saltOnRoads_25 rfl rfl ?_
      refine r_aload X 0 d_G_saltOnRoads_26 rfl ?_
      refine r_ifnonnull X 35 d_G_saltOnRoads_28 (by decide) ?_
      refine r_aload X 0 d_G_saltOnRoads_35 rfl ?_
      refine r_get X k_Road 7 (by decide) f_G_245 rfl (ct_road hS.1 hr) rfl d_G_saltOnRoads_37 ?_
      refine r_get X k_Surf 4 (by decide) f_G_324 rfl (ct_surf hS.1 hr) rfl d_G_saltOnRoads_40 ?_
      refine r_iadd X d_G_saltOnRoads_43 ?_
      refine r_top (y := sumN (sNr S) (fun q9 => (sSf S q9).2.2.2.2.1) (i + 1)) (sumN_y (f := fun q9 => (sSf S q9).2.2.2.2.1) hr) ?_
      refine r_istore_n X [(1, .int (sumN (sNr S) (fun q9 => (sSf S q9).2.2.2.2.1) (i + 1))), (5, .ref (ad (16 + 4 * i))), (0, .ref (ad 0)), (2, .ref (ad 1)), (3, .int (nI 8)), (4, .int (nI i))] d_G_saltOnRoads_44 rfl (by decide) rfl ?_
      refine r_iinc X 5 [(4, .int (nI (i + 1))), (1, .int (sumN (sNr S) (fun q9 => (sSf S q9).2.2.2.2.1) (i + 1))), (5, .ref (ad (16 + 4 * i))), (0, .ref (ad 0)), (2, .ref (ad 1)), (3, .int (nI 8))] d_G_saltOnRoads_45 rfl (nI_1 i) (by decide) rfl ?_
      refine r_goto X 13 d_G_saltOnRoads_48 (by decide) ?_
      refine r_lv [3, 1, 4, 5, 0] [(0, .ref (ad 0)), (1, .int (sumN (sNr S) (fun q9 => (sSf S q9).2.2.2.2.1) (i + 1))), (2, .ref (ad 1)), (3, .int (nI 8)), (4, .int (nI (i + 1)))] rfl ?_
      exact ih_i (i + 1) ⟨by omega, by omega⟩
    · refine r_aald (v := .null) X 2 (ct_lo (by decide)) rfl (vp_in_nI hi (by decide)) (rRf_n (by omega) hr) d_G_saltOnRoads_22 ?_
      refine r_astoreN X [(5, .null), (0, .ref (ad 0)), (1, .int (sumN (sNr S) (fun q9 => (sSf S q9).2.2.2.2.1) i)), (2, .ref (ad 1)), (3, .int (nI 8)), (4, .int (nI i))] d_G_saltOnRoads_23 (by decide) rfl ?_
      refine r_iload_n X 2 d_G_saltOnRoads_25 rfl rfl ?_
      refine r_aloadN X 0 d_G_saltOnRoads_26 rfl ?_
      refine r_ifnonnullN X d_G_saltOnRoads_28 ?_
      refine r_iconst X 0 d_G_saltOnRoads_31 (by decide) ?_
      refine r_goto X 43 d_G_saltOnRoads_32 (by decide) ?_
      refine r_iadd X d_G_saltOnRoads_43 ?_
      refine r_top (y := sumN (sNr S) (fun q9 => (sSf S q9).2.2.2.2.1) (i + 1)) (sumN_n (f := fun q9 => (sSf S q9).2.2.2.2.1) hr) ?_
      refine r_istore_n X [(1, .int (sumN (sNr S) (fun q9 => (sSf S q9).2.2.2.2.1) (i + 1))), (5, .null), (0, .ref (ad 0)), (2, .ref (ad 1)), (3, .int (nI 8)), (4, .int (nI i))] d_G_saltOnRoads_44 rfl (by decide) rfl ?_
      refine r_iinc X 5 [(4, .int (nI (i + 1))), (1, .int (sumN (sNr S) (fun q9 => (sSf S q9).2.2.2.2.1) (i + 1))), (5, .null), (0, .ref (ad 0)), (2, .ref (ad 1)), (3, .int (nI 8))] d_G_saltOnRoads_45 rfl (nI_1 i) (by decide) rfl ?_
      refine r_goto X 13 d_G_saltOnRoads_48 (by decide) ?_
      refine r_lv [3, 1, 4, 5, 0] [(0, .ref (ad 0)), (1, .int (sumN (sNr S) (fun q9 => (sSf S q9).2.2.2.2.1) (i + 1))), (2, .ref (ad 1)), (3, .int (nI 8)), (4, .int (nI (i + 1)))] rfl ?_
      exact ih_i (i + 1) ⟨by omega, by omega⟩
set_option maxRecDepth 100000 in
set_option maxHeartbeats 4000000 in
/-- G_saltInRiver -/
theorem c_G_saltInRiver (l : Launch) (D : va_G) (cy : Nat → ClassId) (ad : Nat → Nat)  (S : cS) (J : jS) (hS : wfS S) : rMi l D cls (TY cy) NW y_G_saltInRiver (Cond.code y_G_saltInRiver b_G_saltInRiver 6 rt_G_saltInRiver :: W0) { frames := 0, cells := 0, slots := 0, locals := 0 } [.ref (ad 0)] ad (cont cy ad S J) (fun r ad' c' => sumN (sNr S) (fun q9 => (sSf S q9).2.2.2.2.2.1) 8 = r ∧ ad = ad' ∧ (cont cy ad S J) = c') := by
  intro sz
  refine r_of (own := R_G) rfl (by decide +kernel) (Nat.le_of_ble_eq_true rfl) ?_
  intro p e s m below meth cd hsz X hr hlk hN hin
  refine r_lv [0] [(0, .ref (ad 0))] rfl ?_
  refine r_iconst X 0 d_G_saltInRiver_0 (by decide) ?_
  refine r_istore_n X [(1, .int 0), (0, .ref (ad 0))] d_G_saltInRiver_1 rfl (by decide) rfl ?_
  refine r_aload_n X 1 d_G_saltInRiver_2 rfl rfl ?_
  refine r_get X k_G 0 (by decide) f_G_11 rfl (ct_lo (by decide)) rfl d_G_saltInRiver_3 ?_
  refine r_astore_n X [(2, .ref (ad 1)), (1, .int 0), (0, .ref (ad 0))] d_G_saltInRiver_6 rfl (by decide) rfl ?_
  refine r_aload_n X 0 d_G_saltInRiver_7 rfl rfl ?_
  refine r_alen (v := nI 8) X 2 (ct_lo (by decide)) rfl rfl d_G_saltInRiver_8 ?_
  refine r_istore_n X [(3, .int (nI 8)), (2, .ref (ad 1)), (1, .int 0), (0, .ref (ad 0))] d_G_saltInRiver_9 rfl (by decide) rfl ?_
  refine r_iconst X 0 d_G_saltInRiver_10 (by decide) ?_
  refine r_istore X [(4, .int 0), (3, .int (nI 8)), (2, .ref (ad 1)), (1, .int 0), (0, .ref (ad 0))] d_G_saltInRiver_11 (by decide) rfl ?_
  refine r_lv [4, 3, 2, 1, 0] [(0, .ref (ad 0)), (1, .int (sumN (sNr S) (fun q9 => (sSf S q9).2.2.2.2.2.1) 0)), (2, .ref (ad 1)), (3, .int (nI 8)), (4, .int (nI 0))] rfl ?_
  refine r_at (r_loop (σ := Nat) (fun f9 i => i ≤ 8 ∧ i + f9 = 8 + 1) (fun i => cont cy ad S J) 13 (fun i => [(0, .ref (ad 0)), (1, .int (sumN (sNr S) (fun q9 => (sSf S q9).2.2.2.2.2.1) i)), (2, .ref (ad 1)), (3, .int (nI 8)), (4, .int (nI i))]) (fun _ => []) (fun i h => by have h1 := h.1; have h2 := h.2; omega) (fun f9 i ih_i hI => ?_) (8 + 1 - 0) 0 ⟨by omega, by omega⟩) rfl rfl rfl rfl
  obtain ⟨hi8, hi9⟩ := hI
  refine r_iload X 4 d_G_saltInRiver_13 rfl ?_
  refine r_iload_n X 3 d_G_saltInRiver_15 rfl rfl ?_
  refine r_icmp_ge X 51 d_G_saltInRiver_16 (by decide) (fun h_16 => ?_) (fun h_16 => ?_)
  · have hi : 8 = i := by
      rcases Nat.lt_or_ge i 8 with h | h
      · exact absurd h_16 (nI_ge (by omega) (by omega))
      · omega
    subst hi
    refine r_iload_n X 1 d_G_saltInRiver_51 rfl rfl ?_
    exact r_iret (post := fun r ad' c' => sumN (sNr S) (fun q9 => (sSf S q9).2.2.2.2.2.1) 8 = r ∧ ad = ad' ∧ (cont cy ad S J) = c') X hr hlk d_G_saltInRiver_52 (by decide) (by decide) ⟨by (try simp only []); first | done | rfl | exact rup_id (by assumption), rfl, rfl⟩
  · have hi : i < 8 := by
      rcases Nat.lt_or_ge i 8 with h | h
      · exact h
      · exact absurd (nI_le (by omega) (by omega)) h_16
    refine r_aload_n X 2 d_G_saltInRiver_19 rfl rfl ?_
    refine r_iload X 4 d_G_saltInRiver_20 rfl ?_
    by_cases hr : i < sNr S
    · refine r_aald (v := .ref (ad (16 + 4 * i))) X 2 (ct_lo (by decide)) rfl (vp_in_nI hi (by decide)) (rRf_y (by omega) hr) d_G_saltInRiver_22 ?_
      refine r_astore X [(5, .ref (ad (16 + 4 * i))), (0, .ref (ad 0)), (1, .int (sumN (sNr S) (fun q9 => (sSf S q9).2.2.2.2.2.1) i)), (2, .ref (ad 1)), (3, .int (nI 8)), (4, .int (nI i))] d_G_saltInRiver_23 (by decide) rfl ?_
      refine r_iload_n X 2 d_G_saltInRiver_25 rfl rfl ?_
      refine r_aload X 0 d_G_saltInRiver_26 rfl ?_
      refine r_ifnonnull X 35 d_G_saltInRiver_28 (by decide) ?_
      refine r_aload X 0 d_G_saltInRiver_35 rfl ?_
      refine r_get X k_Road 7 (by decide) f_G_245 rfl (ct_road hS.1 hr) rfl d_G_saltInRiver_37 ?_
      refine r_get X k_Surf 5 (by decide) f_G_386 rfl (ct_surf hS.1 hr) rfl d_G_saltInRiver_40 ?_
      refine r_iadd X d_G_saltInRiver_43 ?_
      refine r_top (y := sumN (sNr S) (fun q9 => (sSf S q9).2.2.2.2.2.1) (i + 1)) (sumN_y (f := fun q9 => (sSf S q9).2.2.2.2.2.1) hr) ?_
      refine r_istore_n X [(1, .int (sumN (sNr S) (fun q9 => (sSf S q9).2.2.2.2.2.1) (i + 1))), (5, .ref (ad (16 + 4 * i))), (0, .ref (ad 0)), (2, .ref (ad 1)), (3, .int (nI 8)), (4, .int (nI i))] d_G_saltInRiver_44 rfl (by decide) rfl ?_
      refine r_iinc X 5 [(4, .int (nI (i + 1))), (1, .int (sumN (sNr S) (fun q9 => (sSf S q9).2.2.2.2.2.1) (i + 1))), (5, .ref (ad (16 + 4 * i))), (0, .ref (ad 0)), (2, .ref (ad 1)), (3, .int (nI 8))] d_G_saltInRiver_45 rfl (nI_1 i) (by decide) rfl ?_
      refine r_goto X 13 d_G_saltInRiver_48 (by decide) ?_
      refine r_lv [3, 1, 4, 5, 0] [(0, .ref (ad 0)), (1, .int (sumN (sNr S) (fun q9 => (sSf S q9).2.2.2.2.2.1) (i + 1))), (2, .ref (ad 1)), (3, .int (nI 8)), (4, .int (nI (i + 1)))] rfl ?_
      exact ih_i (i + 1) ⟨by omega, by omega⟩
    · refine r_aald (v := .null) X 2 (ct_lo (by decide)) rfl (vp_in_nI hi (by decide)) (rRf_n (by omega) hr) d_G_saltInRiver_22 ?_
      refine r_astoreN X [(5, .null), (0, .ref (ad 0)), (1, .int (sumN (sNr S) (fun q9 => (sSf S q9).2.2.2.2.2.1) i)), (2, .ref (ad 1)), (3, .int (nI 8)), (4, .int (nI i))] d_G_saltInRiver_23 (by decide) rfl ?_
      refine r_iload_n X 2 d_G_saltInRiver_25 rfl rfl ?_
      refine r_aloadN X 0 d_G_saltInRiver_26 rfl ?_
      refine r_ifnonnullN X d_G_saltInRiver_28 ?_
      refine r_iconst X 0 d_G_saltInRiver_31 (by decide) ?_
      refine r_goto X 43 d_G_saltInRiver_32 (by decide) ?_
      refine r_iadd X d_G_saltInRiver_43 ?_
      refine r_top (y := sumN (sNr S) (fun q9 => (sSf S q9).2.2.2.2.2.1) (i + 1)) (sumN_n (f := fun q9 => (sSf S q9).2.2.2.2.2.1) hr) ?_
      refine r_istore_n X [(1, .int (sumN (sNr S) (fun q9 => (sSf S q9).2.2.2.2.2.1) (i + 1))), (5, .null), (0, .ref (ad 0)), (2, .ref (ad 1)), (3, .int (nI 8)), (4, .int (nI i))] d_G_saltInRiver_44 rfl (by decide) rfl ?_
      refine r_iinc X 5 [(4, .int (nI (i + 1))), (1, .int (sumN (sNr S) (fun q9 => (sSf S q9).2.2.2.2.2.1) (i + 1))), (5, .null), (0, .ref (ad 0)), (2, .ref (ad 1)), (3, .int (nI 8))] d_G_saltInRiver_45 rfl (nI_1 i) (by decide) rfl ?_
      refine r_goto X 13 d_G_saltInRiver_48 (by decide) ?_
      refine r_lv [3, 1, 4, 5, 0] [(0, .ref (ad 0)), (1, .int (sumN (sNr S) (fun q9 => (sSf S q9).2.2.2.2.2.1) (i + 1))), (2, .ref (ad 1)), (3, .int (nI 8)), (4, .int (nI (i + 1)))] rfl ?_
      exact ih_i (i + 1) ⟨by omega, by omega⟩
set_option maxRecDepth 100000 in
set_option maxHeartbeats 4000000 in
/-- G_saltOnFields -/
theorem c_G_saltOnFields (l : Launch) (D : va_G) (cy : Nat → ClassId) (ad : Nat → Nat)  (S : cS) (J : jS) (hS : wfS S) : rMi l D cls (TY cy) NW y_G_saltOnFields (Cond.code y_G_saltOnFields b_G_saltOnFields 6 rt_G_saltOnFields :: W0) { frames := 0, cells := 0, slots := 0, locals := 0 } [.ref (ad 0)] ad (cont cy ad S J) (fun r ad' c' => sumN (sNr S) (fun q9 => (sSf S q9).2.2.2.2.2.2.1) 8 = r ∧ ad = ad' ∧ (cont cy ad S J) = c') := by
  intro sz
  refine r_of (own := R_G) rfl (by decide +kernel) (Nat.le_of_ble_eq_true rfl) ?_
  intro p e s m below meth cd hsz X hr hlk hN hin
  refine r_lv [0] [(0, .ref (ad 0))] rfl ?_
  refine r_iconst X 0 d_G_saltOnFields_0 (by decide) ?_
  refine r_istore_n X [(1, .int 0), (0, .ref (ad 0))] d_G_saltOnFields_1 rfl (by decide) rfl ?_
  refine r_aload_n X 1 d_G_saltOnFields_2 rfl rfl ?_
  refine r_get X k_G 0 (by decide) f_G_11 rfl (ct_lo (by decide)) rfl d_G_saltOnFields_3 ?_
  refine r_astore_n X [(2, .ref (ad 1)), (1, .int 0), (0, .ref (ad 0))] d_G_saltOnFields_6 rfl (by decide) rfl ?_
  refine r_aload_n X 0 d_G_saltOnFields_7 rfl rfl ?_
  refine r_alen (v := nI 8) X 2 (ct_lo (by decide)) rfl rfl d_G_saltOnFields_8 ?_
  refine r_istore_n X [(3, .int (nI 8)), (2, .ref (ad 1)), (1, .int 0), (0, .ref (ad 0))] d_G_saltOnFields_9 rfl (by decide) rfl ?_
  refine r_iconst X 0 d_G_saltOnFields_10 (by decide) ?_
  refine r_istore X [(4, .int 0), (3, .int (nI 8)), (2, .ref (ad 1)), (1, .int 0), (0, .ref (ad 0))] d_G_saltOnFields_11 (by decide) rfl ?_
  refine r_lv [4, 3, 2, 1, 0] [(0, .ref (ad 0)), (1, .int (sumN (sNr S) (fun q9 => (sSf S q9).2.2.2.2.2.2.1) 0)), (2, .ref (ad 1)), (3, .int (nI 8)), (4, .int (nI 0))] rfl ?_
  refine r_at (r_loop (σ := Nat) (fun f9 i => i ≤ 8 ∧ i + f9 = 8 + 1) (fun i => cont cy ad S J) 13 (fun i => [(0, .ref (ad 0)), (1, .int (sumN (sNr S) (fun q9 => (sSf S q9).2.2.2.2.2.2.1) i)), (2, .ref (ad 1)), (3, .int (nI 8)), (4, .int (nI i))]) (fun _ => []) (fun i h => by have h1 := h.1; have h2 := h.2; omega) (fun f9 i ih_i hI => ?_) (8 + 1 - 0) 0 ⟨by omega, by omega⟩) rfl rfl rfl rfl
  obtain ⟨hi8, hi9⟩ := hI
  refine r_iload X 4 d_G_saltOnFields_13 rfl ?_
  refine r_iload_n X 3 d_G_saltOnFields_15 rfl rfl ?_
  refine r_icmp_ge X 51 d_G_saltOnFields_16 (by decide) (fun h_16 => ?_) (fun h_16 => ?_)
  · have hi : 8 = i := by
      rcases Nat.lt_or_ge i 8 with h | h
      · exact absurd h_16 (nI_ge (by omega) (by omega))
      · omega
    subst hi
    refine r_iload_n X 1 d_G_saltOnFields_51 rfl rfl ?_
    exact r_iret (post := fun r ad' c' => sumN (sNr S) (fun q9 => (sSf S q9).2.2.2.2.2.2.1) 8 = r ∧ ad = ad' ∧ (cont cy ad S J) = c') X hr hlk d_G_saltOnFields_52 (by decide) (by decide) ⟨by (try simp only []); first | done | rfl | exact rup_id (by assumption), rfl, rfl⟩
  · have hi : i < 8 := by
      rcases Nat.lt_or_ge i 8 with h | h
      · exact h
      · exact absurd (nI_le (by omega) (by omega)) h_16
    refine r_aload_n X 2 d_G_saltOnFields_19 rfl rfl ?_
    refine r_iload X 4 d_G_saltOnFields_20 rfl ?_
    by_cases hr : i < sNr S
    · refine r_aald (v := .ref (ad (16 + 4 * i))) X 2 (ct_lo (by decide)) rfl (vp_in_nI hi (by decide)) (rRf_y (by omega) hr) d_G_saltOnFields_22 ?_
      refine r_astore X [(5, .ref (ad (16 + 4 * i))), (0, .ref (ad 0)), (1, .int (sumN (sNr S) (fun q9 => (sSf S q9).2.2.2.2.2.2.1) i)), (2, .ref (ad 1)), (3, .int (nI 8)), (4, .int (nI i))] d_G_saltOnFields_23 (by decide) rfl ?_
      refine r_iload_n X 2 d_G_saltOnFields_25 rfl rfl ?_
      refine r_aload X 0 d_G_saltOnFields_26 rfl ?_
      refine r_ifnonnull X 35 d_G_saltOnFields_28 (by decide) ?_
      refine r_aload X 0 d_G_saltOnFields_35 rfl ?_
      refine r_get X k_Road 7 (by decide) f_G_245 rfl (ct_road hS.1 hr) rfl d_G_saltOnFields_37 ?_
      refine r_get X k_Surf 6 (by decide) f_G_389 rfl (ct_surf hS.1 hr) rfl d_G_saltOnFields_40 ?_
      refine r_iadd X d_G_saltOnFields_43 ?_
      refine r_top (y := sumN (sNr S) (fun q9 => (sSf S q9).2.2.2.2.2.2.1) (i + 1)) (sumN_y (f := fun q9 => (sSf S q9).2.2.2.2.2.2.1) hr) ?_
      refine r_istore_n X [(1, .int (sumN (sNr S) (fun q9 => (sSf S q9).2.2.2.2.2.2.1) (i + 1))), (5, .ref (ad (16 + 4 * i))), (0, .ref (ad 0)), (2, .ref (ad 1)), (3, .int (nI 8)), (4, .int (nI i))] d_G_saltOnFields_44 rfl (by decide) rfl ?_
      refine r_iinc X 5 [(4, .int (nI (i + 1))), (1, .int (sumN (sNr S) (fun q9 => (sSf S q9).2.2.2.2.2.2.1) (i + 1))), (5, .ref (ad (16 + 4 * i))), (0, .ref (ad 0)), (2, .ref (ad 1)), (3, .int (nI 8))] d_G_saltOnFields_45 rfl (nI_1 i) (by decide) rfl ?_
      refine r_goto X 13 d_G_saltOnFields_48 (by decide) ?_
      refine r_lv [3, 1, 4, 5, 0] [(0, .ref (ad 0)), (1, .int (sumN (sNr S) (fun q9 => (sSf S q9).2.2.2.2.2.2.1) (i + 1))), (2, .ref (ad 1)), (3, .int (nI 8)), (4, .int (nI (i + 1)))] rfl ?_
      exact ih_i (i + 1) ⟨by omega, by omega⟩
    · refine r_aald (v := .null) X 2 (ct_lo (by decide)) rfl (vp_in_nI hi (by decide)) (rRf_n (by omega) hr) d_G_saltOnFields_22 ?_
      refine r_astoreN X [(5, .null), (0, .ref (ad 0)), (1, .int (sumN (sNr S) (fun q9 => (sSf S q9).2.2.2.2.2.2.1) i)), (2, .ref (ad 1)), (3, .int (nI 8)), (4, .int (nI i))] d_G_saltOnFields_23 (by decide) rfl ?_
      refine r_iload_n X 2 d_G_saltOnFields_25 rfl rfl ?_
      refine r_aloadN X 0 d_G_saltOnFields_26 rfl ?_
      refine r_ifnonnullN X d_G_saltOnFields_28 ?_
      refine r_iconst X 0 d_G_saltOnFields_31 (by decide) ?_
      refine r_goto X 43 d_G_saltOnFields_32 (by decide) ?_
      refine r_iadd X d_G_saltOnFields_43 ?_
      refine r_top (y := sumN (sNr S) (fun q9 => (sSf S q9).2.2.2.2.2.2.1) (i + 1)) (sumN_n (f := fun q9 => (sSf S q9).2.2.2.2.2.2.1) hr) ?_
      refine r_istore_n X [(1, .int (sumN (sNr S) (fun q9 => (sSf S q9).2.2.2.2.2.2.1) (i + 1))), (5, .null), (0, .ref (ad 0)), (2, .ref (ad 1)), (3, .int (nI 8)), (4, .int (nI i))] d_G_saltOnFields_44 rfl (by decide) rfl ?_
      refine r_iinc X 5 [(4, .int (nI (i + 1))), (1, .int (sumN (sNr S) (fun q9 => (sSf S q9).2.2.2.2.2.2.1) (i + 1))), (5, .null), (0, .ref (ad 0)), (2, .ref (ad 1)), (3, .int (nI 8))] d_G_saltOnFields_45 rfl (nI_1 i) (by decide) rfl ?_
      refine r_goto X 13 d_G_saltOnFields_48 (by decide) ?_
      refine r_lv [3, 1, 4, 5, 0] [(0, .ref (ad 0)), (1, .int (sumN (sNr S) (fun q9 => (sSf S q9).2.2.2.2.2.2.1) (i + 1))), (2, .ref (ad 1)), (3, .int (nI 8)), (4, .int (nI (i + 1)))] rfl ?_
      exact ih_i (i + 1) ⟨by omega, by omega⟩
set_option maxRecDepth 100000 in
set_option maxHeartbeats 4000000 in
/-- G_waterRunOff -/
theorem c_G_waterRunOff (l : Launch) (D : va_G) (cy : Nat → ClassId) (ad : Nat → Nat)  (S : cS) (J : jS) (hS : wfS S) : rMi l D cls (TY cy) NW y_G_waterRunOff (Cond.code y_G_waterRunOff b_G_waterRunOff 6 rt_G_waterRunOff :: W0) { frames := 0, cells := 0, slots := 0, locals := 0 } [.ref (ad 0)] ad (cont cy ad S J) (fun r ad' c' => sumN (sNr S) (fun q9 => (sSf S q9).2.2.2.2.2.2.2) 8 = r ∧ ad = ad' ∧ (cont cy ad S J) = c') := by
  intro sz
  refine r_of (own := R_G) rfl (by decide +kernel) (Nat.le_of_ble_eq_true rfl) ?_
  intro p e s m below meth cd hsz X hr hlk hN hin
  refine r_lv [0] [(0, .ref (ad 0))] rfl ?_
  refine r_iconst X 0 d_G_waterRunOff_0 (by decide) ?_
  refine r_istore_n X [(1, .int 0), (0, .ref (ad 0))] d_G_waterRunOff_1 rfl (by decide) rfl ?_
  refine r_aload_n X 1 d_G_waterRunOff_2 rfl rfl ?_
  refine r_get X k_G 0 (by decide) f_G_11 rfl (ct_lo (by decide)) rfl d_G_waterRunOff_3 ?_
  refine r_astore_n X [(2, .ref (ad 1)), (1, .int 0), (0, .ref (ad 0))] d_G_waterRunOff_6 rfl (by decide) rfl ?_
  refine r_aload_n X 0 d_G_waterRunOff_7 rfl rfl ?_
  refine r_alen (v := nI 8) X 2 (ct_lo (by decide)) rfl rfl d_G_waterRunOff_8 ?_
  refine r_istore_n X [(3, .int (nI 8)), (2, .ref (ad 1)), (1, .int 0), (0, .ref (ad 0))] d_G_waterRunOff_9 rfl (by decide) rfl ?_
  refine r_iconst X 0 d_G_waterRunOff_10 (by decide) ?_
  refine r_istore X [(4, .int 0), (3, .int (nI 8)), (2, .ref (ad 1)), (1, .int 0), (0, .ref (ad 0))] d_G_waterRunOff_11 (by decide) rfl ?_
  refine r_lv [4, 3, 2, 1, 0] [(0, .ref (ad 0)), (1, .int (sumN (sNr S) (fun q9 => (sSf S q9).2.2.2.2.2.2.2) 0)), (2, .ref (ad 1)), (3, .int (nI 8)), (4, .int (nI 0))] rfl ?_
  refine r_at (r_loop (σ := Nat) (fun f9 i => i ≤ 8 ∧ i + f9 = 8 + 1) (fun i => cont cy ad S J) 13 (fun i => [(0, .ref (ad 0)), (1, .int (sumN (sNr S) (fun q9 => (sSf S q9).2.2.2.2.2.2.2) i)), (2, .ref (ad 1)), (3, .int (nI 8)), (4, .int (nI i))]) (fun _ => []) (fun i h => by have h1 := h.1; have h2 := h.2; omega) (fun f9 i ih_i hI => ?_) (8 + 1 - 0) 0 ⟨by omega, by omega⟩) rfl rfl rfl rfl
  obtain ⟨hi8, hi9⟩ := hI
  refine r_iload X 4 d_G_waterRunOff_13 rfl ?_
  refine r_iload_n X 3 d_G_waterRunOff_15 rfl rfl ?_
  refine r_icmp_ge X 51 d_G_waterRunOff_16 (by decide) (fun h_16 => ?_) (fun h_16 => ?_)
  · have hi : 8 = i := by
      rcases Nat.lt_or_ge i 8 with h | h
      · exact absurd h_16 (nI_ge (by omega) (by omega))
      · omega
    subst hi
    refine r_iload_n X 1 d_G_waterRunOff_51 rfl rfl ?_
    exact r_iret (post := fun r ad' c' => sumN (sNr S) (fun q9 => (sSf S q9).2.2.2.2.2.2.2) 8 = r ∧ ad = ad' ∧ (cont cy ad S J) = c') X hr hlk d_G_waterRunOff_52 (by decide) (by decide) ⟨by (try simp only []); first | done | rfl | exact rup_id (by assumption), rfl, rfl⟩
  · have hi : i < 8 := by
      rcases Nat.lt_or_ge i 8 with h | h
      · exact h
      · exact absurd (nI_le (by omega) (by omega)) h_16
    refine r_aload_n X 2 d_G_waterRunOff_19 rfl rfl ?_
    refine r_iload X 4 d_G_waterRunOff_20 rfl ?_
    by_cases hr : i < sNr S
    · refine r_aald (v := .ref (ad (16 + 4 * i))) X 2 (ct_lo (by decide)) rfl (vp_in_nI hi (by decide)) (rRf_y (by omega) hr) d_G_waterRunOff_22 ?_
      refine r_astore X [(5, .ref (ad (16 + 4 * i))), (0, .ref (ad 0)), (1, .int (sumN (sNr S) (fun q9 => (sSf S q9).2.2.2.2.2.2.2) i)), (2, .ref (ad 1)), (3, .int (nI 8)), (4, .int (nI i))] d_G_waterRunOff_23 (by decide) rfl ?_
      refine r_iload_n X 2 d_G_waterRunOff_25 rfl rfl ?_
      refine r_aload X 0 d_G_waterRunOff_26 rfl ?_
      refine r_ifnonnull X 35 d_G_waterRunOff_28 (by decide) ?_
      refine r_aload X 0 d_G_waterRunOff_35 rfl ?_
      refine r_get X k_Road 7 (by decide) f_G_245 rfl (ct_road hS.1 hr) rfl d_G_waterRunOff_37 ?_
      refine r_get X k_Surf 7 (by decide) f_G_392 rfl (ct_surf hS.1 hr) rfl d_G_waterRunOff_40 ?_
      refine r_iadd X d_G_waterRunOff_43 ?_
      refine r_top (y := sumN (sNr S) (fun q9 => (sSf S q9).2.2.2.2.2.2.2) (i + 1)) (sumN_y (f := fun q9 => (sSf S q9).2.2.2.2.2.2.2) hr) ?_
      refine r_istore_n X [(1, .int (sumN (sNr S) (fun q9 => (sSf S q9).2.2.2.2.2.2.2) (i + 1))), (5, .ref (ad (16 + 4 * i))), (0, .ref (ad 0)), (2, .ref (ad 1)), (3, .int (nI 8)), (4, .int (nI i))] d_G_waterRunOff_44 rfl (by decide) rfl ?_
      refine r_iinc X 5 [(4, .int (nI (i + 1))), (1, .int (sumN (sNr S) (fun q9 => (sSf S q9).2.2.2.2.2.2.2) (i + 1))), (5, .ref (ad (16 + 4 * i))), (0, .ref (ad 0)), (2, .ref (ad 1)), (3, .int (nI 8))] d_G_waterRunOff_45 rfl (nI_1 i) (by decide) rfl ?_
      refine r_goto X 13 d_G_waterRunOff_48 (by decide) ?_
      refine r_lv [3, 1, 4, 5, 0] [(0, .ref (ad 0)), (1, .int (sumN (sNr S) (fun q9 => (sSf S q9).2.2.2.2.2.2.2) (i + 1))), (2, .ref (ad 1)), (3, .int (nI 8)), (4, .int (nI (i + 1)))] rfl ?_
      exact ih_i (i + 1) ⟨by omega, by omega⟩
    · refine r_aald (v := .null) X 2 (ct_lo (by decide)) rfl (vp_in_nI hi (by decide)) (rRf_n (by omega) hr) d_G_waterRunOff_22 ?_
      refine r_astoreN X [(5, .null), (0, .ref (ad 0)), (1, .int (sumN (sNr S) (fun q9 => (sSf S q9).2.2.2.2.2.2.2) i)), (2, .ref (ad 1)), (3, .int (nI 8)), (4, .int (nI i))] d_G_waterRunOff_23 (by decide) rfl ?_
      refine r_iload_n X 2 d_G_waterRunOff_25 rfl rfl ?_
      refine r_aloadN X 0 d_G_waterRunOff_26 rfl ?_
      refine r_ifnonnullN X d_G_waterRunOff_28 ?_
      refine r_iconst X 0 d_G_waterRunOff_31 (by decide) ?_
      refine r_goto X 43 d_G_waterRunOff_32 (by decide) ?_
      refine r_iadd X d_G_waterRunOff_43 ?_
      refine r_top (y := sumN (sNr S) (fun q9 => (sSf S q9).2.2.2.2.2.2.2) (i + 1)) (sumN_n (f := fun q9 => (sSf S q9).2.2.2.2.2.2.2) hr) ?_
      refine r_istore_n X [(1, .int (sumN (sNr S) (fun q9 => (sSf S q9).2.2.2.2.2.2.2) (i + 1))), (5, .null), (0, .ref (ad 0)), (2, .ref (ad 1)), (3, .int (nI 8)), (4, .int (nI i))] d_G_waterRunOff_44 rfl (by decide) rfl ?_
      refine r_iinc X 5 [(4, .int (nI (i + 1))), (1, .int (sumN (sNr S) (fun q9 => (sSf S q9).2.2.2.2.2.2.2) (i + 1))), (5, .null), (0, .ref (ad 0)), (2, .ref (ad 1)), (3, .int (nI 8))] d_G_waterRunOff_45 rfl (nI_1 i) (by decide) rfl ?_
      refine r_goto X 13 d_G_waterRunOff_48 (by decide) ?_
      refine r_lv [3, 1, 4, 5, 0] [(0, .ref (ad 0)), (1, .int (sumN (sNr S) (fun q9 => (sSf S q9).2.2.2.2.2.2.2) (i + 1))), (2, .ref (ad 1)), (3, .int (nI 8)), (4, .int (nI (i + 1)))] rfl ?_
      exact ih_i (i + 1) ⟨by omega, by omega⟩
