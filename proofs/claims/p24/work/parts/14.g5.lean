/-! the digest -/
def foldD (f : Nat → Int32) (x : Int64) : Nat → Int64
  | 0 => x
  | k + 1 => foldD f x k * 31 + (f k).toInt64
def rfS (S : cS) (q k : Nat) : Int32 := roadF k (sRc S q).1 (sRc S q).2.1 (sRc S q).2.2.1 (sRc S q).2.2.2.1 (sRc S q).2.2.2.2.1 (sRc S q).2.2.2.2.2.1 (sRc S q).2.2.2.2.2.2.1 (sRc S q).2.2.2.2.2.2.2.1 (sRc S q).2.2.2.2.2.2.2.2 (sSf S q).1 (sSf S q).2.1 (sSf S q).2.2.1 (sSf S q).2.2.2.1 (sSf S q).2.2.2.2.1
def lfS (S : cS) (q k : Nat) : Int32 := lorF k (sLo S q).1 (sLo S q).2.1 (sLo S q).2.2.1 (sLo S q).2.2.2.2.1 (sLo S q).2.2.2.2.2.1 (sLo S q).2.2.2.2.2.2.1 (sLo S q).2.2.2.2.2.2.2.1 (sLo S q).2.2.2.2.2.2.2.2 (sOd S q)
def drF (S : cS) (q : Nat) (x : Int64) : Int64 :=
  if sNow S = 0 then (foldD (rfS S q) x 15 * 31 + (fsR S q 0 8).toInt64) * 31 + (lsF S q 4 61 0).toInt64
  else ((foldD (rfS S q) x 15 * 31 + (fsR S q 0 8).toInt64) * 31 + (lsF S q 4 61 0).toInt64) * 31 + (ansF S q (sNow S).toNatClampNeg).toInt64
def rdD (S : cS) (x : Int64) : Nat → Int64
  | 0 => x
  | i + 1 => if i < sNr S then drF S i (rdD S x i) else rdD S x i
def ldD (S : cS) (x : Int64) : Nat → Int64
  | 0 => x
  | i + 1 => if i < sNl S then foldD (lfS S i) (ldD S x i) 9 else ldD S x i
def digD (S : cS) : Int64 := foldD (fun k => wayF S 0 (nI k)) (ldD S (rdD S (foldD (cntF S) 4808 15) 8) 3) 7
def digF (S : cS) : Int64 := if nI (sNl S) = 0 then digD S else digD S * 31 + (rbF S 0).toInt64
theorem rd_y {S : cS} {x : Int64} {i : Nat} (h : i < sNr S) : drF S i (rdD S x i) = rdD S x (i + 1) := (if_pos h).symm
theorem rd_n {S : cS} {x : Int64} {i : Nat} (h : ¬ i < sNr S) : rdD S x i = rdD S x (i + 1) := (if_neg h).symm
theorem ld_y {S : cS} {x : Int64} {i : Nat} (h : i < sNl S) : foldD (lfS S i) (ldD S x i) 9 = ldD S x (i + 1) := (if_pos h).symm
theorem ld_n {S : cS} {x : Int64} {i : Nat} (h : ¬ i < sNl S) : ldD S x i = ldD S x (i + 1) := (if_neg h).symm
set_option maxRecDepth 100000 in
set_option maxHeartbeats 4000000 in
/-- G_digestOfLorry -/
theorem c_G_digestOfLorry (l : Launch) (D : va_G) (cy : Nat → ClassId) (ad : Nat → Nat)  (S : cS) (J : jS) (hS : wfS S) (q : Nat) (hq : q < sNl S) (x : Int64) : rMl l D cls (TY cy) NW y_G_digestOfLorry (Cond.code y_G_digestOfLorry b_G_digestOfLorry 6 rt_G_digestOfLorry :: W0) { frames := 2, cells := 0, slots := 0, locals := 41 } [.ref (ad (48 + 2 * q)), .long x] ad (cont cy ad S J) (fun r ad' c' => foldD (lfS S q) x 9 = r ∧ ad = ad' ∧ (cont cy ad S J) = c') := by
  intro sz
  refine r_of (own := R_G) rfl (by decide +kernel) (Nat.le_of_ble_eq_true rfl) ?_
  intro p e s m below meth cd hsz X hr hlk hN hin
  have hb3 := hS.2.1
  refine r_lv [0, 1] [(0, .ref (ad (48 + 2 * q))), (1, .long x)] rfl ?_
  refine r_lload_n X 1 d_G_digestOfLorry_0 rfl rfl ?_
  refine r_lstore_n X [(3, .long x), (0, .ref (ad (48 + 2 * q))), (1, .long x)] d_G_digestOfLorry_1 rfl (by decide) rfl ?_
  refine r_iconst X 0 d_G_digestOfLorry_2 (by decide) ?_
  refine r_istore X [(5, .int 0), (3, .long x), (0, .ref (ad (48 + 2 * q))), (1, .long x)] d_G_digestOfLorry_3 (by decide) rfl ?_
  refine r_lv [2, 3, 1, 0] [(0, .ref (ad (48 + 2 * q))), (1, .long x), (3, .long (foldD (lfS S q) x 0)), (5, .int (nI 0))] rfl ?_
  refine r_at (r_loop (σ := Nat) (fun f9 i => i ≤ 9 ∧ i + f9 = 9 + 1) (fun i => cont cy ad S J) 5 (fun i => [(0, .ref (ad (48 + 2 * q))), (1, .long x), (3, .long (foldD (lfS S q) x i)), (5, .int (nI i))]) (fun _ => []) (fun i h => by have h1 := h.1; have h2 := h.2; omega) (fun f9 i ih_i hI => ?_) (9 + 1 - 0) 0 ⟨by omega, by omega⟩) rfl rfl rfl rfl
  obtain ⟨hi8, hi9⟩ := hI
  refine r_iload X 3 d_G_digestOfLorry_5 rfl ?_
  refine r_bipush X 8 d_G_digestOfLorry_7 (by decide) ?_
  refine r_top (y := nI 8) (by decide) ?_
  refine r_icmp_gt X 32 d_G_digestOfLorry_9 (by decide) (fun h_9 => ?_) (fun h_9 => ?_)
  · have hi : 9 = i := by
      rcases Nat.lt_or_ge i 9 with h | h
      · exact absurd h_9 (nI_nlt (by omega) (by omega))
      · omega
    subst hi
    refine r_lload_n X 2 d_G_digestOfLorry_32 rfl rfl ?_
    exact r_lret (post := fun r ad' c' => foldD (lfS S q) x 9 = r ∧ ad = ad' ∧ (cont cy ad S J) = c') X hr hlk d_G_digestOfLorry_33 (by decide) (by decide) ⟨rfl, rfl, rfl⟩
  · have hi : i < 9 := by
      rcases Nat.lt_or_ge i 9 with h | h
      · exact h
      · exact absurd (nI_lt (by omega) (by omega)) h_9
    refine r_lload_n X 2 d_G_digestOfLorry_12 rfl rfl ?_
    refine r_ldc2 X q_G_268 d_G_digestOfLorry_13 ?_
    refine r_lmul X d_G_digestOfLorry_16 ?_
    refine r_aload_n X 0 d_G_digestOfLorry_17 rfl rfl ?_
    refine r_iload X 3 d_G_digestOfLorry_18 rfl ?_
    refine r_Vi X W0_good hN (c_Lor_fact l D cy ad (cont cy ad S J) (48 + 2 * q) (49 + 2 * q) (by omega) ((sLo S q).1) ((sLo S q).2.1) ((sLo S q).2.2.1) ((sLo S q).2.2.2.1) ((sLo S q).2.2.2.2.1) ((sLo S q).2.2.2.2.2.1) ((sLo S q).2.2.2.2.2.2.1) ((sLo S q).2.2.2.2.2.2.2.1) ((sLo S q).2.2.2.2.2.2.2.2) (sOd S q) (ct_lor hS.2.1 hq) (ct_od hS.2.1 hq) i (by omega)) yv_Lor_fact m_G_238 (ct_lor hS.2.1 hq) k_Lor.2.1 rfl rfl rfl ⟨by decide, by decide⟩ (Nat.le_of_ble_eq_true rfl) ⟨by decide, by decide⟩ d_G_digestOfLorry_20 (fun r9 ad9 c9 hp9 => ?_)
    obtain ⟨rfl, rfl, rfl⟩ := hp9
    refine r_i2l X d_G_digestOfLorry_23 ?_
    refine r_ladd X d_G_digestOfLorry_24 ?_
    refine r_lstore_n X [(3, .long (((foldD (lfS S q) x i) * 31) + ((lorF i ((sLo S q).1) ((sLo S q).2.1) ((sLo S q).2.2.1) ((sLo S q).2.2.2.2.1) ((sLo S q).2.2.2.2.2.1) ((sLo S q).2.2.2.2.2.2.1) ((sLo S q).2.2.2.2.2.2.2.1) ((sLo S q).2.2.2.2.2.2.2.2) (sOd S q)).toInt64))), (0, .ref (ad (48 + 2 * q))), (1, .long x), (5, .int (nI i))] d_G_digestOfLorry_25 rfl (by decide) rfl ?_
    refine r_show (cont cy ad S J) [(3, .long (foldD (lfS S q) x (i + 1))), (0, .ref (ad (48 + 2 * q))), (1, .long x), (5, .int (nI i))] [] rfl (congrArg (fun x9 : Int64 => ([(3, .long x9), (0, .ref (ad (48 + 2 * q))), (1, .long x), (5, .int (nI i))] : List (Nat × Value))) rfl) rfl ?_
    refine r_iinc X 3 [(5, .int (nI (i + 1))), (3, .long (foldD (lfS S q) x (i + 1))), (0, .ref (ad (48 + 2 * q))), (1, .long x)] d_G_digestOfLorry_26 rfl (nI_1 i) (by decide) rfl ?_
    refine r_goto X 5 d_G_digestOfLorry_29 (by decide) ?_
    refine r_lv [2, 3, 1, 0] [(0, .ref (ad (48 + 2 * q))), (1, .long x), (3, .long (foldD (lfS S q) x (i + 1))), (5, .int (nI (i + 1)))] rfl ?_
    exact ih_i (i + 1) ⟨by omega, by omega⟩
set_option maxRecDepth 100000 in
set_option maxHeartbeats 4000000 in
/-- G_digestOfRoad -/
theorem c_G_digestOfRoad (l : Launch) (D : va_G) (cy : Nat → ClassId) (ad : Nat → Nat)  (S : cS) (J : jS) (hS : wfS S) (q : Nat) (hq : q < sNr S) (x : Int64) : rMl l D cls (TY cy) NW y_G_digestOfRoad (Cond.code y_G_digestOfRoad b_G_digestOfRoad 7 rt_G_digestOfRoad :: W0) { frames := 5, cells := 0, slots := 0, locals := 114 } [.ref (ad 0), .ref (ad (16 + 4 * q)), .long x] ad (cont cy ad S J) (fun r ad' c' => drF S q x = r ∧ ad = ad' ∧ ∃ x9, cont cy ad S (x9, J.2) = c') := by
  intro sz
  refine r_of (own := R_G) rfl (by decide +kernel) (Nat.le_of_ble_eq_true rfl) ?_
  intro p e s m below meth cd hsz X hr hlk hN hin
  have hb8 := hS.1
  obtain ⟨t, ht, hnow⟩ := hS.2.2.1
  refine r_lv [0, 1, 2] [(0, .ref (ad 0)), (1, .ref (ad (16 + 4 * q))), (2, .long x)] rfl ?_
  refine r_lload_n X 2 d_G_digestOfRoad_0 rfl rfl ?_
  refine r_lstore X [(4, .long x), (0, .ref (ad 0)), (1, .ref (ad (16 + 4 * q))), (2, .long x)] d_G_digestOfRoad_1 (by decide) rfl ?_
  refine r_iconst X 0 d_G_digestOfRoad_3 (by decide) ?_
  refine r_istore X [(6, .int 0), (4, .long x), (0, .ref (ad 0)), (1, .ref (ad (16 + 4 * q))), (2, .long x)] d_G_digestOfRoad_4 (by decide) rfl ?_
  refine r_lv [2, 3, 4, 1, 0] [(0, .ref (ad 0)), (1, .ref (ad (16 + 4 * q))), (2, .long x), (4, .long (foldD (rfS S q) x 0)), (6, .int (nI 0))] rfl ?_
  refine r_at (r_loop (σ := Nat) (fun f9 i => i ≤ 15 ∧ i + f9 = 15 + 1) (fun i => cont cy ad S J) 6 (fun i => [(0, .ref (ad 0)), (1, .ref (ad (16 + 4 * q))), (2, .long x), (4, .long (foldD (rfS S q) x i)), (6, .int (nI i))]) (fun _ => []) (fun i h => by have h1 := h.1; have h2 := h.2; omega) (fun f9 i ih_i hI => ?_) (15 + 1 - 0) 0 ⟨by omega, by omega⟩) rfl rfl rfl rfl
  obtain ⟨hi8, hi9⟩ := hI
  refine r_iload X 4 d_G_digestOfRoad_6 rfl ?_
  refine r_bipush X 14 d_G_digestOfRoad_8 (by decide) ?_
  refine r_top (y := nI 14) (by decide) ?_
  refine r_icmp_gt X 35 d_G_digestOfRoad_10 (by decide) (fun h_10 => ?_) (fun h_10 => ?_)
  · have hi : 15 = i := by
      rcases Nat.lt_or_ge i 15 with h | h
      · exact absurd h_10 (nI_nlt (by omega) (by omega))
      · omega
    subst hi
    refine r_lload X 3 d_G_digestOfRoad_35 rfl ?_
    refine r_ldc2 X q_G_268 d_G_digestOfRoad_37 ?_
    refine r_lmul X d_G_digestOfRoad_40 ?_
    refine r_aload_n X 0 d_G_digestOfRoad_41 rfl rfl ?_
    refine r_aload_n X 1 d_G_digestOfRoad_42 rfl rfl ?_
    refine r_iconst X 0 d_G_digestOfRoad_43 (by decide) ?_
    refine r_bipush X 8 d_G_digestOfRoad_44 (by decide) ?_
    refine r_top (y := nI 8) (by decide) ?_
    refine r_Vi X W0_good hN (c_G_firstSlippery l D cy ad S J hS q hq 0 8 (by decide)) yv_G_firstSlippery m_G_253 (ct_lo (by decide)) k_G.2.1 rfl rfl rfl ⟨by decide, by decide⟩ (Nat.le_of_ble_eq_true rfl) ⟨by decide, by decide⟩ d_G_digestOfRoad_46 (fun r9 ad9 c9 hp9 => ?_)
    obtain ⟨rfl, rfl, x9, rfl⟩ := hp9
    refine r_c (cont cy ad S (x9, J.2)) rfl ?_
    refine r_i2l X d_G_digestOfRoad_49 ?_
    refine r_ladd X d_G_digestOfRoad_50 ?_
    refine r_lstore X [(4, .long (((foldD (rfS S q) x 15) * 31) + ((fsR S q 0 8).toInt64))), (0, .ref (ad 0)), (1, .ref (ad (16 + 4 * q))), (2, .long x), (6, .int (nI 15))] d_G_digestOfRoad_51 (by decide) rfl ?_
    refine r_lload X 0 d_G_digestOfRoad_53 rfl ?_
    refine r_ldc2 X q_G_268 d_G_digestOfRoad_55 ?_
    refine r_lmul X d_G_digestOfRoad_58 ?_
    refine r_aload_n X 1 d_G_digestOfRoad_59 rfl rfl ?_
    refine r_aload_n X 2 d_G_digestOfRoad_60 rfl rfl ?_
    refine r_iconst X 4 d_G_digestOfRoad_61 (by decide) ?_
    refine r_top (y := nI 4) (by decide) ?_
    refine r_Vi X W0_good hN (c_G_leastSalt l D cy ad S (x9, J.2) hS q hq 4 (by decide)) yv_G_leastSalt m_G_257 (ct_lo (by decide)) k_G.2.1 rfl rfl rfl ⟨by decide, by decide⟩ (Nat.le_of_ble_eq_true rfl) ⟨by decide, by decide⟩ d_G_digestOfRoad_62 (fun r9 ad9 c9 hp9 => ?_)
    obtain ⟨rfl, rfl, y9, rfl⟩ := hp9
    refine r_c (cont cy ad S (y9, J.2)) rfl ?_
    refine r_i2l X d_G_digestOfRoad_65 ?_
    refine r_ladd X d_G_digestOfRoad_66 ?_
    refine r_lstore X [(4, .long (((((foldD (rfS S q) x 15) * 31) + ((fsR S q 0 8).toInt64)) * 31) + ((lsF S q 4 61 0).toInt64))), (0, .ref (ad 0)), (1, .ref (ad (16 + 4 * q))), (2, .long x), (6, .int (nI 15))] d_G_digestOfRoad_67 (by decide) rfl ?_
    refine r_aload_n X 1 d_G_digestOfRoad_69 rfl rfl ?_
    refine r_get X k_G 11 (by decide) f_G_127 rfl (ct_lo (by decide)) rfl d_G_digestOfRoad_70 ?_
    refine r_if_ne X 81 d_G_digestOfRoad_73 (by decide) (fun h_73 => ?_) (fun h_73 => ?_)
    · refine r_lload X 0 d_G_digestOfRoad_81 rfl ?_
      refine r_ldc2 X q_G_268 d_G_digestOfRoad_83 ?_
      refine r_lmul X d_G_digestOfRoad_86 ?_
      refine r_aload_n X 1 d_G_digestOfRoad_87 rfl rfl ?_
      refine r_aload_n X 2 d_G_digestOfRoad_88 rfl rfl ?_
      refine r_aload_n X 1 d_G_digestOfRoad_89 rfl rfl ?_
      refine r_get X k_G 11 (by decide) f_G_127 rfl (ct_lo (by decide)) rfl d_G_digestOfRoad_90 ?_
      refine r_top (y := nI t) hnow ?_
      refine r_Vi X W0_good hN (c_G_answerTo l D cy ad S (y9, J.2) hS q hq t ht) yv_G_answerTo m_G_226 (ct_lo (by decide)) k_G.2.1 rfl rfl rfl ⟨by decide, by decide⟩ (Nat.le_of_ble_eq_true rfl) ⟨by decide, by decide⟩ d_G_digestOfRoad_93 (fun r9 ad9 c9 hp9 => ?_)
      obtain ⟨rfl, rfl, rfl⟩ := hp9
      refine r_i2l X d_G_digestOfRoad_96 ?_
      refine r_ladd X d_G_digestOfRoad_97 ?_
      exact r_lret (post := fun r ad' c' => drF S q x = r ∧ ad = ad' ∧ ∃ x9, cont cy ad S (x9, J.2) = c') X hr hlk d_G_digestOfRoad_98 (by decide) (by decide) ⟨by unfold drF; rw [clp ht hnow]; exact if_neg h_73, rfl, y9, rfl⟩
    · refine r_lload X 0 d_G_digestOfRoad_76 rfl ?_
      refine r_goto X 98 d_G_digestOfRoad_78 (by decide) ?_
      exact r_lret (post := fun r ad' c' => drF S q x = r ∧ ad = ad' ∧ ∃ x9, cont cy ad S (x9, J.2) = c') X hr hlk d_G_digestOfRoad_98 (by decide) (by decide) ⟨by unfold drF; exact if_pos h_73, rfl, y9, rfl⟩
  · have hi : i < 15 := by
      rcases Nat.lt_or_ge i 15 with h | h
      · exact h
      · exact absurd (nI_lt (by omega) (by omega)) h_10
    refine r_lload X 3 d_G_digestOfRoad_13 rfl ?_
    refine r_ldc2 X q_G_268 d_G_digestOfRoad_15 ?_
    refine r_lmul X d_G_digestOfRoad_18 ?_
    refine r_aload_n X 1 d_G_digestOfRoad_19 rfl rfl ?_
    refine r_iload X 4 d_G_digestOfRoad_20 rfl ?_
    refine r_Vi X W0_good hN (c_Road_fact l D cy ad (cont cy ad S J) (16 + 4 * q) (17 + 4 * q) (18 + 4 * q) (19 + 4 * q) ((sRc S q).1) ((sRc S q).2.1) ((sRc S q).2.2.1) ((sRc S q).2.2.2.1) ((sRc S q).2.2.2.2.1) ((sRc S q).2.2.2.2.2.1) ((sRc S q).2.2.2.2.2.2.1) ((sRc S q).2.2.2.2.2.2.2.1) ((sRc S q).2.2.2.2.2.2.2.2) (ct_road hS.1 hq) ((sSf S q).1) ((sSf S q).2.1) ((sSf S q).2.2.1) ((sSf S q).2.2.2.1) ((sSf S q).2.2.2.2.1) ((sSf S q).2.2.2.2.2.1) ((sSf S q).2.2.2.2.2.2.1) ((sSf S q).2.2.2.2.2.2.2) (ct_surf hS.1 hq) i (by omega)) yv_Road_fact m_G_232 (ct_road hS.1 hq) k_Road.2.1 rfl rfl rfl ⟨by decide, by decide⟩ (Nat.le_of_ble_eq_true rfl) ⟨by decide, by decide⟩ d_G_digestOfRoad_22 (fun r9 ad9 c9 hp9 => ?_)
    obtain ⟨rfl, rfl, rfl⟩ := hp9
    refine r_i2l X d_G_digestOfRoad_25 ?_
    refine r_ladd X d_G_digestOfRoad_26 ?_
    refine r_lstore X [(4, .long (((foldD (rfS S q) x i) * 31) + ((roadF i ((sRc S q).1) ((sRc S q).2.1) ((sRc S q).2.2.1) ((sRc S q).2.2.2.1) ((sRc S q).2.2.2.2.1) ((sRc S q).2.2.2.2.2.1) ((sRc S q).2.2.2.2.2.2.1) ((sRc S q).2.2.2.2.2.2.2.1) ((sRc S q).2.2.2.2.2.2.2.2) ((sSf S q).1) ((sSf S q).2.1) ((sSf S q).2.2.1) ((sSf S q).2.2.2.1) ((sSf S q).2.2.2.2.1)).toInt64))), (0, .ref (ad 0)), (1, .ref (ad (16 + 4 * q))), (2, .long x), (6, .int (nI i))] d_G_digestOfRoad_27 (by decide) rfl ?_
    refine r_show (cont cy ad S J) [(4, .long (foldD (rfS S q) x (i + 1))), (0, .ref (ad 0)), (1, .ref (ad (16 + 4 * q))), (2, .long x), (6, .int (nI i))] [] rfl (congrArg (fun x9 : Int64 => ([(4, .long x9), (0, .ref (ad 0)), (1, .ref (ad (16 + 4 * q))), (2, .long x), (6, .int (nI i))] : List (Nat × Value))) rfl) rfl ?_
    refine r_iinc X 4 [(6, .int (nI (i + 1))), (4, .long (foldD (rfS S q) x (i + 1))), (0, .ref (ad 0)), (1, .ref (ad (16 + 4 * q))), (2, .long x)] d_G_digestOfRoad_29 rfl (nI_1 i) (by decide) rfl ?_
    refine r_goto X 6 d_G_digestOfRoad_32 (by decide) ?_
    refine r_lv [2, 3, 4, 1, 0] [(0, .ref (ad 0)), (1, .ref (ad (16 + 4 * q))), (2, .long x), (4, .long (foldD (rfS S q) x (i + 1))), (6, .int (nI (i + 1)))] rfl ?_
    exact ih_i (i + 1) ⟨by omega, by omega⟩
set_option maxRecDepth 100000 in
set_option maxHeartbeats 4000000 in
/-- G_digest -/
theorem c_G_digest (l : Launch) (D : va_G) (cy : Nat → ClassId) (ad : Nat → Nat)  (S : cS) (J : jS) (hS : wfS S) : rMl l D cls (TY cy) NW y_G_digest (Cond.code y_G_digest b_G_digest 7 rt_G_digest :: W0) { frames := 6, cells := 0, slots := 0, locals := 140 } [.ref (ad 0)] ad (cont cy ad S J) (fun r ad' c' => digF S = r ∧ ad = ad' ∧ ∃ J9 : jS, cont cy ad S J9 = c') := by
  intro sz
  refine r_of (own := R_G) rfl (by decide +kernel) (Nat.le_of_ble_eq_true rfl) ?_
  intro p e s m below meth cd hsz X hr hlk hN hin
  have hb8 := hS.1
  have hb3 := hS.2.1
  refine r_lv [0] [(0, .ref (ad 0))] rfl ?_
  refine r_ldc2 X q_G_266 d_G_digest_0 ?_
  refine r_lstore_n X [(1, .long 4808), (0, .ref (ad 0))] d_G_digest_3 rfl (by decide) rfl ?_
  refine r_iconst X 0 d_G_digest_4 (by decide) ?_
  refine r_istore_n X [(3, .int 0), (1, .long 4808), (0, .ref (ad 0))] d_G_digest_5 rfl (by decide) rfl ?_
  refine r_lv [2, 1, 0] [(0, .ref (ad 0)), (1, .long (foldD (cntF S) 4808 0)), (3, .int (nI 0))] rfl ?_
  refine r_at (r_loop (σ := Nat) (fun f9 i => i ≤ 15 ∧ i + f9 = 15 + 1) (fun i => cont cy ad S J) 6 (fun i => [(0, .ref (ad 0)), (1, .long (foldD (cntF S) 4808 i)), (3, .int (nI i))]) (fun _ => []) (fun i h => by have h1 := h.1; have h2 := h.2; omega) (fun f9 i ih_i hI => ?_) (15 + 1 - 0) 0 ⟨by omega, by omega⟩) rfl rfl rfl rfl
  obtain ⟨hi8, hi9⟩ := hI
  refine r_iload_n X 2 d_G_digest_6 rfl rfl ?_
  refine r_bipush X 14 d_G_digest_7 (by decide) ?_
  refine r_top (y := nI 14) (by decide) ?_
  refine r_icmp_gt X 31 d_G_digest_9 (by decide) (fun h_9 => ?_) (fun h_9 => ?_)
  · have hi : 15 = i := by
      rcases Nat.lt_or_ge i 15 with h | h
      · exact absurd h_9 (nI_nlt (by omega) (by omega))
      · omega
    subst hi
    refine r_aload_n X 0 d_G_digest_31 rfl rfl ?_
    refine r_get X k_G 0 (by decide) f_G_11 rfl (ct_lo (by decide)) rfl d_G_digest_32 ?_
    refine r_astore_n X [(3, .ref (ad 1)), (0, .ref (ad 0)), (1, .long (foldD (cntF S) 4808 15))] d_G_digest_35 rfl (by decide) rfl ?_
    refine r_aload_n X 0 d_G_digest_36 rfl rfl ?_
    refine r_alen (v := nI 8) X 2 (ct_lo (by decide)) rfl rfl d_G_digest_37 ?_
    refine r_istore X [(4, .int (nI 8)), (3, .ref (ad 1)), (0, .ref (ad 0)), (1, .long (foldD (cntF S) 4808 15))] d_G_digest_38 (by decide) rfl ?_
    refine r_iconst X 0 d_G_digest_40 (by decide) ?_
    refine r_istore X [(5, .int 0), (4, .int (nI 8)), (3, .ref (ad 1)), (0, .ref (ad 0)), (1, .long (foldD (cntF S) 4808 15))] d_G_digest_41 (by decide) rfl ?_
    refine r_lv [3, 4, 2, 1, 0] [(0, .ref (ad 0)), (1, .long (rdD S (foldD (cntF S) 4808 15) 0)), (3, .ref (ad 1)), (4, .int (nI 8)), (5, .int (nI 0))] rfl ?_
    refine r_at (r_loop (σ := Nat × (sf8)) (fun f9 u9 => u9.1 ≤ 8 ∧ u9.1 + f9 = 8 + 1) (fun u9 => cont cy ad S (u9.2, J.2)) 43 (fun u9 => [(0, .ref (ad 0)), (1, .long (rdD S (foldD (cntF S) 4808 15) u9.1)), (3, .ref (ad 1)), (4, .int (nI 8)), (5, .int (nI u9.1))]) (fun _ => []) (fun u9 h => by have h1 := h.1; have h2 := h.2; omega) (fun f9 u9 ih_i hI => ?_) (8 + 1 - 0) (0, J.1) ⟨by omega, by omega⟩) rfl rfl rfl rfl
    obtain ⟨i, x⟩ := u9
    have hi8 : i ≤ 8 := hI.1
    have hi9 : i + (f9 + 1) = 8 + 1 := hI.2
    refine r_show (cont cy ad S (x, J.2)) [(0, .ref (ad 0)), (1, .long (rdD S (foldD (cntF S) 4808 15) i)), (3, .ref (ad 1)), (4, .int (nI 8)), (5, .int (nI i))] [] rfl rfl rfl ?_
    refine r_iload X 4 d_G_digest_43 rfl ?_
    refine r_iload X 3 d_G_digest_45 rfl ?_
    refine r_icmp_ge X 75 d_G_digest_47 (by decide) (fun h_47 => ?_) (fun h_47 => ?_)
    · have hi : 8 = i := by
        rcases Nat.lt_or_ge i 8 with h | h
        · exact absurd h_47 (nI_ge (by omega) (by omega))
        · omega
      subst hi
      refine r_aload_n X 0 d_G_digest_75 rfl rfl ?_
      refine r_get X k_G 1 (by decide) f_G_17 rfl (ct_lo (by decide)) rfl d_G_digest_76 ?_
      refine r_astore_n X [(3, .ref (ad 2)), (0, .ref (ad 0)), (1, .long (rdD S (foldD (cntF S) 4808 15) 8)), (4, .int (nI 8)), (5, .int (nI 8))] d_G_digest_79 rfl (by decide) rfl ?_
      refine r_aload_n X 0 d_G_digest_80 rfl rfl ?_
      refine r_alen (v := nI 3) X 3 (ct_lo (by decide)) rfl rfl d_G_digest_81 ?_
      refine r_istore X [(4, .int (nI 3)), (3, .ref (ad 2)), (0, .ref (ad 0)), (1, .long (rdD S (foldD (cntF S) 4808 15) 8)), (5, .int (nI 8))] d_G_digest_82 (by decide) rfl ?_
      refine r_iconst X 0 d_G_digest_84 (by decide) ?_
      refine r_istore X [(5, .int 0), (4, .int (nI 3)), (3, .ref (ad 2)), (0, .ref (ad 0)), (1, .long (rdD S (foldD (cntF S) 4808 15) 8))] d_G_digest_85 (by decide) rfl ?_
      refine r_lv [3, 4, 2, 1, 0] [(0, .ref (ad 0)), (1, .long (ldD S (rdD S (foldD (cntF S) 4808 15) 8) 0)), (3, .ref (ad 2)), (4, .int (nI 3)), (5, .int (nI 0))] rfl ?_
      refine r_at (r_loop (σ := Nat) (fun f9 i => i ≤ 3 ∧ i + f9 = 3 + 1) (fun i => cont cy ad S (x, J.2)) 87 (fun i => [(0, .ref (ad 0)), (1, .long (ldD S (rdD S (foldD (cntF S) 4808 15) 8) i)), (3, .ref (ad 2)), (4, .int (nI 3)), (5, .int (nI i))]) (fun _ => []) (fun i h => by have h1 := h.1; have h2 := h.2; omega) (fun f9 i ih_i hI => ?_) (3 + 1 - 0) 0 ⟨by omega, by omega⟩) rfl rfl rfl rfl
      obtain ⟨hi8, hi9⟩ := hI
      refine r_iload X 4 d_G_digest_87 rfl ?_
      refine r_iload X 3 d_G_digest_89 rfl ?_
      refine r_icmp_ge X 118 d_G_digest_91 (by decide) (fun h_91 => ?_) (fun h_91 => ?_)
      · have hi : 3 = i := by
          rcases Nat.lt_or_ge i 3 with h | h
          · exact absurd h_91 (nI_ge (by omega) (by omega))
          · omega
        subst hi
        refine r_iconst X 0 d_G_digest_118 (by decide) ?_
        refine r_istore_n X [(3, .int 0), (0, .ref (ad 0)), (1, .long (ldD S (rdD S (foldD (cntF S) 4808 15) 8) 3)), (4, .int (nI 3)), (5, .int (nI 3))] d_G_digest_119 rfl (by decide) rfl ?_
        refine r_lv [1, 2, 0] [(0, .ref (ad 0)), (1, .long (foldD (fun k => wayF S 0 (nI k)) (ldD S (rdD S (foldD (cntF S) 4808 15) 8) 3) 0)), (3, .int (nI 0))] rfl ?_
        refine r_at (r_loop (σ := Nat × (Nat → Int32)) (fun f9 u9 => u9.1 ≤ 7 ∧ u9.1 + f9 = 7 + 1) (fun u9 => cont cy ad S (x, u9.2, J.2.2)) 120 (fun u9 => [(0, .ref (ad 0)), (1, .long (foldD (fun k => wayF S 0 (nI k)) (ldD S (rdD S (foldD (cntF S) 4808 15) 8) 3) u9.1)), (3, .int (nI u9.1))]) (fun _ => []) (fun u9 h => by have h1 := h.1; have h2 := h.2; omega) (fun f9 u9 ih_i hI => ?_) (7 + 1 - 0) (0, J.2.1) ⟨by omega, by omega⟩) rfl rfl rfl rfl
        obtain ⟨i, W⟩ := u9
        have hi8 : i ≤ 7 := hI.1
        have hi9 : i + (f9 + 1) = 7 + 1 := hI.2
        refine r_show (cont cy ad S (x, W, J.2.2)) [(0, .ref (ad 0)), (1, .long (foldD (fun k => wayF S 0 (nI k)) (ldD S (rdD S (foldD (cntF S) 4808 15) 8) 3) i)), (3, .int (nI i))] [] rfl rfl rfl ?_
        refine r_iload_n X 2 d_G_digest_120 rfl rfl ?_
        refine r_bipush X 7 d_G_digest_121 (by decide) ?_
        refine r_top (y := nI 7) (by decide) ?_
        refine r_icmp_ge X 146 d_G_digest_123 (by decide) (fun h_123 => ?_) (fun h_123 => ?_)
        · have hi : 7 = i := by
            rcases Nat.lt_or_ge i 7 with h | h
            · exact absurd h_123 (nI_ge (by omega) (by omega))
            · omega
          subst hi
          refine r_aload_n X 0 d_G_digest_146 rfl rfl ?_
          refine r_get X k_G 9 (by decide) f_G_155 rfl (ct_lo (by decide)) rfl d_G_digest_147 ?_
          refine r_if_ne X 157 d_G_digest_150 (by decide) (fun h_150 => ?_) (fun h_150 => ?_)
          · refine r_lload_n X 1 d_G_digest_157 rfl rfl ?_
            refine r_ldc2 X q_G_268 d_G_digest_158 ?_
            refine r_lmul X d_G_digest_161 ?_
            refine r_aload_n X 0 d_G_digest_162 rfl rfl ?_
            refine r_get X k_G 7 (by decide) f_G_54 rfl (ct_lo (by decide)) rfl d_G_digest_163 ?_
            refine r_aload_n X 0 d_G_digest_166 rfl rfl ?_
            refine r_get X k_G 0 (by decide) f_G_11 rfl (ct_lo (by decide)) rfl d_G_digest_167 ?_
            refine r_iconst X 0 d_G_digest_170 (by decide) ?_
            refine r_Vi X W0_good hN (c_Rows_best l D cy ad S (x, W, J.2.2) hS 0) yv_Rows_best m_G_262 (ct_lo (by decide)) k_Rows.2.1 rfl rfl rfl ⟨by decide, by decide⟩ (Nat.le_of_ble_eq_true rfl) ⟨by decide, by decide⟩ d_G_digest_171 (fun r9 ad9 c9 hp9 => ?_)
            obtain ⟨rfl, rfl, K9, L9, rfl⟩ := hp9
            refine r_c (cont cy ad S (x, W, K9, L9)) rfl ?_
            refine r_i2l X d_G_digest_174 ?_
            refine r_ladd X d_G_digest_175 ?_
            exact r_lret (post := fun r ad' c' => digF S = r ∧ ad = ad' ∧ ∃ J9 : jS, cont cy ad S J9 = c') X hr hlk d_G_digest_176 (by decide) (by decide) ⟨if_neg h_150, rfl, (x, W, K9, L9), rfl⟩
          · refine r_lload_n X 1 d_G_digest_153 rfl rfl ?_
            refine r_goto X 176 d_G_digest_154 (by decide) ?_
            exact r_lret (post := fun r ad' c' => digF S = r ∧ ad = ad' ∧ ∃ J9 : jS, cont cy ad S J9 = c') X hr hlk d_G_digest_176 (by decide) (by decide) ⟨if_pos h_150, rfl, (x, W, J.2.2.1, J.2.2.2), rfl⟩
        · have hi : i < 7 := by
            rcases Nat.lt_or_ge i 7 with h | h
            · exact h
            · exact absurd (nI_le (by omega) (by omega)) h_123
          refine r_lload_n X 1 d_G_digest_126 rfl rfl ?_
          refine r_ldc2 X q_G_268 d_G_digest_127 ?_
          refine r_lmul X d_G_digest_130 ?_
          refine r_aload_n X 0 d_G_digest_131 rfl rfl ?_
          refine r_iconst X 0 d_G_digest_132 (by decide) ?_
          refine r_iload_n X 2 d_G_digest_133 rfl rfl ?_
          refine r_Vi X W0_good hN (c_G_shortestWay l D cy ad S (x, W, J.2.2) hS 0 (nI i)) yv_G_shortestWay m_G_242 (ct_lo (by decide)) k_G.2.1 rfl rfl rfl ⟨by decide, by decide⟩ (Nat.le_of_ble_eq_true rfl) ⟨by decide, by decide⟩ d_G_digest_134 (fun r9 ad9 c9 hp9 => ?_)
          obtain ⟨rfl, rfl, W9, rfl⟩ := hp9
          refine r_c (cont cy ad S (x, W9, J.2.2)) rfl ?_
          refine r_i2l X d_G_digest_137 ?_
          refine r_ladd X d_G_digest_138 ?_
          refine r_lstore_n X [(1, .long (((foldD (fun k => wayF S 0 (nI k)) (ldD S (rdD S (foldD (cntF S) 4808 15) 8) 3) i) * 31) + ((wayF S 0 (nI i)).toInt64))), (0, .ref (ad 0)), (3, .int (nI i))] d_G_digest_139 rfl (by decide) rfl ?_
          refine r_show (cont cy ad S (x, W9, J.2.2)) [(1, .long (foldD (fun k => wayF S 0 (nI k)) (ldD S (rdD S (foldD (cntF S) 4808 15) 8) 3) (i + 1))), (0, .ref (ad 0)), (3, .int (nI i))] [] rfl (congrArg (fun x9 : Int64 => ([(1, .long x9), (0, .ref (ad 0)), (3, .int (nI i))] : List (Nat × Value))) rfl) rfl ?_
          refine r_iinc X 2 [(3, .int (nI (i + 1))), (1, .long (foldD (fun k => wayF S 0 (nI k)) (ldD S (rdD S (foldD (cntF S) 4808 15) 8) 3) (i + 1))), (0, .ref (ad 0))] d_G_digest_140 rfl (nI_1 i) (by decide) rfl ?_
          refine r_goto X 120 d_G_digest_143 (by decide) ?_
          refine r_lv [2, 1, 0] [(0, .ref (ad 0)), (1, .long (foldD (fun k => wayF S 0 (nI k)) (ldD S (rdD S (foldD (cntF S) 4808 15) 8) 3) (i + 1))), (3, .int (nI (i + 1)))] rfl ?_
          exact ih_i ((i + 1, W9) : Nat × (Nat → Int32)) ⟨by omega, by omega⟩
      · have hi : i < 3 := by
          rcases Nat.lt_or_ge i 3 with h | h
          · exact h
          · exact absurd (nI_le (by omega) (by omega)) h_91
        refine r_aload_n X 2 d_G_digest_94 rfl rfl ?_
        refine r_iload X 4 d_G_digest_95 rfl ?_
        by_cases hr9 : i < sNl S
        · refine r_aald (v := .ref (ad (48 + 2 * i))) X 3 (ct_lo (by decide)) rfl (vp_in_nI hi (by decide)) (lRf_y (by omega) hr9) d_G_digest_97 ?_
          refine r_astore X [(6, .ref (ad (48 + 2 * i))), (0, .ref (ad 0)), (1, .long (ldD S (rdD S (foldD (cntF S) 4808 15) 8) i)), (3, .ref (ad 2)), (4, .int (nI 3)), (5, .int (nI i))] d_G_digest_98 (by decide) rfl ?_
          refine r_aload X 0 d_G_digest_100 rfl ?_
          refine r_ifnull X d_G_digest_102 ?_
          refine r_aload X 0 d_G_digest_105 rfl ?_
          refine r_lload_n X 2 d_G_digest_107 rfl rfl ?_
          refine r_Sl X W0_good hN (c_G_digestOfLorry l D cy ad S (x, J.2) hS i hr9 (ldD S (rdD S (foldD (cntF S) 4808 15) 8) i)) ys_G_digestOfLorry m_G_274 rfl rfl ⟨by decide, by decide⟩ (Nat.le_of_ble_eq_true rfl) ⟨by decide, by decide⟩ d_G_digest_108 (fun r9 ad9 c9 hp9 => ?_)
          obtain ⟨rfl, rfl, rfl⟩ := hp9
          refine r_lstore_n X [(1, .long (foldD (lfS S i) (ldD S (rdD S (foldD (cntF S) 4808 15) 8) i) 9)), (6, .ref (ad (48 + 2 * i))), (0, .ref (ad 0)), (3, .ref (ad 2)), (4, .int (nI 3)), (5, .int (nI i))] d_G_digest_111 rfl (by decide) rfl ?_
          refine r_show (cont cy ad S (x, J.2)) [(1, .long (ldD S (rdD S (foldD (cntF S) 4808 15) 8) (i + 1))), (6, .ref (ad (48 + 2 * i))), (0, .ref (ad 0)), (3, .ref (ad 2)), (4, .int (nI 3)), (5, .int (nI i))] [] rfl (congrArg (fun x9 : Int64 => ([(1, .long x9), (6, .ref (ad (48 + 2 * i))), (0, .ref (ad 0)), (3, .ref (ad 2)), (4, .int (nI 3)), (5, .int (nI i))] : List (Nat × Value))) (ld_y hr9)) rfl ?_
          refine r_iinc X 5 [(5, .int (nI (i + 1))), (1, .long (ldD S (rdD S (foldD (cntF S) 4808 15) 8) (i + 1))), (6, .ref (ad (48 + 2 * i))), (0, .ref (ad 0)), (3, .ref (ad 2)), (4, .int (nI 3))] d_G_digest_112 rfl (nI_1 i) (by decide) rfl ?_
          refine r_goto X 87 d_G_digest_115 (by decide) ?_
          refine r_lv [3, 1, 4, 5, 0] [(0, .ref (ad 0)), (1, .long (ldD S (rdD S (foldD (cntF S) 4808 15) 8) (i + 1))), (3, .ref (ad 2)), (4, .int (nI 3)), (5, .int (nI (i + 1)))] rfl ?_
          exact ih_i (i + 1) ⟨by omega, by omega⟩
        · refine r_aald (v := .null) X 3 (ct_lo (by decide)) rfl (vp_in_nI hi (by decide)) (lRf_n (by omega) hr9) d_G_digest_97 ?_
          refine r_astoreN X [(6, .null), (0, .ref (ad 0)), (1, .long (ldD S (rdD S (foldD (cntF S) 4808 15) 8) i)), (3, .ref (ad 2)), (4, .int (nI 3)), (5, .int (nI i))] d_G_digest_98 (by decide) rfl ?_
          refine r_aloadN X 0 d_G_digest_100 rfl ?_
          refine r_ifnullN X 112 d_G_digest_102 (by decide) ?_
          refine r_show (cont cy ad S (x, J.2)) [(6, .null), (0, .ref (ad 0)), (1, .long (ldD S (rdD S (foldD (cntF S) 4808 15) 8) (i + 1))), (3, .ref (ad 2)), (4, .int (nI 3)), (5, .int (nI i))] [] rfl (congrArg (fun x9 : Int64 => ([(6, .null), (0, .ref (ad 0)), (1, .long x9), (3, .ref (ad 2)), (4, .int (nI 3)), (5, .int (nI i))] : List (Nat × Value))) (ld_n hr9)) rfl ?_
          refine r_iinc X 5 [(5, .int (nI (i + 1))), (6, .null), (0, .ref (ad 0)), (1, .long (ldD S (rdD S (foldD (cntF S) 4808 15) 8) (i + 1))), (3, .ref (ad 2)), (4, .int (nI 3))] d_G_digest_112 rfl (nI_1 i) (by decide) rfl ?_
          refine r_goto X 87 d_G_digest_115 (by decide) ?_
          refine r_lv [2, 3, 4, 5, 0] [(0, .ref (ad 0)), (1, .long (ldD S (rdD S (foldD (cntF S) 4808 15) 8) (i + 1))), (3, .ref (ad 2)), (4, .int (nI 3)), (5, .int (nI (i + 1)))] rfl ?_
          exact ih_i (i + 1) ⟨by omega, by omega⟩
    · have hi : i < 8 := by
        rcases Nat.lt_or_ge i 8 with h | h
        · exact h
        · exact absurd (nI_le (by omega) (by omega)) h_47
      refine r_aload_n X 2 d_G_digest_50 rfl rfl ?_
      refine r_iload X 4 d_G_digest_51 rfl ?_
      by_cases hr9 : i < sNr S
      · refine r_aald (v := .ref (ad (16 + 4 * i))) X 2 (ct_lo (by decide)) rfl (vp_in_nI hi (by decide)) (rRf_y (by omega) hr9) d_G_digest_53 ?_
        refine r_astore X [(6, .ref (ad (16 + 4 * i))), (0, .ref (ad 0)), (1, .long (rdD S (foldD (cntF S) 4808 15) i)), (3, .ref (ad 1)), (4, .int (nI 8)), (5, .int (nI i))] d_G_digest_54 (by decide) rfl ?_
        refine r_aload X 0 d_G_digest_56 rfl ?_
        refine r_ifnull X d_G_digest_58 ?_
        refine r_aload_n X 1 d_G_digest_61 rfl rfl ?_
        refine r_aload X 0 d_G_digest_62 rfl ?_
        refine r_lload_n X 2 d_G_digest_64 rfl rfl ?_
        refine r_Vl X W0_good hN (c_G_digestOfRoad l D cy ad S (x, J.2) hS i hr9 (rdD S (foldD (cntF S) 4808 15) i)) yv_G_digestOfRoad m_G_270 (ct_lo (by decide)) k_G.2.1 rfl rfl rfl ⟨by decide, by decide⟩ (Nat.le_of_ble_eq_true rfl) ⟨by decide, by decide⟩ d_G_digest_65 (fun r9 ad9 c9 hp9 => ?_)
        obtain ⟨rfl, rfl, x9, rfl⟩ := hp9
        refine r_c (cont cy ad S (x9, J.2)) rfl ?_
        refine r_lstore_n X [(1, .long (drF S i (rdD S (foldD (cntF S) 4808 15) i))), (6, .ref (ad (16 + 4 * i))), (0, .ref (ad 0)), (3, .ref (ad 1)), (4, .int (nI 8)), (5, .int (nI i))] d_G_digest_68 rfl (by decide) rfl ?_
        refine r_show (cont cy ad S (x9, J.2)) [(1, .long (rdD S (foldD (cntF S) 4808 15) (i + 1))), (6, .ref (ad (16 + 4 * i))), (0, .ref (ad 0)), (3, .ref (ad 1)), (4, .int (nI 8)), (5, .int (nI i))] [] rfl (congrArg (fun x9 : Int64 => ([(1, .long x9), (6, .ref (ad (16 + 4 * i))), (0, .ref (ad 0)), (3, .ref (ad 1)), (4, .int (nI 8)), (5, .int (nI i))] : List (Nat × Value))) (rd_y hr9)) rfl ?_
        refine r_iinc X 5 [(5, .int (nI (i + 1))), (1, .long (rdD S (foldD (cntF S) 4808 15) (i + 1))), (6, .ref (ad (16 + 4 * i))), (0, .ref (ad 0)), (3, .ref (ad 1)), (4, .int (nI 8))] d_G_digest_69 rfl (nI_1 i) (by decide) rfl ?_
        refine r_goto X 43 d_G_digest_72 (by decide) ?_
        refine r_lv [3, 1, 4, 5, 0] [(0, .ref (ad 0)), (1, .long (rdD S (foldD (cntF S) 4808 15) (i + 1))), (3, .ref (ad 1)), (4, .int (nI 8)), (5, .int (nI (i + 1)))] rfl ?_
        exact ih_i ((i + 1, x9) : Nat × (sf8)) ⟨by omega, by omega⟩
      · refine r_aald (v := .null) X 2 (ct_lo (by decide)) rfl (vp_in_nI hi (by decide)) (rRf_n (by omega) hr9) d_G_digest_53 ?_
        refine r_astoreN X [(6, .null), (0, .ref (ad 0)), (1, .long (rdD S (foldD (cntF S) 4808 15) i)), (3, .ref (ad 1)), (4, .int (nI 8)), (5, .int (nI i))] d_G_digest_54 (by decide) rfl ?_
        refine r_aloadN X 0 d_G_digest_56 rfl ?_
        refine r_ifnullN X 69 d_G_digest_58 (by decide) ?_
        refine r_show (cont cy ad S (x, J.2)) [(6, .null), (0, .ref (ad 0)), (1, .long (rdD S (foldD (cntF S) 4808 15) (i + 1))), (3, .ref (ad 1)), (4, .int (nI 8)), (5, .int (nI i))] [] rfl (congrArg (fun x9 : Int64 => ([(6, .null), (0, .ref (ad 0)), (1, .long x9), (3, .ref (ad 1)), (4, .int (nI 8)), (5, .int (nI i))] : List (Nat × Value))) (rd_n hr9)) rfl ?_
        refine r_iinc X 5 [(5, .int (nI (i + 1))), (6, .null), (0, .ref (ad 0)), (1, .long (rdD S (foldD (cntF S) 4808 15) (i + 1))), (3, .ref (ad 1)), (4, .int (nI 8))] d_G_digest_69 rfl (nI_1 i) (by decide) rfl ?_
        refine r_goto X 43 d_G_digest_72 (by decide) ?_
        refine r_lv [2, 3, 4, 5, 0] [(0, .ref (ad 0)), (1, .long (rdD S (foldD (cntF S) 4808 15) (i + 1))), (3, .ref (ad 1)), (4, .int (nI 8)), (5, .int (nI (i + 1)))] rfl ?_
        exact ih_i ((i + 1, x) : Nat × (sf8)) ⟨by omega, by omega⟩
  · have hi : i < 15 := by
      rcases Nat.lt_or_ge i 15 with h | h
      · exact h
      · exact absurd (nI_lt (by omega) (by omega)) h_9
    refine r_lload_n X 1 d_G_digest_12 rfl rfl ?_
    refine r_ldc2 X q_G_268 d_G_digest_13 ?_
    refine r_lmul X d_G_digest_16 ?_
    refine r_aload_n X 0 d_G_digest_17 rfl rfl ?_
    refine r_iload_n X 2 d_G_digest_18 rfl rfl ?_
    refine r_Vi X W0_good hN (c_G_countOf l D cy ad S J hS i (by omega)) yv_G_countOf m_G_239 (ct_lo (by decide)) k_G.2.1 rfl rfl rfl ⟨by decide, by decide⟩ (Nat.le_of_ble_eq_true rfl) ⟨by decide, by decide⟩ d_G_digest_19 (fun r9 ad9 c9 hp9 => ?_)
    obtain ⟨rfl, rfl, rfl⟩ := hp9
    refine r_i2l X d_G_digest_22 ?_
    refine r_ladd X d_G_digest_23 ?_
    refine r_lstore_n X [(1, .long (((foldD (cntF S) 4808 i) * 31) + ((cntF S i).toInt64))), (0, .ref (ad 0)), (3, .int (nI i))] d_G_digest_24 rfl (by decide) rfl ?_
    refine r_show (cont cy ad S J) [(1, .long (foldD (cntF S) 4808 (i + 1))), (0, .ref (ad 0)), (3, .int (nI i))] [] rfl (congrArg (fun x9 : Int64 => ([(1, .long x9), (0, .ref (ad 0)), (3, .int (nI i))] : List (Nat × Value))) rfl) rfl ?_
    refine r_iinc X 2 [(3, .int (nI (i + 1))), (1, .long (foldD (cntF S) 4808 (i + 1))), (0, .ref (ad 0))] d_G_digest_25 rfl (nI_1 i) (by decide) rfl ?_
    refine r_goto X 6 d_G_digest_28 (by decide) ?_
    refine r_lv [2, 1, 0] [(0, .ref (ad 0)), (1, .long (foldD (cntF S) 4808 (i + 1))), (3, .int (nI (i + 1)))] rfl ?_
    exact ih_i (i + 1) ⟨by omega, by omega⟩
