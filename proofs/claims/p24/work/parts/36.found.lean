/-! the roads that are drawn: by program (wip/p24/mf.py) -/
theorem inF_in {j a b : Nat} (h1 : a ≤ j) (h2 : j ≤ b) (hb : b < 2 ^ 31) : inF (nI j) (nI a) (nI b) = 1 := by
  unfold inF
  rw [if_neg (nI_nlt h1 (by omega)), if_neg (nI_nlt h2 hb)]
/-- the least that is drawn from: the first two roads begin at the first node -/
def fN (k : Nat) : Nat := if k < 2 then 1 else 5
theorem fN_pos (k : Nat) : 0 < fN k := by unfold fN; split <;> decide
theorem fN_le (k : Nat) : fN k ≤ 5 := by unfold fN; split <;> decide
theorem fN_eq {k : Nat} (hk : k < 5) : (if (2 : Int32) ≤ nI k then (5 : Int32) else 1) = nI (fN k) := by
  unfold fN
  by_cases h : k < 2
  · rw [if_pos h]
    exact if_neg (show ¬ (2 : Int32) ≤ nI k from nI_ge h (by decide))
  · rw [if_neg h]
    exact if_pos (show (2 : Int32) ≤ nI k from nI_le (a := 2) (by omega) (by omega))
def fR7 (xs : Nat → Int32) (L d k : Nat) : rc9 := rc0 (nI (drw xs L d (fN k))) (nI ((drw xs L d (fN k) + 1 + drw xs L (d + 1) 4) % 5)) (nI (1 + drw xs L (d + 2) 4)) (nI (drw xs L (d + 3) 3)) (nI (drw xs L (d + 4) 10)) (nI (drw xs L (d + 5) 3)) (if nI (drw xs L (d + 6) 3) = 0 then 1 else 0)
def fdR (xs : Nat → Int32) (L d k : Nat) (S : cS) : cS := addR S (fR7 xs L d k) sf0 (fun _ => 0) (fun _ => 0)
def fdS (xs : Nat → Int32) (L d : Nat) : Nat → cS
  | 0 => S00
  | k + 1 => fdR xs L (d + 7 * k) k (fdS xs L d k)
theorem drw_lt {xs : Nat → Int32} {L d n : Nat} (h : 0 < n) : drw xs L d n < n := bel_lt h
theorem fd_nr {xs : Nat → Int32} {L d : Nat} : ∀ k, sNr (fdS xs L d k) = k
  | 0 => rfl
  | k + 1 => congrArg (· + 1) (fd_nr (xs := xs) (L := L) (d := d) k)
theorem fd_nl {xs : Nat → Int32} {L d : Nat} : ∀ k, sNl (fdS xs L d k) = 0
  | 0 => rfl
  | k + 1 => fd_nl (xs := xs) (L := L) (d := d) k
theorem fd_wf {xs : Nat → Int32} {L d : Nat} : ∀ k, k ≤ 8 → wfS (fdS xs L d k)
  | 0, _ => wf_00
  | k + 1, h => wf_addR (fd_wf (xs := xs) (L := L) (d := d) k (by omega)) (by rw [fd_nr]; omega)
set_option maxRecDepth 100000 in
set_option maxHeartbeats 4000000 in
theorem found_it {p : Program} {l : Launch} {e : Env} {s : State} {m : MethodId} {args : Array Value} {below : List Frame} {meth : Method} {cd : Code} {b9 L9 : Nat} {xs9 : Nat → Int32} {D : va_G} {cy : Nat → ClassId} {A : Nat → Prop} {Q : State → Prop} (X : rX p s m args cd b_Told_found 4 R_Told W0 D cls (TY cy) A) (hN : rN NW s) (hE : rE b9 L9 xs9 A s s.heap) (hL : L9 < 2 ^ 31) {d k : Nat} (hd : d + 7 ≤ 1000) (hk : k < 5) {S : cS} (hS : wfS S) (hSk : sNr S = k) {cells slots : Nat} (hcl : cells + 5 ≤ 25) (hsl : slots + 435 ≤ 2175) {ad : Nat → Nat} {c : rC} (hT0 : TB cy b9 S (nI d) 0 ad c) (kk : ∀ (ad' : Nat → Nat) (c' : rC), (ad' 0 = ad 0 ∧ ad' 64 = ad 64) → TB cy b9 (fdR xs9 L9 d k S) (nI (d + 7)) 0 ad' c' → rW p l e { frames := 8, cells := 25, slots := 2175, locals := 146 } s m args below meth cd 4 D cls A (cells + 5) (slots + 435) Q ad' c' 2 [(2, .int (nI (k + 1))), (1, .int 5), (0, .ref (ad' 0))] []) : rW p l e { frames := 8, cells := 25, slots := 2175, locals := 146 } s m args below meth cd 4 D cls A cells slots Q ad c 2 [(2, .int (nI k)), (1, .int 5), (0, .ref (ad 0))] [] := by
  have h8 : sNr S < 8 := by omega
  have h3 := hS.2.1
  obtain ⟨⟨w4_0, w5_0, w7_0, hb_0⟩, -⟩ := id hT0
  have z0 : drw xs9 L9 d (fN k) < fN k := drw_lt (fN_pos k)
  have z00 := fN_le k
  have z1 : drw xs9 L9 (d + 1) 4 < 4 := drw_lt (by decide)
  have z2 : drw xs9 L9 (d + 2) 4 < 4 := drw_lt (by decide)
  have z3 : drw xs9 L9 (d + 3) 3 < 3 := drw_lt (by decide)
  have z4 : drw xs9 L9 (d + 4) 10 < 10 := drw_lt (by decide)
  have z5 : drw xs9 L9 (d + 5) 3 < 3 := drw_lt (by decide)
  have z6 : drw xs9 L9 (d + 6) 3 < 3 := drw_lt (by decide)
  refine r_iload_n X 0 d_Told_found_2 rfl rfl ?_
  refine r_iload_n X 1 d_Told_found_3 rfl rfl ?_
  refine r_icmp_ge X 85 d_Told_found_4 (by decide) (fun h9 => absurd h9 (nI_ge hk (by decide))) (fun _ => ?_)
  refine r_aload_n X 2 d_Told_found_7 rfl rfl ?_
  refine r_iload_n X 0 d_Told_found_8 rfl rfl ?_
  refine r_iconst X 2 d_Told_found_9 (by decide) ?_
  refine r_cut (fun u9 : Int32 => u9 = (if 2 ≤ (nI k) then 5 else 1)) (fun _ => c) 18 (fun _ => [(2, .int (nI k)), (1, .int 5), (0, .ref (ad 0))]) (fun u9 => [.int u9, .ref (ad 0)]) (fun J9 => ?_) (fun t_1 ht_1 => ?_)
  · refine r_icmp_ge X 17 d_Told_found_10 (by decide) (fun h9 => ?_) (fun h9 => ?_)
    · refine r_iconst X 5 d_Told_found_17 (by decide) ?_
      exact J9 _ (if_pos h9).symm
    · refine r_iconst X 1 d_Told_found_13 (by decide) ?_
      refine r_goto X 18 d_Told_found_14 (by decide) ?_
      exact J9 _ (if_neg h9).symm
  subst ht_1
  refine r_top (y := nI (fN k)) (fN_eq hk) ?_
  refine x_Vi X W0_good hN hE (As := [.int (nI (fN k))]) (c_Told_draw l D cy b9 L9 xs9 ad c S d (fN k) (by omega) (fN_pos k) (Nat.lt_of_le_of_lt (fN_le k) (by decide)) hL hT0) yv_Told_draw m_Told_141 hb_0 k_Told.2.1 rfl rfl rfl ⟨by decide, by decide⟩ (Nat.le_of_ble_eq_true rfl) ⟨(by show cells + 0 ≤ 25; omega), (by show slots + 0 ≤ 2175; omega)⟩ d_Told_found_18 (fun r0 ad0 c0 hp9 => ?_)
  obtain ⟨rfl, rfl, hq⟩ := hp9
  have hT1 : TB cy b9 S (nI (d + 1)) 0 ad c0 := hq
  obtain ⟨⟨w4_1, w5_1, w7_1, hb_1⟩, -⟩ := id hT1
  refine r_istore_n X [(3, .int (nI (drw xs9 L9 d (fN k)))), (2, .int (nI k)), (1, .int 5), (0, .ref (ad 0))] d_Told_found_21 rfl (by decide) rfl ?_
  refine r_aload_n X 3 d_Told_found_22 rfl rfl ?_
  refine r_iload_n X 0 d_Told_found_23 rfl rfl ?_
  refine r_iload_n X 0 d_Told_found_24 rfl rfl ?_
  refine r_iconst X 1 d_Told_found_25 (by decide) ?_
  refine r_iadd X d_Told_found_26 ?_
  refine r_top (y := nI (drw xs9 L9 d (fN k) + 1)) (nI_1 _) ?_
  refine r_aload_n X 3 d_Told_found_27 rfl rfl ?_
  refine r_iconst X 4 d_Told_found_28 (by decide) ?_
  refine x_Vi X W0_good hN hE (As := [.int (nI 4)]) (c_Told_draw l D cy b9 L9 xs9 ad c0 S (d + 1) 4 (by omega) (by decide) (by decide) hL hT1) yv_Told_draw m_Told_141 hb_1 k_Told.2.1 rfl rfl rfl ⟨by decide, by decide⟩ (Nat.le_of_ble_eq_true rfl) ⟨(by show cells + 0 ≤ 25; omega), (by show slots + 0 ≤ 2175; omega)⟩ d_Told_found_29 (fun r1 ad1 c1 hp9 => ?_)
  obtain ⟨rfl, rfl, hq⟩ := hp9
  have hT2 : TB cy b9 S (nI (d + 2)) 0 ad c1 := hq
  obtain ⟨⟨w4_2, w5_2, w7_2, hb_2⟩, -⟩ := id hT2
  refine r_iadd X d_Told_found_32 ?_
  refine r_top (y := nI (drw xs9 L9 d (fN k) + 1 + drw xs9 L9 (d + 1) 4)) (nI_add _ _) ?_
  refine r_iconst X 5 d_Told_found_33 (by decide) ?_
  refine r_irem X d_Told_found_34 (by decide) ?_
  refine r_top (y := nI ((drw xs9 L9 d (fN k) + 1 + drw xs9 L9 (d + 1) 4) % 5)) (nI_r (b := 5) (by omega) (by decide)) ?_
  refine r_iconst X 1 d_Told_found_35 (by decide) ?_
  refine r_aload_n X 3 d_Told_found_36 rfl rfl ?_
  refine r_iconst X 4 d_Told_found_37 (by decide) ?_
  refine x_Vi X W0_good hN hE (As := [.int (nI 4)]) (c_Told_draw l D cy b9 L9 xs9 ad c1 S (d + 2) 4 (by omega) (by decide) (by decide) hL hT2) yv_Told_draw m_Told_141 hb_2 k_Told.2.1 rfl rfl rfl ⟨by decide, by decide⟩ (Nat.le_of_ble_eq_true rfl) ⟨(by show cells + 0 ≤ 25; omega), (by show slots + 0 ≤ 2175; omega)⟩ d_Told_found_38 (fun r2 ad2 c2 hp9 => ?_)
  obtain ⟨rfl, rfl, hq⟩ := hp9
  have hT3 : TB cy b9 S (nI (d + 3)) 0 ad c2 := hq
  obtain ⟨⟨w4_3, w5_3, w7_3, hb_3⟩, -⟩ := id hT3
  refine r_iadd X d_Told_found_41 ?_
  refine r_top (y := nI (1 + drw xs9 L9 (d + 2) 4)) (nI_add 1 _) ?_
  refine r_aload_n X 3 d_Told_found_42 rfl rfl ?_
  refine r_iconst X 3 d_Told_found_43 (by decide) ?_
  refine x_Vi X W0_good hN hE (As := [.int (nI 3)]) (c_Told_draw l D cy b9 L9 xs9 ad c2 S (d + 3) 3 (by omega) (by decide) (by decide) hL hT3) yv_Told_draw m_Told_141 hb_3 k_Told.2.1 rfl rfl rfl ⟨by decide, by decide⟩ (Nat.le_of_ble_eq_true rfl) ⟨(by show cells + 0 ≤ 25; omega), (by show slots + 0 ≤ 2175; omega)⟩ d_Told_found_44 (fun r3 ad3 c3 hp9 => ?_)
  obtain ⟨rfl, rfl, hq⟩ := hp9
  have hT4 : TB cy b9 S (nI (d + 4)) 0 ad c3 := hq
  obtain ⟨⟨w4_4, w5_4, w7_4, hb_4⟩, -⟩ := id hT4
  refine r_aload_n X 3 d_Told_found_47 rfl rfl ?_
  refine r_bipush X 10 d_Told_found_48 (by decide) ?_
  refine x_Vi X W0_good hN hE (As := [.int (nI 10)]) (c_Told_draw l D cy b9 L9 xs9 ad c3 S (d + 4) 10 (by omega) (by decide) (by decide) hL hT4) yv_Told_draw m_Told_141 hb_4 k_Told.2.1 rfl rfl rfl ⟨by decide, by decide⟩ (Nat.le_of_ble_eq_true rfl) ⟨(by show cells + 0 ≤ 25; omega), (by show slots + 0 ≤ 2175; omega)⟩ d_Told_found_50 (fun r4 ad4 c4 hp9 => ?_)
  obtain ⟨rfl, rfl, hq⟩ := hp9
  have hT5 : TB cy b9 S (nI (d + 5)) 0 ad c4 := hq
  obtain ⟨⟨w4_5, w5_5, w7_5, hb_5⟩, -⟩ := id hT5
  refine r_aload_n X 3 d_Told_found_53 rfl rfl ?_
  refine r_iconst X 3 d_Told_found_54 (by decide) ?_
  refine x_Vi X W0_good hN hE (As := [.int (nI 3)]) (c_Told_draw l D cy b9 L9 xs9 ad c4 S (d + 5) 3 (by omega) (by decide) (by decide) hL hT5) yv_Told_draw m_Told_141 hb_5 k_Told.2.1 rfl rfl rfl ⟨by decide, by decide⟩ (Nat.le_of_ble_eq_true rfl) ⟨(by show cells + 0 ≤ 25; omega), (by show slots + 0 ≤ 2175; omega)⟩ d_Told_found_55 (fun r5 ad5 c5 hp9 => ?_)
  obtain ⟨rfl, rfl, hq⟩ := hp9
  have hT6 : TB cy b9 S (nI (d + 6)) 0 ad c5 := hq
  obtain ⟨⟨w4_6, w5_6, w7_6, hb_6⟩, -⟩ := id hT6
  refine r_aload_n X 3 d_Told_found_58 rfl rfl ?_
  refine r_iconst X 3 d_Told_found_59 (by decide) ?_
  refine x_Vi X W0_good hN hE (As := [.int (nI 3)]) (c_Told_draw l D cy b9 L9 xs9 ad c5 S (d + 6) 3 (by omega) (by decide) (by decide) hL hT6) yv_Told_draw m_Told_141 hb_6 k_Told.2.1 rfl rfl rfl ⟨by decide, by decide⟩ (Nat.le_of_ble_eq_true rfl) ⟨(by show cells + 0 ≤ 25; omega), (by show slots + 0 ≤ 2175; omega)⟩ d_Told_found_60 (fun r6 ad6 c6 hp9 => ?_)
  obtain ⟨rfl, rfl, hq⟩ := hp9
  have hT7 : TB cy b9 S (nI (d + 7)) 0 ad c6 := hq
  obtain ⟨⟨w4_7, w5_7, w7_7, hb_7⟩, -⟩ := id hT7
  refine r_cut (fun u9 : Int32 => u9 = (if (nI (drw xs9 L9 (d + 6) 3)) = 0 then 1 else 0)) (fun _ => c6) 71 (fun _ => [(3, .int (nI (drw xs9 L9 d (fN k)))), (2, .int (nI k)), (1, .int 5), (0, .ref (ad 0))]) (fun u9 => [.int u9, .int (nI (drw xs9 L9 (d + 5) 3)), .int (nI (drw xs9 L9 (d + 4) 10)), .int (nI (drw xs9 L9 (d + 3) 3)), .int (nI (1 + drw xs9 L9 (d + 2) 4)), .int (nI ((drw xs9 L9 d (fN k) + 1 + drw xs9 L9 (d + 1) 4) % 5)), .int (nI (drw xs9 L9 d (fN k))), .ref (ad 0)]) (fun J9 => ?_) (fun t_2 ht_2 => ?_)
  · refine r_if_ne X 70 d_Told_found_63 (by decide) (fun h9 => ?_) (fun h9 => ?_)
    · refine r_iconst X 0 d_Told_found_70 (by decide) ?_
      exact J9 _ (if_neg h9).symm
    · refine r_iconst X 1 d_Told_found_66 (by decide) ?_
      refine r_goto X 71 d_Told_found_67 (by decide) ?_
      exact J9 _ (if_pos h9).symm
  subst ht_2
  refine r_Vi X W0_good hN (As := [.int (nI (drw xs9 L9 d (fN k))), .int (nI ((drw xs9 L9 d (fN k) + 1 + drw xs9 L9 (d + 1) 4) % 5)), .int (nI (1 + drw xs9 L9 (d + 2) 4)), .int (nI (drw xs9 L9 (d + 3) 3)), .int (nI (drw xs9 L9 (d + 4) 10)), .int (nI (drw xs9 L9 (d + 5) 3)), .int (if (nI (drw xs9 L9 (d + 6) 3)) = 0 then 1 else 0)]) (c_Told_road l D cy b9 ad c6 S (d + 7) hS h8 (nI (drw xs9 L9 d (fN k))) (nI ((drw xs9 L9 d (fN k) + 1 + drw xs9 L9 (d + 1) 4) % 5)) (nI (1 + drw xs9 L9 (d + 2) 4)) (nI (drw xs9 L9 (d + 3) 3)) (nI (drw xs9 L9 (d + 4) 10)) (nI (drw xs9 L9 (d + 5) 3)) (if (nI (drw xs9 L9 (d + 6) 3)) = 0 then 1 else 0) (inF_in (a := 0) (b := 6) (by omega) (by omega) (by decide)) (inF_in (a := 0) (b := 6) (by omega) (by omega) (by decide)) (fun z => by have := (nI_eq (by omega) (by omega)).mp z; omega) (inF_in (a := 1) (b := 6) (by omega) (by omega) (by decide)) (inF_in (a := 0) (b := 2) (by omega) (by omega) (by decide)) (inF_in (a := 0) (b := 9) (by omega) (by omega) (by decide)) (inF_in (a := 0) (b := 2) (by omega) (by omega) (by decide)) (by split <;> simp) hT7) yv_Told_road m_Told_144 hb_7 k_Told.2.1 rfl rfl rfl ⟨by decide, by decide⟩ (Nat.le_of_ble_eq_true rfl) ⟨(by show cells + 5 ≤ 25; omega), (by show slots + 435 ≤ 2175; omega)⟩ d_Told_found_71 (fun r9 ad9 c9 hp9 => ?_)
  obtain ⟨rfl, had, hT9⟩ := hp9
  refine r_show c9 [(3, .int (nI (drw xs9 L9 d (fN k)))), (2, .int (nI k)), (1, .int 5), (0, .ref (ad9 0))] [.int 1] rfl (by rw [had.1]) rfl ?_
  refine r_if_ne X 79 d_Told_found_74 (by decide) (fun _ => ?_) (fun h9 => absurd h9 (by decide))
  refine r_iinc X 1 [(2, .int (nI (k + 1))), (3, .int (nI (drw xs9 L9 d (fN k)))), (1, .int 5), (0, .ref (ad9 0))] d_Told_found_79 rfl (nI_1 k) (by decide) rfl ?_
  refine r_goto X 2 d_Told_found_82 (by decide) ?_
  refine r_lv [0, 2, 3] [(2, .int (nI (k + 1))), (1, .int 5), (0, .ref (ad9 0))] rfl ?_
  exact kk ad9 c9 had hT9
set_option maxRecDepth 100000 in
set_option maxHeartbeats 4000000 in
theorem c_Told_found (l : Launch) (D : va_G) (cy : Nat → ClassId) (b9 L9 : Nat) (xs9 : Nat → Int32) (ad : Nat → Nat) (c : rC) (d : Nat) (hd : d + 35 ≤ 1000) (hL : L9 < 2 ^ 31) (hT : TB cy b9 S00 (nI d) 0 ad c) : xMi l D cls (TY cy) NW b9 L9 xs9 y_Told_found (Cond.code y_Told_found b_Told_found 4 rt_Told_found :: W0) { frames := 8, cells := 25, slots := 2175, locals := 146 } [.ref (ad 0), .int 5] ad c (fun r ad' c' => 1 = r ∧ (ad' 0 = ad 0 ∧ ad' 64 = ad 64) ∧ TB cy b9 (fdS xs9 L9 d 5) (nI (d + 35)) 0 ad' c') := by
  intro sz
  refine x_of (own := R_Told) rfl (by decide +kernel) (Nat.le_of_ble_eq_true rfl) ?_
  intro p e s m below meth cd hsz X hr hlk hN hE hin
  refine r_lv [0, 1] [(0, .ref (ad 0)), (1, .int 5)] rfl ?_
  refine r_iconst X 0 d_Told_found_0 (by decide) ?_
  refine r_istore_n X [(2, .int 0), (0, .ref (ad 0)), (1, .int 5)] d_Told_found_1 rfl (by decide) rfl ?_
  refine r_lv [0, 2, 1] [(2, .int (nI 0)), (1, .int 5), (0, .ref (ad 0))] rfl ?_
  refine found_it X hN hE hL (d := d + 7 * 0) (k := 0) (by omega) (by decide) (S := fdS xs9 L9 d 0) (fd_wf 0 (by decide)) (fd_nr 0) (cells := 0) (slots := 0) (by decide) (by decide) hT (fun ad0 c0 he0 hT0 => ?_)
  refine found_it X hN hE hL (d := d + 7 * 1) (k := 1) (by omega) (by decide) (S := fdS xs9 L9 d 1) (fd_wf 1 (by decide)) (fd_nr 1) (cells := 5) (slots := 435) (by decide) (by decide) hT0 (fun ad1 c1 he1 hT1 => ?_)
  refine found_it X hN hE hL (d := d + 7 * 2) (k := 2) (by omega) (by decide) (S := fdS xs9 L9 d 2) (fd_wf 2 (by decide)) (fd_nr 2) (cells := 10) (slots := 870) (by decide) (by decide) hT1 (fun ad2 c2 he2 hT2 => ?_)
  refine found_it X hN hE hL (d := d + 7 * 3) (k := 3) (by omega) (by decide) (S := fdS xs9 L9 d 3) (fd_wf 3 (by decide)) (fd_nr 3) (cells := 15) (slots := 1305) (by decide) (by decide) hT2 (fun ad3 c3 he3 hT3 => ?_)
  refine found_it X hN hE hL (d := d + 7 * 4) (k := 4) (by omega) (by decide) (S := fdS xs9 L9 d 4) (fd_wf 4 (by decide)) (fd_nr 4) (cells := 20) (slots := 1740) (by decide) (by decide) hT3 (fun ad4 c4 he4 hT4 => ?_)
  refine r_lv [0, 1, 2] [(2, .int (nI 5)), (1, .int 5), (0, .ref (ad4 0))] rfl ?_
  refine r_show c4 [(2, .int 5), (1, .int 5), (0, .ref (ad4 0))] [] rfl rfl rfl ?_
  refine r_iload_n X 0 d_Told_found_2 rfl rfl ?_
  refine r_iload_n X 1 d_Told_found_3 rfl rfl ?_
  refine r_icmp_ge X 85 d_Told_found_4 (by decide) (fun _ => ?_) (fun h9 => absurd h9 (by decide))
  refine r_iconst X 1 d_Told_found_85 (by decide) ?_
  exact r_zret (post := fun r ad' c' => 1 = r ∧ (ad' 0 = ad 0 ∧ ad' 64 = ad 64) ∧ TB cy b9 (fdS xs9 L9 d 5) (nI (d + 35)) 0 ad' c') X hr hlk rfl d_Told_found_86 (by decide) (by decide) ⟨rfl, ⟨he4.1.trans (he3.1.trans (he2.1.trans (he1.1.trans he0.1))), he4.2.trans (he3.2.trans (he2.2.trans (he1.2.trans he0.2)))⟩, hT4⟩
