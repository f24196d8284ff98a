/-! the class on a fresh object: what it throws; forecasts, deliveries, ways, the mean warmth: by program (wip/p1/m4.py) -/
theorem jnC_sh {off : Nat} {c : rC} : jnC off c (shC off c) = c := by
  funext n
  unfold jnC
  by_cases h : off ≤ n ∧ n < off + 64
  · rw [if_pos h]
    unfold shC
    rw [if_pos (by omega), show off + (n - off) = n by omega]
  · rw [if_neg h]
theorem jnA_sh {off : Nat} {ad : Nat → Nat} : jnA off ad (shA off ad) = ad := by
  funext n
  unfold jnA
  by_cases h : off ≤ n ∧ n < off + 64
  · rw [if_pos h]
    unfold shA
    rw [show off + (n - off) = n by omega]
  · rw [if_neg h]
theorem vx_lift {l : Launch} {y : MethodName} {ws : List Cond} {rm : Room} {Pc Pc' : Array Value → State → Prop} {Qc Qc' : Array Value → State → Outcome → State → Prop} {XC XC' : String → State → State → Prop} {mc ms : Nat} {free free' : Addr → Prop} (h : vx_Met l y ws rm Pc Qc XC mc ms free) (hP : ∀ a U, Pc' a U → Pc a U) (hQ : ∀ a st o t, Pc' a st → Qc a st o t → Qc' a st o t) (hX : ∀ a E st t, Pc' a st → XC E st t → XC' E st t) (hf : ∀ q, free q → free' q) : vx_Met l y ws rm Pc' Qc' XC' mc ms free' := by
  intro p e hl h1 h2 s m args below hfr hap hPr hK
  obtain ⟨n, o, a1, a2, a3, a4⟩ := h p e hl h1 h2 s m args below hfr hap (hP _ _ hPr) hK
  refine ⟨n, o, a1, a2, a3, ?_⟩
  rcases a4 with ⟨b1, L, b2, b3⟩ | ⟨q, b1, E, ce, L, b2, b3, b4, b5, b6, b7, b8⟩
  · exact Or.inl ⟨hQ _ _ _ _ hPr b1, L, b2, fun q hq => hf _ (b3 q hq)⟩
  · exact Or.inr ⟨q, b1, E, ce, L, hX _ _ _ _ hPr b2, b3, b4, b5, b6, b7, fun z hz => hf _ (b8 z hz)⟩
theorem sub_t {l : Launch} {D : va_G} {cl : List vw_C} {tys : List (ClassId × FieldType)} {NW : List Cond} {t0 : Nat} {y : MethodName} {ws : List Cond} {rm : Room} {args : List Value} {ad : Nat → Nat} {c : rC} {E : String} (off : Nat) (h : xMt l D cl tys NW t0 y ws rm args (shA off ad) (shC off c) E) : xMt l D cl tys NW t0 y ws rm args ad c E := by
  intro sz
  refine vx_lift (h sz) (fun a U hU => ⟨hU.1, rP_sh hU.2.1, hU.2.2.call (locs := []) va_S.rf (State.WarmedH.refl U) rfl (fun q hq => rA_sh hq)⟩) (fun a st o t hU hq => ?_) (fun a E' st t hU hx => ?_) (fun q hq => rA_sh hq)
  · obtain ⟨⟨r, u, q1, q2, q3⟩, qF⟩ := hq
    exact q2.elim
  · obtain ⟨u, x1, ⟨x2, x3⟩, x4⟩ := hx
    have h9 := rp_jn_of hU.2.1 x4 x3
    rw [jnA_sh, jnC_sh] at h9
    exact ⟨u, x1, ⟨x2, h9⟩, vaF_sh x4⟩
set_option maxRecDepth 100000 in
set_option maxHeartbeats 4000000 in
theorem t_G_road_0 (l : Launch) (hst9 : l.stackTraces = false) (D : va_G) (cy : Nat → ClassId) (t0 : Nat) (ad : Nat → Nat)  (p0 p1 p2 p3 p4 p5 p6 : Int32) (h0 : inF p0 0 6 = 0) : xMt l D cls (TY cy) NW t0 y_G_road (Cond.code y_G_road b_G_road 9 rt_G_road :: W0) { frames := 6, cells := 1, slots := 6, locals := 90 } [.ref (ad 0), .int p0, .int p1, .int p2, .int p3, .int p4, .int p5, .int p6] ad (cont cy ad S00 J00) (E_ioo) := by
  intro sz
  refine x_oft (own := R_G) rfl (by decide +kernel) (Nat.le_of_ble_eq_true rfl) ?_
  intro p e s m below meth cd hsz X hno hlk hN hE
  refine r_lv [0, 1, 2, 3, 4, 5, 6, 7] [(0, .ref (ad 0)), (1, .int p0), (2, .int p1), (3, .int p2), (4, .int p3), (5, .int p4), (6, .int p5), (7, .int p6)] rfl ?_
  refine r_iload_n X 1 d_G_road_0 rfl rfl ?_
  refine r_Si X W0_good hN (c_G_isNode l D cy ad (cont cy ad S00 J00) p0) ys_G_isNode m_G_62 rfl rfl ⟨by decide, by decide⟩ (Nat.le_of_ble_eq_true rfl) ⟨by decide, by decide⟩ d_G_road_1 (fun r9 ad9 c9 hp9 => ?_)
  obtain ⟨rfl, rfl, rfl⟩ := hp9
  refine r_top (y := 0) h0 ?_
  refine r_if_eq X 14 d_G_road_4 (by decide) (fun _ => ?_) (fun h9 => absurd h9 (by decide))
  exact x_throw X hE hst9 hno hlk (E := E_ioo) (text := "no such node") (by decide +kernel) c_G_66 i_java_lang_IndexOutOfBoundsException (by decide +kernel) at_ioo (by decide) (by decide) ⟨by decide, by decide⟩ d_G_road_14 d_G_road_17 d_G_road_18 d_G_road_20 d_G_road_23
set_option maxRecDepth 100000 in
set_option maxHeartbeats 4000000 in
theorem t_G_road_1 (l : Launch) (hst9 : l.stackTraces = false) (D : va_G) (cy : Nat → ClassId) (t0 : Nat) (ad : Nat → Nat)  (p0 p1 p2 p3 p4 p5 p6 : Int32) (h0 : inF p0 0 6 = 1) (h1 : inF p1 0 6 = 0) : xMt l D cls (TY cy) NW t0 y_G_road (Cond.code y_G_road b_G_road 9 rt_G_road :: W0) { frames := 6, cells := 1, slots := 6, locals := 90 } [.ref (ad 0), .int p0, .int p1, .int p2, .int p3, .int p4, .int p5, .int p6] ad (cont cy ad S00 J00) (E_ioo) := by
  intro sz
  refine x_oft (own := R_G) rfl (by decide +kernel) (Nat.le_of_ble_eq_true rfl) ?_
  intro p e s m below meth cd hsz X hno hlk hN hE
  refine r_lv [0, 1, 2, 3, 4, 5, 6, 7] [(0, .ref (ad 0)), (1, .int p0), (2, .int p1), (3, .int p2), (4, .int p3), (5, .int p4), (6, .int p5), (7, .int p6)] rfl ?_
  refine r_iload_n X 1 d_G_road_0 rfl rfl ?_
  refine r_Si X W0_good hN (c_G_isNode l D cy ad (cont cy ad S00 J00) p0) ys_G_isNode m_G_62 rfl rfl ⟨by decide, by decide⟩ (Nat.le_of_ble_eq_true rfl) ⟨by decide, by decide⟩ d_G_road_1 (fun r9 ad9 c9 hp9 => ?_)
  obtain ⟨rfl, rfl, rfl⟩ := hp9
  refine r_top (y := 1) h0 ?_
  refine r_if_eq X 14 d_G_road_4 (by decide) (fun h9 => absurd h9 (by decide)) (fun _ => ?_)
  refine r_iload_n X 2 d_G_road_7 rfl rfl ?_
  refine r_Si X W0_good hN (c_G_isNode l D cy ad (cont cy ad S00 J00) p1) ys_G_isNode m_G_62 rfl rfl ⟨by decide, by decide⟩ (Nat.le_of_ble_eq_true rfl) ⟨by decide, by decide⟩ d_G_road_8 (fun r9 ad9 c9 hp9 => ?_)
  obtain ⟨rfl, rfl, rfl⟩ := hp9
  refine r_top (y := 0) h1 ?_
  refine r_if_ne X 24 d_G_road_11 (by decide) (fun h9 => absurd h9 (by decide)) (fun _ => ?_)
  exact x_throw X hE hst9 hno hlk (E := E_ioo) (text := "no such node") (by decide +kernel) c_G_66 i_java_lang_IndexOutOfBoundsException (by decide +kernel) at_ioo (by decide) (by decide) ⟨by decide, by decide⟩ d_G_road_14 d_G_road_17 d_G_road_18 d_G_road_20 d_G_road_23
set_option maxRecDepth 100000 in
set_option maxHeartbeats 4000000 in
theorem t_G_road_2 (l : Launch) (hst9 : l.stackTraces = false) (D : va_G) (cy : Nat → ClassId) (t0 : Nat) (ad : Nat → Nat)  (p0 p1 p2 p3 p4 p5 p6 : Int32) (h0 : inF p0 0 6 = 1) (h1 : inF p1 0 6 = 1) (h2 : p0 = p1) : xMt l D cls (TY cy) NW t0 y_G_road (Cond.code y_G_road b_G_road 9 rt_G_road :: W0) { frames := 6, cells := 1, slots := 6, locals := 90 } [.ref (ad 0), .int p0, .int p1, .int p2, .int p3, .int p4, .int p5, .int p6] ad (cont cy ad S00 J00) (E_iae) := by
  intro sz
  refine x_oft (own := R_G) rfl (by decide +kernel) (Nat.le_of_ble_eq_true rfl) ?_
  intro p e s m below meth cd hsz X hno hlk hN hE
  refine r_lv [0, 1, 2, 3, 4, 5, 6, 7] [(0, .ref (ad 0)), (1, .int p0), (2, .int p1), (3, .int p2), (4, .int p3), (5, .int p4), (6, .int p5), (7, .int p6)] rfl ?_
  refine r_iload_n X 1 d_G_road_0 rfl rfl ?_
  refine r_Si X W0_good hN (c_G_isNode l D cy ad (cont cy ad S00 J00) p0) ys_G_isNode m_G_62 rfl rfl ⟨by decide, by decide⟩ (Nat.le_of_ble_eq_true rfl) ⟨by decide, by decide⟩ d_G_road_1 (fun r9 ad9 c9 hp9 => ?_)
  obtain ⟨rfl, rfl, rfl⟩ := hp9
  refine r_top (y := 1) h0 ?_
  refine r_if_eq X 14 d_G_road_4 (by decide) (fun h9 => absurd h9 (by decide)) (fun _ => ?_)
  refine r_iload_n X 2 d_G_road_7 rfl rfl ?_
  refine r_Si X W0_good hN (c_G_isNode l D cy ad (cont cy ad S00 J00) p1) ys_G_isNode m_G_62 rfl rfl ⟨by decide, by decide⟩ (Nat.le_of_ble_eq_true rfl) ⟨by decide, by decide⟩ d_G_road_8 (fun r9 ad9 c9 hp9 => ?_)
  obtain ⟨rfl, rfl, rfl⟩ := hp9
  refine r_top (y := 1) h1 ?_
  refine r_if_ne X 24 d_G_road_11 (by decide) (fun _ => ?_) (fun h9 => absurd h9 (by decide))
  refine r_iload_n X 1 d_G_road_24 rfl rfl ?_
  refine r_iload_n X 2 d_G_road_25 rfl rfl ?_
  refine r_icmp_ne X 39 d_G_road_26 (by decide) (fun h9 => absurd h2 h9) (fun _ => ?_)
  exact x_throw X hE hst9 hno hlk (E := E_iae) (text := "both nodes are the same") (by decide +kernel) c_G_73 i_java_lang_IllegalArgumentException (by decide +kernel) at_iae (by decide) (by decide) ⟨by decide, by decide⟩ d_G_road_29 d_G_road_32 d_G_road_33 d_G_road_35 d_G_road_38
set_option maxRecDepth 100000 in
set_option maxHeartbeats 4000000 in
theorem t_G_road_3 (l : Launch) (hst9 : l.stackTraces = false) (D : va_G) (cy : Nat → ClassId) (t0 : Nat) (ad : Nat → Nat)  (p0 p1 p2 p3 p4 p5 p6 : Int32) (h0 : inF p0 0 6 = 1) (h1 : inF p1 0 6 = 1) (h2 : ¬ p0 = p1) (h3 : inF p2 1 6 = 0) : xMt l D cls (TY cy) NW t0 y_G_road (Cond.code y_G_road b_G_road 9 rt_G_road :: W0) { frames := 6, cells := 1, slots := 6, locals := 90 } [.ref (ad 0), .int p0, .int p1, .int p2, .int p3, .int p4, .int p5, .int p6] ad (cont cy ad S00 J00) (E_iae) := by
  intro sz
  refine x_oft (own := R_G) rfl (by decide +kernel) (Nat.le_of_ble_eq_true rfl) ?_
  intro p e s m below meth cd hsz X hno hlk hN hE
  refine r_lv [0, 1, 2, 3, 4, 5, 6, 7] [(0, .ref (ad 0)), (1, .int p0), (2, .int p1), (3, .int p2), (4, .int p3), (5, .int p4), (6, .int p5), (7, .int p6)] rfl ?_
  refine r_iload_n X 1 d_G_road_0 rfl rfl ?_
  refine r_Si X W0_good hN (c_G_isNode l D cy ad (cont cy ad S00 J00) p0) ys_G_isNode m_G_62 rfl rfl ⟨by decide, by decide⟩ (Nat.le_of_ble_eq_true rfl) ⟨by decide, by decide⟩ d_G_road_1 (fun r9 ad9 c9 hp9 => ?_)
  obtain ⟨rfl, rfl, rfl⟩ := hp9
  refine r_top (y := 1) h0 ?_
  refine r_if_eq X 14 d_G_road_4 (by decide) (fun h9 => absurd h9 (by decide)) (fun _ => ?_)
  refine r_iload_n X 2 d_G_road_7 rfl rfl ?_
  refine r_Si X W0_good hN (c_G_isNode l D cy ad (cont cy ad S00 J00) p1) ys_G_isNode m_G_62 rfl rfl ⟨by decide, by decide⟩ (Nat.le_of_ble_eq_true rfl) ⟨by decide, by decide⟩ d_G_road_8 (fun r9 ad9 c9 hp9 => ?_)
  obtain ⟨rfl, rfl, rfl⟩ := hp9
  refine r_top (y := 1) h1 ?_
  refine r_if_ne X 24 d_G_road_11 (by decide) (fun _ => ?_) (fun h9 => absurd h9 (by decide))
  refine r_iload_n X 1 d_G_road_24 rfl rfl ?_
  refine r_iload_n X 2 d_G_road_25 rfl rfl ?_
  refine r_icmp_ne X 39 d_G_road_26 (by decide) (fun _ => ?_) (fun h9 => absurd h9 h2)
  refine r_iload_n X 3 d_G_road_39 rfl rfl ?_
  refine r_iconst X 1 d_G_road_40 (by decide) ?_
  refine r_bipush X 6 d_G_road_41 (by decide) ?_
  refine r_Si X W0_good hN (c_G_isWithin l D cy ad (cont cy ad S00 J00) p2 1 6) ys_G_isWithin m_G_78 rfl rfl ⟨by decide, by decide⟩ (Nat.le_of_ble_eq_true rfl) ⟨by decide, by decide⟩ d_G_road_43 (fun r9 ad9 c9 hp9 => ?_)
  obtain ⟨rfl, rfl, rfl⟩ := hp9
  refine r_top (y := 0) h3 ?_
  refine r_if_eq X 80 d_G_road_46 (by decide) (fun _ => ?_) (fun h9 => absurd h9 (by decide))
  exact x_throw X hE hst9 hno hlk (E := E_iae) (text := "length, rank, height or shade is out of range") (by decide +kernel) c_G_73 i_java_lang_IllegalArgumentException (by decide +kernel) at_iae (by decide) (by decide) ⟨by decide, by decide⟩ d_G_road_80 d_G_road_83 d_G_road_84 d_G_road_86 d_G_road_89
set_option maxRecDepth 100000 in
set_option maxHeartbeats 4000000 in
theorem t_G_road_4 (l : Launch) (hst9 : l.stackTraces = false) (D : va_G) (cy : Nat → ClassId) (t0 : Nat) (ad : Nat → Nat)  (p0 p1 p2 p3 p4 p5 p6 : Int32) (h0 : inF p0 0 6 = 1) (h1 : inF p1 0 6 = 1) (h2 : ¬ p0 = p1) (h3 : inF p2 1 6 = 1) (h4 : inF p3 0 2 = 0) : xMt l D cls (TY cy) NW t0 y_G_road (Cond.code y_G_road b_G_road 9 rt_G_road :: W0) { frames := 6, cells := 1, slots := 6, locals := 90 } [.ref (ad 0), .int p0, .int p1, .int p2, .int p3, .int p4, .int p5, .int p6] ad (cont cy ad S00 J00) (E_iae) := by
  intro sz
  refine x_oft (own := R_G) rfl (by decide +kernel) (Nat.le_of_ble_eq_true rfl) ?_
  intro p e s m below meth cd hsz X hno hlk hN hE
  refine r_lv [0, 1, 2, 3, 4, 5, 6, 7] [(0, .ref (ad 0)), (1, .int p0), (2, .int p1), (3, .int p2), (4, .int p3), (5, .int p4), (6, .int p5), (7, .int p6)] rfl ?_
  refine r_iload_n X 1 d_G_road_0 rfl rfl ?_
  refine r_Si X W0_good hN (c_G_isNode l D cy ad (cont cy ad S00 J00) p0) ys_G_isNode m_G_62 rfl rfl ⟨by decide, by decide⟩ (Nat.le_of_ble_eq_true rfl) ⟨by decide, by decide⟩ d_G_road_1 (fun r9 ad9 c9 hp9 => ?_)
  obtain ⟨rfl, rfl, rfl⟩ := hp9
  refine r_top (y := 1) h0 ?_
  refine r_if_eq X 14 d_G_road_4 (by decide) (fun h9 => absurd h9 (by decide)) (fun _ => ?_)
  refine r_iload_n X 2 d_G_road_7 rfl rfl ?_
  refine r_Si X W0_good hN (c_G_isNode l D cy ad (cont cy ad S00 J00) p1) ys_G_isNode m_G_62 rfl rfl ⟨by decide, by decide⟩ (Nat.le_of_ble_eq_true rfl) ⟨by decide, by decide⟩ d_G_road_8 (fun r9 ad9 c9 hp9 => ?_)
  obtain ⟨rfl, rfl, rfl⟩ := hp9
  refine r_top (y := 1) h1 ?_
  refine r_if_ne X 24 d_G_road_11 (by decide) (fun _ => ?_) (fun h9 => absurd h9 (by decide))
  refine r_iload_n X 1 d_G_road_24 rfl rfl ?_
  refine r_iload_n X 2 d_G_road_25 rfl rfl ?_
  refine r_icmp_ne X 39 d_G_road_26 (by decide) (fun _ => ?_) (fun h9 => absurd h9 h2)
  refine r_iload_n X 3 d_G_road_39 rfl rfl ?_
  refine r_iconst X 1 d_G_road_40 (by decide) ?_
  refine r_bipush X 6 d_G_road_41 (by decide) ?_
  refine r_Si X W0_good hN (c_G_isWithin l D cy ad (cont cy ad S00 J00) p2 1 6) ys_G_isWithin m_G_78 rfl rfl ⟨by decide, by decide⟩ (Nat.le_of_ble_eq_true rfl) ⟨by decide, by decide⟩ d_G_road_43 (fun r9 ad9 c9 hp9 => ?_)
  obtain ⟨rfl, rfl, rfl⟩ := hp9
  refine r_top (y := 1) h3 ?_
  refine r_if_eq X 80 d_G_road_46 (by decide) (fun h9 => absurd h9 (by decide)) (fun _ => ?_)
  refine r_iload X 4 d_G_road_49 rfl ?_
  refine r_iconst X 0 d_G_road_51 (by decide) ?_
  refine r_iconst X 2 d_G_road_52 (by decide) ?_
  refine r_Si X W0_good hN (c_G_isWithin l D cy ad (cont cy ad S00 J00) p3 0 2) ys_G_isWithin m_G_78 rfl rfl ⟨by decide, by decide⟩ (Nat.le_of_ble_eq_true rfl) ⟨by decide, by decide⟩ d_G_road_53 (fun r9 ad9 c9 hp9 => ?_)
  obtain ⟨rfl, rfl, rfl⟩ := hp9
  refine r_top (y := 0) h4 ?_
  refine r_if_eq X 80 d_G_road_56 (by decide) (fun _ => ?_) (fun h9 => absurd h9 (by decide))
  exact x_throw X hE hst9 hno hlk (E := E_iae) (text := "length, rank, height or shade is out of range") (by decide +kernel) c_G_73 i_java_lang_IllegalArgumentException (by decide +kernel) at_iae (by decide) (by decide) ⟨by decide, by decide⟩ d_G_road_80 d_G_road_83 d_G_road_84 d_G_road_86 d_G_road_89
set_option maxRecDepth 100000 in
set_option maxHeartbeats 4000000 in
theorem t_G_road_5 (l : Launch) (hst9 : l.stackTraces = false) (D : va_G) (cy : Nat → ClassId) (t0 : Nat) (ad : Nat → Nat)  (p0 p1 p2 p3 p4 p5 p6 : Int32) (h0 : inF p0 0 6 = 1) (h1 : inF p1 0 6 = 1) (h2 : ¬ p0 = p1) (h3 : inF p2 1 6 = 1) (h4 : inF p3 0 2 = 1) (h5 : inF p4 0 9 = 0) : xMt l D cls (TY cy) NW t0 y_G_road (Cond.code y_G_road b_G_road 9 rt_G_road :: W0) { frames := 6, cells := 1, slots := 6, locals := 90 } [.ref (ad 0), .int p0, .int p1, .int p2, .int p3, .int p4, .int p5, .int p6] ad (cont cy ad S00 J00) (E_iae) := by
  intro sz
  refine x_oft (own := R_G) rfl (by decide +kernel) (Nat.le_of_ble_eq_true rfl) ?_
  intro p e s m below meth cd hsz X hno hlk hN hE
  refine r_lv [0, 1, 2, 3, 4, 5, 6, 7] [(0, .ref (ad 0)), (1, .int p0), (2, .int p1), (3, .int p2), (4, .int p3), (5, .int p4), (6, .int p5), (7, .int p6)] rfl ?_
  refine r_iload_n X 1 d_G_road_0 rfl rfl ?_
  refine r_Si X W0_good hN (c_G_isNode l D cy ad (cont cy ad S00 J00) p0) ys_G_isNode m_G_62 rfl rfl ⟨by decide, by decide⟩ (Nat.le_of_ble_eq_true rfl) ⟨by decide, by decide⟩ d_G_road_1 (fun r9 ad9 c9 hp9 => ?_)
  obtain ⟨rfl, rfl, rfl⟩ := hp9
  refine r_top (y := 1) h0 ?_
  refine r_if_eq X 14 d_G_road_4 (by decide) (fun h9 => absurd h9 (by decide)) (fun _ => ?_)
  refine r_iload_n X 2 d_G_road_7 rfl rfl ?_
  refine r_Si X W0_good hN (c_G_isNode l D cy ad (cont cy ad S00 J00) p1) ys_G_isNode m_G_62 rfl rfl ⟨by decide, by decide⟩ (Nat.le_of_ble_eq_true rfl) ⟨by decide, by decide⟩ d_G_road_8 (fun r9 ad9 c9 hp9 => ?_)
  obtain ⟨rfl, rfl, rfl⟩ := hp9
  refine r_top (y := 1) h1 ?_
  refine r_if_ne X 24 d_G_road_11 (by decide) (fun _ => ?_) (fun h9 => absurd h9 (by decide))
  refine r_iload_n X 1 d_G_road_24 rfl rfl ?_
  refine r_iload_n X 2 d_G_road_25 rfl rfl ?_
  refine r_icmp_ne X 39 d_G_road_26 (by decide) (fun _ => ?_) (fun h9 => absurd h9 h2)
  refine r_iload_n X 3 d_G_road_39 rfl rfl ?_
  refine r_iconst X 1 d_G_road_40 (by decide) ?_
  refine r_bipush X 6 d_G_road_41 (by decide) ?_
  refine r_Si X W0_good hN (c_G_isWithin l D cy ad (cont cy ad S00 J00) p2 1 6) ys_G_isWithin m_G_78 rfl rfl ⟨by decide, by decide⟩ (Nat.le_of_ble_eq_true rfl) ⟨by decide, by decide⟩ d_G_road_43 (fun r9 ad9 c9 hp9 => ?_)
  obtain ⟨rfl, rfl, rfl⟩ := hp9
  refine r_top (y := 1) h3 ?_
  refine r_if_eq X 80 d_G_road_46 (by decide) (fun h9 => absurd h9 (by decide)) (fun _ => ?_)
  refine r_iload X 4 d_G_road_49 rfl ?_
  refine r_iconst X 0 d_G_road_51 (by decide) ?_
  refine r_iconst X 2 d_G_road_52 (by decide) ?_
  refine r_Si X W0_good hN (c_G_isWithin l D cy ad (cont cy ad S00 J00) p3 0 2) ys_G_isWithin m_G_78 rfl rfl ⟨by decide, by decide⟩ (Nat.le_of_ble_eq_true rfl) ⟨by decide, by decide⟩ d_G_road_53 (fun r9 ad9 c9 hp9 => ?_)
  obtain ⟨rfl, rfl, rfl⟩ := hp9
  refine r_top (y := 1) h4 ?_
  refine r_if_eq X 80 d_G_road_56 (by decide) (fun h9 => absurd h9 (by decide)) (fun _ => ?_)
  refine r_iload X 5 d_G_road_59 rfl ?_
  refine r_iconst X 0 d_G_road_61 (by decide) ?_
  refine r_bipush X 9 d_G_road_62 (by decide) ?_
  refine r_Si X W0_good hN (c_G_isWithin l D cy ad (cont cy ad S00 J00) p4 0 9) ys_G_isWithin m_G_78 rfl rfl ⟨by decide, by decide⟩ (Nat.le_of_ble_eq_true rfl) ⟨by decide, by decide⟩ d_G_road_64 (fun r9 ad9 c9 hp9 => ?_)
  obtain ⟨rfl, rfl, rfl⟩ := hp9
  refine r_top (y := 0) h5 ?_
  refine r_if_eq X 80 d_G_road_67 (by decide) (fun _ => ?_) (fun h9 => absurd h9 (by decide))
  exact x_throw X hE hst9 hno hlk (E := E_iae) (text := "length, rank, height or shade is out of range") (by decide +kernel) c_G_73 i_java_lang_IllegalArgumentException (by decide +kernel) at_iae (by decide) (by decide) ⟨by decide, by decide⟩ d_G_road_80 d_G_road_83 d_G_road_84 d_G_road_86 d_G_road_89
set_option maxRecDepth 100000 in
set_option maxHeartbeats 4000000 in
theorem t_G_road_6 (l : Launch) (hst9 : l.stackTraces = false) (D : va_G) (cy : Nat → ClassId) (t0 : Nat) (ad : Nat → Nat)  (p0 p1 p2 p3 p4 p5 p6 : Int32) (h0 : inF p0 0 6 = 1) (h1 : inF p1 0 6 = 1) (h2 : ¬ p0 = p1) (h3 : inF p2 1 6 = 1) (h4 : inF p3 0 2 = 1) (h5 : inF p4 0 9 = 1) (h6 : inF p5 0 2 = 0) : xMt l D cls (TY cy) NW t0 y_G_road (Cond.code y_G_road b_G_road 9 rt_G_road :: W0) { frames := 6, cells := 1, slots := 6, locals := 90 } [.ref (ad 0), .int p0, .int p1, .int p2, .int p3, .int p4, .int p5, .int p6] ad (cont cy ad S00 J00) (E_iae) := by
  intro sz
  refine x_oft (own := R_G) rfl (by decide +kernel) (Nat.le_of_ble_eq_true rfl) ?_
  intro p e s m below meth cd hsz X hno hlk hN hE
  refine r_lv [0, 1, 2, 3, 4, 5, 6, 7] [(0, .ref (ad 0)), (1, .int p0), (2, .int p1), (3, .int p2), (4, .int p3), (5, .int p4), (6, .int p5), (7, .int p6)] rfl ?_
  refine r_iload_n X 1 d_G_road_0 rfl rfl ?_
  refine r_Si X W0_good hN (c_G_isNode l D cy ad (cont cy ad S00 J00) p0) ys_G_isNode m_G_62 rfl rfl ⟨by decide, by decide⟩ (Nat.le_of_ble_eq_true rfl) ⟨by decide, by decide⟩ d_G_road_1 (fun r9 ad9 c9 hp9 => ?_)
  obtain ⟨rfl, rfl, rfl⟩ := hp9
  refine r_top (y := 1) h0 ?_
  refine r_if_eq X 14 d_G_road_4 (by decide) (fun h9 => absurd h9 (by decide)) (fun _ => ?_)
  refine r_iload_n X 2 d_G_road_7 rfl rfl ?_
  refine r_Si X W0_good hN (c_G_isNode l D cy ad (cont cy ad S00 J00) p1) ys_G_isNode m_G_62 rfl rfl ⟨by decide, by decide⟩ (Nat.le_of_ble_eq_true rfl) ⟨by decide, by decide⟩ d_G_road_8 (fun r9 ad9 c9 hp9 => ?_)
  obtain ⟨rfl, rfl, rfl⟩ := hp9
  refine r_top (y := 1) h1 ?_
  refine r_if_ne X 24 d_G_road_11 (by decide) (fun _ => ?_) (fun h9 => absurd h9 (by decide))
  refine r_iload_n X 1 d_G_road_24 rfl rfl ?_
  refine r_iload_n X 2 d_G_road_25 rfl rfl ?_
  refine r_icmp_ne X 39 d_G_road_26 (by decide) (fun _ => ?_) (fun h9 => absurd h9 h2)
  refine r_iload_n X 3 d_G_road_39 rfl rfl ?_
  refine r_iconst X 1 d_G_road_40 (by decide) ?_
  refine r_bipush X 6 d_G_road_41 (by decide) ?_
  refine r_Si X W0_good hN (c_G_isWithin l D cy ad (cont cy ad S00 J00) p2 1 6) ys_G_isWithin m_G_78 rfl rfl ⟨by decide, by decide⟩ (Nat.le_of_ble_eq_true rfl) ⟨by decide, by decide⟩ d_G_road_43 (fun r9 ad9 c9 hp9 => ?_)
  obtain ⟨rfl, rfl, rfl⟩ := hp9
  refine r_top (y := 1) h3 ?_
  refine r_if_eq X 80 d_G_road_46 (by decide) (fun h9 => absurd h9 (by decide)) (fun _ => ?_)
  refine r_iload X 4 d_G_road_49 rfl ?_
  refine r_iconst X 0 d_G_road_51 (by decide) ?_
  refine r_iconst X 2 d_G_road_52 (by decide) ?_
  refine r_Si X W0_good hN (c_G_isWithin l D cy ad (cont cy ad S00 J00) p3 0 2) ys_G_isWithin m_G_78 rfl rfl ⟨by decide, by decide⟩ (Nat.le_of_ble_eq_true rfl) ⟨by decide, by decide⟩ d_G_road_53 (fun r9 ad9 c9 hp9 => ?_)
  obtain ⟨rfl, rfl, rfl⟩ := hp9
  refine r_top (y := 1) h4 ?_
  refine r_if_eq X 80 d_G_road_56 (by decide) (fun h9 => absurd h9 (by decide)) (fun _ => ?_)
  refine r_iload X 5 d_G_road_59 rfl ?_
  refine r_iconst X 0 d_G_road_61 (by decide) ?_
  refine r_bipush X 9 d_G_road_62 (by decide) ?_
  refine r_Si X W0_good hN (c_G_isWithin l D cy ad (cont cy ad S00 J00) p4 0 9) ys_G_isWithin m_G_78 rfl rfl ⟨by decide, by decide⟩ (Nat.le_of_ble_eq_true rfl) ⟨by decide, by decide⟩ d_G_road_64 (fun r9 ad9 c9 hp9 => ?_)
  obtain ⟨rfl, rfl, rfl⟩ := hp9
  refine r_top (y := 1) h5 ?_
  refine r_if_eq X 80 d_G_road_67 (by decide) (fun h9 => absurd h9 (by decide)) (fun _ => ?_)
  refine r_iload X 6 d_G_road_70 rfl ?_
  refine r_iconst X 0 d_G_road_72 (by decide) ?_
  refine r_iconst X 2 d_G_road_73 (by decide) ?_
  refine r_Si X W0_good hN (c_G_isWithin l D cy ad (cont cy ad S00 J00) p5 0 2) ys_G_isWithin m_G_78 rfl rfl ⟨by decide, by decide⟩ (Nat.le_of_ble_eq_true rfl) ⟨by decide, by decide⟩ d_G_road_74 (fun r9 ad9 c9 hp9 => ?_)
  obtain ⟨rfl, rfl, rfl⟩ := hp9
  refine r_top (y := 0) h6 ?_
  refine r_if_ne X 90 d_G_road_77 (by decide) (fun h9 => absurd h9 (by decide)) (fun _ => ?_)
  exact x_throw X hE hst9 hno hlk (E := E_iae) (text := "length, rank, height or shade is out of range") (by decide +kernel) c_G_73 i_java_lang_IllegalArgumentException (by decide +kernel) at_iae (by decide) (by decide) ⟨by decide, by decide⟩ d_G_road_80 d_G_road_83 d_G_road_84 d_G_road_86 d_G_road_89
set_option maxRecDepth 100000 in
set_option maxHeartbeats 4000000 in
theorem t_G_air_0 (l : Launch) (hst9 : l.stackTraces = false) (D : va_G) (cy : Nat → ClassId) (t0 : Nat) (ad : Nat → Nat)  (p0 p1 : Int32) (h0 : inF p0 (-20) 20 = 0) : xMt l D cls (TY cy) NW t0 y_G_air (Cond.code y_G_air b_G_air 4 rt_G_air :: W0) { frames := 6, cells := 1, slots := 6, locals := 90 } [.ref (ad 0), .int p0, .int p1] ad (cont cy ad S00 J00) (E_iae) := by
  intro sz
  refine x_oft (own := R_G) rfl (by decide +kernel) (Nat.le_of_ble_eq_true rfl) ?_
  intro p e s m below meth cd hsz X hno hlk hN hE
  refine r_lv [0, 1, 2] [(0, .ref (ad 0)), (1, .int p0), (2, .int p1)] rfl ?_
  refine r_iload_n X 1 d_G_air_0 rfl rfl ?_
  refine r_Si X W0_good hN (c_G_isAir l D cy ad (cont cy ad S00 J00) p0) ys_G_isAir m_G_95 rfl rfl ⟨by decide, by decide⟩ (Nat.le_of_ble_eq_true rfl) ⟨by decide, by decide⟩ d_G_air_1 (fun r9 ad9 c9 hp9 => ?_)
  obtain ⟨rfl, rfl, rfl⟩ := hp9
  refine r_top (y := 0) h0 ?_
  refine r_if_ne X 17 d_G_air_4 (by decide) (fun h9 => absurd h9 (by decide)) (fun _ => ?_)
  exact x_throw X hE hst9 hno hlk (E := E_iae) (text := "air is not -20 to 20") (by decide +kernel) c_G_73 i_java_lang_IllegalArgumentException (by decide +kernel) at_iae (by decide) (by decide) ⟨by decide, by decide⟩ d_G_air_7 d_G_air_10 d_G_air_11 d_G_air_13 d_G_air_16
set_option maxRecDepth 100000 in
set_option maxHeartbeats 4000000 in
theorem t_G_fall_0 (l : Launch) (hst9 : l.stackTraces = false) (D : va_G) (cy : Nat → ClassId) (t0 : Nat) (ad : Nat → Nat)  (p0 p1 p2 : Int32) (h0 : inF p0 0 3 = 0) : xMt l D cls (TY cy) NW t0 y_G_fall (Cond.code y_G_fall b_G_fall 5 rt_G_fall :: W0) { frames := 6, cells := 1, slots := 6, locals := 90 } [.ref (ad 0), .int p0, .int p1, .int p2] ad (cont cy ad S00 J00) (E_iae) := by
  intro sz
  refine x_oft (own := R_G) rfl (by decide +kernel) (Nat.le_of_ble_eq_true rfl) ?_
  intro p e s m below meth cd hsz X hno hlk hN hE
  refine r_lv [0, 1, 2, 3] [(0, .ref (ad 0)), (1, .int p0), (2, .int p1), (3, .int p2)] rfl ?_
  refine r_iload_n X 1 d_G_fall_0 rfl rfl ?_
  refine r_iconst X 0 d_G_fall_1 (by decide) ?_
  refine r_iconst X 3 d_G_fall_2 (by decide) ?_
  refine r_Si X W0_good hN (c_G_isWithin l D cy ad (cont cy ad S00 J00) p0 0 3) ys_G_isWithin m_G_78 rfl rfl ⟨by decide, by decide⟩ (Nat.le_of_ble_eq_true rfl) ⟨by decide, by decide⟩ d_G_fall_3 (fun r9 ad9 c9 hp9 => ?_)
  obtain ⟨rfl, rfl, rfl⟩ := hp9
  refine r_top (y := 0) h0 ?_
  refine r_if_eq X 27 d_G_fall_6 (by decide) (fun _ => ?_) (fun h9 => absurd h9 (by decide))
  exact x_throw X hE hst9 hno hlk (E := E_iae) (text := "rain, flakes or wind is not 0 to 3") (by decide +kernel) c_G_73 i_java_lang_IllegalArgumentException (by decide +kernel) at_iae (by decide) (by decide) ⟨by decide, by decide⟩ d_G_fall_27 d_G_fall_30 d_G_fall_31 d_G_fall_33 d_G_fall_36
set_option maxRecDepth 100000 in
set_option maxHeartbeats 4000000 in
theorem t_G_fall_1 (l : Launch) (hst9 : l.stackTraces = false) (D : va_G) (cy : Nat → ClassId) (t0 : Nat) (ad : Nat → Nat)  (p0 p1 p2 : Int32) (h0 : inF p0 0 3 = 1) (h1 : inF p1 0 3 = 0) : xMt l D cls (TY cy) NW t0 y_G_fall (Cond.code y_G_fall b_G_fall 5 rt_G_fall :: W0) { frames := 6, cells := 1, slots := 6, locals := 90 } [.ref (ad 0), .int p0, .int p1, .int p2] ad (cont cy ad S00 J00) (E_iae) := by
  intro sz
  refine x_oft (own := R_G) rfl (by decide +kernel) (Nat.le_of_ble_eq_true rfl) ?_
  intro p e s m below meth cd hsz X hno hlk hN hE
  refine r_lv [0, 1, 2, 3] [(0, .ref (ad 0)), (1, .int p0), (2, .int p1), (3, .int p2)] rfl ?_
  refine r_iload_n X 1 d_G_fall_0 rfl rfl ?_
  refine r_iconst X 0 d_G_fall_1 (by decide) ?_
  refine r_iconst X 3 d_G_fall_2 (by decide) ?_
  refine r_Si X W0_good hN (c_G_isWithin l D cy ad (cont cy ad S00 J00) p0 0 3) ys_G_isWithin m_G_78 rfl rfl ⟨by decide, by decide⟩ (Nat.le_of_ble_eq_true rfl) ⟨by decide, by decide⟩ d_G_fall_3 (fun r9 ad9 c9 hp9 => ?_)
  obtain ⟨rfl, rfl, rfl⟩ := hp9
  refine r_top (y := 1) h0 ?_
  refine r_if_eq X 27 d_G_fall_6 (by decide) (fun h9 => absurd h9 (by decide)) (fun _ => ?_)
  refine r_iload_n X 2 d_G_fall_9 rfl rfl ?_
  refine r_iconst X 0 d_G_fall_10 (by decide) ?_
  refine r_iconst X 3 d_G_fall_11 (by decide) ?_
  refine r_Si X W0_good hN (c_G_isWithin l D cy ad (cont cy ad S00 J00) p1 0 3) ys_G_isWithin m_G_78 rfl rfl ⟨by decide, by decide⟩ (Nat.le_of_ble_eq_true rfl) ⟨by decide, by decide⟩ d_G_fall_12 (fun r9 ad9 c9 hp9 => ?_)
  obtain ⟨rfl, rfl, rfl⟩ := hp9
  refine r_top (y := 0) h1 ?_
  refine r_if_eq X 27 d_G_fall_15 (by decide) (fun _ => ?_) (fun h9 => absurd h9 (by decide))
  exact x_throw X hE hst9 hno hlk (E := E_iae) (text := "rain, flakes or wind is not 0 to 3") (by decide +kernel) c_G_73 i_java_lang_IllegalArgumentException (by decide +kernel) at_iae (by decide) (by decide) ⟨by decide, by decide⟩ d_G_fall_27 d_G_fall_30 d_G_fall_31 d_G_fall_33 d_G_fall_36
set_option maxRecDepth 100000 in
set_option maxHeartbeats 4000000 in
theorem t_G_fall_2 (l : Launch) (hst9 : l.stackTraces = false) (D : va_G) (cy : Nat → ClassId) (t0 : Nat) (ad : Nat → Nat)  (p0 p1 p2 : Int32) (h0 : inF p0 0 3 = 1) (h1 : inF p1 0 3 = 1) (h2 : inF p2 0 3 = 0) : xMt l D cls (TY cy) NW t0 y_G_fall (Cond.code y_G_fall b_G_fall 5 rt_G_fall :: W0) { frames := 6, cells := 1, slots := 6, locals := 90 } [.ref (ad 0), .int p0, .int p1, .int p2] ad (cont cy ad S00 J00) (E_iae) := by
  intro sz
  refine x_oft (own := R_G) rfl (by decide +kernel) (Nat.le_of_ble_eq_true rfl) ?_
  intro p e s m below meth cd hsz X hno hlk hN hE
  refine r_lv [0, 1, 2, 3] [(0, .ref (ad 0)), (1, .int p0), (2, .int p1), (3, .int p2)] rfl ?_
  refine r_iload_n X 1 d_G_fall_0 rfl rfl ?_
  refine r_iconst X 0 d_G_fall_1 (by decide) ?_
  refine r_iconst X 3 d_G_fall_2 (by decide) ?_
  refine r_Si X W0_good hN (c_G_isWithin l D cy ad (cont cy ad S00 J00) p0 0 3) ys_G_isWithin m_G_78 rfl rfl ⟨by decide, by decide⟩ (Nat.le_of_ble_eq_true rfl) ⟨by decide, by decide⟩ d_G_fall_3 (fun r9 ad9 c9 hp9 => ?_)
  obtain ⟨rfl, rfl, rfl⟩ := hp9
  refine r_top (y := 1) h0 ?_
  refine r_if_eq X 27 d_G_fall_6 (by decide) (fun h9 => absurd h9 (by decide)) (fun _ => ?_)
  refine r_iload_n X 2 d_G_fall_9 rfl rfl ?_
  refine r_iconst X 0 d_G_fall_10 (by decide) ?_
  refine r_iconst X 3 d_G_fall_11 (by decide) ?_
  refine r_Si X W0_good hN (c_G_isWithin l D cy ad (cont cy ad S00 J00) p1 0 3) ys_G_isWithin m_G_78 rfl rfl ⟨by decide, by decide⟩ (Nat.le_of_ble_eq_true rfl) ⟨by decide, by decide⟩ d_G_fall_12 (fun r9 ad9 c9 hp9 => ?_)
  obtain ⟨rfl, rfl, rfl⟩ := hp9
  refine r_top (y := 1) h1 ?_
  refine r_if_eq X 27 d_G_fall_15 (by decide) (fun h9 => absurd h9 (by decide)) (fun _ => ?_)
  refine r_iload_n X 3 d_G_fall_18 rfl rfl ?_
  refine r_iconst X 0 d_G_fall_19 (by decide) ?_
  refine r_iconst X 3 d_G_fall_20 (by decide) ?_
  refine r_Si X W0_good hN (c_G_isWithin l D cy ad (cont cy ad S00 J00) p2 0 3) ys_G_isWithin m_G_78 rfl rfl ⟨by decide, by decide⟩ (Nat.le_of_ble_eq_true rfl) ⟨by decide, by decide⟩ d_G_fall_21 (fun r9 ad9 c9 hp9 => ?_)
  obtain ⟨rfl, rfl, rfl⟩ := hp9
  refine r_top (y := 0) h2 ?_
  refine r_if_ne X 37 d_G_fall_24 (by decide) (fun h9 => absurd h9 (by decide)) (fun _ => ?_)
  exact x_throw X hE hst9 hno hlk (E := E_iae) (text := "rain, flakes or wind is not 0 to 3") (by decide +kernel) c_G_73 i_java_lang_IllegalArgumentException (by decide +kernel) at_iae (by decide) (by decide) ⟨by decide, by decide⟩ d_G_fall_27 d_G_fall_30 d_G_fall_31 d_G_fall_33 d_G_fall_36
set_option maxRecDepth 100000 in
set_option maxHeartbeats 4000000 in
theorem t_G_forecast_0 (l : Launch) (hst9 : l.stackTraces = false) (D : va_G) (cy : Nat → ClassId) (t0 : Nat) (ad : Nat → Nat)  (p0 p1 p2 p3 p4 : Int32) (h0 : inF p0 1 48 = 0) : xMt l D cls (TY cy) NW t0 y_G_forecast (Cond.code y_G_forecast b_G_forecast 7 rt_G_forecast :: W0) { frames := 6, cells := 1, slots := 6, locals := 90 } [.ref (ad 0), .int p0, .int p1, .int p2, .int p3, .int p4] ad (cont cy ad S00 J00) (E_iae) := by
  intro sz
  refine x_oft (own := R_G) rfl (by decide +kernel) (Nat.le_of_ble_eq_true rfl) ?_
  intro p e s m below meth cd hsz X hno hlk hN hE
  refine r_lv [0, 1, 2, 3, 4, 5] [(0, .ref (ad 0)), (1, .int p0), (2, .int p1), (3, .int p2), (4, .int p3), (5, .int p4)] rfl ?_
  refine r_iload_n X 1 d_G_forecast_0 rfl rfl ?_
  refine r_iconst X 1 d_G_forecast_1 (by decide) ?_
  refine r_bipush X 48 d_G_forecast_2 (by decide) ?_
  refine r_Si X W0_good hN (c_G_isWithin l D cy ad (cont cy ad S00 J00) p0 1 48) ys_G_isWithin m_G_78 rfl rfl ⟨by decide, by decide⟩ (Nat.le_of_ble_eq_true rfl) ⟨by decide, by decide⟩ d_G_forecast_4 (fun r9 ad9 c9 hp9 => ?_)
  obtain ⟨rfl, rfl, rfl⟩ := hp9
  refine r_top (y := 0) h0 ?_
  refine r_if_ne X 20 d_G_forecast_7 (by decide) (fun h9 => absurd h9 (by decide)) (fun _ => ?_)
  exact x_throw X hE hst9 hno hlk (E := E_iae) (text := "later is not 1 to 48") (by decide +kernel) c_G_73 i_java_lang_IllegalArgumentException (by decide +kernel) at_iae (by decide) (by decide) ⟨by decide, by decide⟩ d_G_forecast_10 d_G_forecast_13 d_G_forecast_14 d_G_forecast_16 d_G_forecast_19
set_option maxRecDepth 100000 in
set_option maxHeartbeats 4000000 in
theorem t_G_forecast_1 (l : Launch) (hst9 : l.stackTraces = false) (D : va_G) (cy : Nat → ClassId) (t0 : Nat) (ad : Nat → Nat)  (p0 p1 p2 p3 p4 : Int32) (h0 : inF p0 1 48 = 1) (h1 : inF p1 (-20) 20 = 0) : xMt l D cls (TY cy) NW t0 y_G_forecast (Cond.code y_G_forecast b_G_forecast 7 rt_G_forecast :: W0) { frames := 6, cells := 1, slots := 6, locals := 90 } [.ref (ad 0), .int p0, .int p1, .int p2, .int p3, .int p4] ad (cont cy ad S00 J00) (E_iae) := by
  intro sz
  refine x_oft (own := R_G) rfl (by decide +kernel) (Nat.le_of_ble_eq_true rfl) ?_
  intro p e s m below meth cd hsz X hno hlk hN hE
  refine r_lv [0, 1, 2, 3, 4, 5] [(0, .ref (ad 0)), (1, .int p0), (2, .int p1), (3, .int p2), (4, .int p3), (5, .int p4)] rfl ?_
  refine r_iload_n X 1 d_G_forecast_0 rfl rfl ?_
  refine r_iconst X 1 d_G_forecast_1 (by decide) ?_
  refine r_bipush X 48 d_G_forecast_2 (by decide) ?_
  refine r_Si X W0_good hN (c_G_isWithin l D cy ad (cont cy ad S00 J00) p0 1 48) ys_G_isWithin m_G_78 rfl rfl ⟨by decide, by decide⟩ (Nat.le_of_ble_eq_true rfl) ⟨by decide, by decide⟩ d_G_forecast_4 (fun r9 ad9 c9 hp9 => ?_)
  obtain ⟨rfl, rfl, rfl⟩ := hp9
  refine r_top (y := 1) h0 ?_
  refine r_if_ne X 20 d_G_forecast_7 (by decide) (fun _ => ?_) (fun h9 => absurd h9 (by decide))
  refine r_iload_n X 2 d_G_forecast_20 rfl rfl ?_
  refine r_Si X W0_good hN (c_G_isAir l D cy ad (cont cy ad S00 J00) p1) ys_G_isAir m_G_95 rfl rfl ⟨by decide, by decide⟩ (Nat.le_of_ble_eq_true rfl) ⟨by decide, by decide⟩ d_G_forecast_21 (fun r9 ad9 c9 hp9 => ?_)
  obtain ⟨rfl, rfl, rfl⟩ := hp9
  refine r_top (y := 0) h1 ?_
  refine r_if_eq X 42 d_G_forecast_24 (by decide) (fun _ => ?_) (fun h9 => absurd h9 (by decide))
  exact x_throw X hE hst9 hno hlk (E := E_iae) (text := "an air is not -20 to 20") (by decide +kernel) c_G_73 i_java_lang_IllegalArgumentException (by decide +kernel) at_iae (by decide) (by decide) ⟨by decide, by decide⟩ d_G_forecast_42 d_G_forecast_45 d_G_forecast_46 d_G_forecast_48 d_G_forecast_51
set_option maxRecDepth 100000 in
set_option maxHeartbeats 4000000 in
theorem t_G_forecast_2 (l : Launch) (hst9 : l.stackTraces = false) (D : va_G) (cy : Nat → ClassId) (t0 : Nat) (ad : Nat → Nat)  (p0 p1 p2 p3 p4 : Int32) (h0 : inF p0 1 48 = 1) (h1 : inF p1 (-20) 20 = 1) (h2 : inF p2 (-20) 20 = 0) : xMt l D cls (TY cy) NW t0 y_G_forecast (Cond.code y_G_forecast b_G_forecast 7 rt_G_forecast :: W0) { frames := 6, cells := 1, slots := 6, locals := 90 } [.ref (ad 0), .int p0, .int p1, .int p2, .int p3, .int p4] ad (cont cy ad S00 J00) (E_iae) := by
  intro sz
  refine x_oft (own := R_G) rfl (by decide +kernel) (Nat.le_of_ble_eq_true rfl) ?_
  intro p e s m below meth cd hsz X hno hlk hN hE
  refine r_lv [0, 1, 2, 3, 4, 5] [(0, .ref (ad 0)), (1, .int p0), (2, .int p1), (3, .int p2), (4, .int p3), (5, .int p4)] rfl ?_
  refine r_iload_n X 1 d_G_forecast_0 rfl rfl ?_
  refine r_iconst X 1 d_G_forecast_1 (by decide) ?_
  refine r_bipush X 48 d_G_forecast_2 (by decide) ?_
  refine r_Si X W0_good hN (c_G_isWithin l D cy ad (cont cy ad S00 J00) p0 1 48) ys_G_isWithin m_G_78 rfl rfl ⟨by decide, by decide⟩ (Nat.le_of_ble_eq_true rfl) ⟨by decide, by decide⟩ d_G_forecast_4 (fun r9 ad9 c9 hp9 => ?_)
  obtain ⟨rfl, rfl, rfl⟩ := hp9
  refine r_top (y := 1) h0 ?_
  refine r_if_ne X 20 d_G_forecast_7 (by decide) (fun _ => ?_) (fun h9 => absurd h9 (by decide))
  refine r_iload_n X 2 d_G_forecast_20 rfl rfl ?_
  refine r_Si X W0_good hN (c_G_isAir l D cy ad (cont cy ad S00 J00) p1) ys_G_isAir m_G_95 rfl rfl ⟨by decide, by decide⟩ (Nat.le_of_ble_eq_true rfl) ⟨by decide, by decide⟩ d_G_forecast_21 (fun r9 ad9 c9 hp9 => ?_)
  obtain ⟨rfl, rfl, rfl⟩ := hp9
  refine r_top (y := 1) h1 ?_
  refine r_if_eq X 42 d_G_forecast_24 (by decide) (fun h9 => absurd h9 (by decide)) (fun _ => ?_)
  refine r_iload_n X 3 d_G_forecast_27 rfl rfl ?_
  refine r_Si X W0_good hN (c_G_isAir l D cy ad (cont cy ad S00 J00) p2) ys_G_isAir m_G_95 rfl rfl ⟨by decide, by decide⟩ (Nat.le_of_ble_eq_true rfl) ⟨by decide, by decide⟩ d_G_forecast_28 (fun r9 ad9 c9 hp9 => ?_)
  obtain ⟨rfl, rfl, rfl⟩ := hp9
  refine r_top (y := 0) h2 ?_
  refine r_if_eq X 42 d_G_forecast_31 (by decide) (fun _ => ?_) (fun h9 => absurd h9 (by decide))
  exact x_throw X hE hst9 hno hlk (E := E_iae) (text := "an air is not -20 to 20") (by decide +kernel) c_G_73 i_java_lang_IllegalArgumentException (by decide +kernel) at_iae (by decide) (by decide) ⟨by decide, by decide⟩ d_G_forecast_42 d_G_forecast_45 d_G_forecast_46 d_G_forecast_48 d_G_forecast_51
set_option maxRecDepth 100000 in
set_option maxHeartbeats 4000000 in
theorem t_G_forecast_3 (l : Launch) (hst9 : l.stackTraces = false) (D : va_G) (cy : Nat → ClassId) (t0 : Nat) (ad : Nat → Nat)  (p0 p1 p2 p3 p4 : Int32) (h0 : inF p0 1 48 = 1) (h1 : inF p1 (-20) 20 = 1) (h2 : inF p2 (-20) 20 = 1) (h3 : inF p3 (-20) 20 = 0) : xMt l D cls (TY cy) NW t0 y_G_forecast (Cond.code y_G_forecast b_G_forecast 7 rt_G_forecast :: W0) { frames := 6, cells := 1, slots := 6, locals := 90 } [.ref (ad 0), .int p0, .int p1, .int p2, .int p3, .int p4] ad (cont cy ad S00 J00) (E_iae) := by
  intro sz
  refine x_oft (own := R_G) rfl (by decide +kernel) (Nat.le_of_ble_eq_true rfl) ?_
  intro p e s m below meth cd hsz X hno hlk hN hE
  refine r_lv [0, 1, 2, 3, 4, 5] [(0, .ref (ad 0)), (1, .int p0), (2, .int p1), (3, .int p2), (4, .int p3), (5, .int p4)] rfl ?_
  refine r_iload_n X 1 d_G_forecast_0 rfl rfl ?_
  refine r_iconst X 1 d_G_forecast_1 (by decide) ?_
  refine r_bipush X 48 d_G_forecast_2 (by decide) ?_
  refine r_Si X W0_good hN (c_G_isWithin l D cy ad (cont cy ad S00 J00) p0 1 48) ys_G_isWithin m_G_78 rfl rfl ⟨by decide, by decide⟩ (Nat.le_of_ble_eq_true rfl) ⟨by decide, by decide⟩ d_G_forecast_4 (fun r9 ad9 c9 hp9 => ?_)
  obtain ⟨rfl, rfl, rfl⟩ := hp9
  refine r_top (y := 1) h0 ?_
  refine r_if_ne X 20 d_G_forecast_7 (by decide) (fun _ => ?_) (fun h9 => absurd h9 (by decide))
  refine r_iload_n X 2 d_G_forecast_20 rfl rfl ?_
  refine r_Si X W0_good hN (c_G_isAir l D cy ad (cont cy ad S00 J00) p1) ys_G_isAir m_G_95 rfl rfl ⟨by decide, by decide⟩ (Nat.le_of_ble_eq_true rfl) ⟨by decide, by decide⟩ d_G_forecast_21 (fun r9 ad9 c9 hp9 => ?_)
  obtain ⟨rfl, rfl, rfl⟩ := hp9
  refine r_top (y := 1) h1 ?_
  refine r_if_eq X 42 d_G_forecast_24 (by decide) (fun h9 => absurd h9 (by decide)) (fun _ => ?_)
  refine r_iload_n X 3 d_G_forecast_27 rfl rfl ?_
  refine r_Si X W0_good hN (c_G_isAir l D cy ad (cont cy ad S00 J00) p2) ys_G_isAir m_G_95 rfl rfl ⟨by decide, by decide⟩ (Nat.le_of_ble_eq_true rfl) ⟨by decide, by decide⟩ d_G_forecast_28 (fun r9 ad9 c9 hp9 => ?_)
  obtain ⟨rfl, rfl, rfl⟩ := hp9
  refine r_top (y := 1) h2 ?_
  refine r_if_eq X 42 d_G_forecast_31 (by decide) (fun h9 => absurd h9 (by decide)) (fun _ => ?_)
  refine r_iload X 4 d_G_forecast_34 rfl ?_
  refine r_Si X W0_good hN (c_G_isAir l D cy ad (cont cy ad S00 J00) p3) ys_G_isAir m_G_95 rfl rfl ⟨by decide, by decide⟩ (Nat.le_of_ble_eq_true rfl) ⟨by decide, by decide⟩ d_G_forecast_36 (fun r9 ad9 c9 hp9 => ?_)
  obtain ⟨rfl, rfl, rfl⟩ := hp9
  refine r_top (y := 0) h3 ?_
  refine r_if_ne X 52 d_G_forecast_39 (by decide) (fun h9 => absurd h9 (by decide)) (fun _ => ?_)
  exact x_throw X hE hst9 hno hlk (E := E_iae) (text := "an air is not -20 to 20") (by decide +kernel) c_G_73 i_java_lang_IllegalArgumentException (by decide +kernel) at_iae (by decide) (by decide) ⟨by decide, by decide⟩ d_G_forecast_42 d_G_forecast_45 d_G_forecast_46 d_G_forecast_48 d_G_forecast_51
set_option maxRecDepth 100000 in
set_option maxHeartbeats 4000000 in
theorem t_G_pass_0 (l : Launch) (hst9 : l.stackTraces = false) (D : va_G) (cy : Nat → ClassId) (t0 : Nat) (ad : Nat → Nat)  (p0 : Int32) (h0 : inF p0 1 20 = 0) : xMt l D cls (TY cy) NW t0 y_G_pass (Cond.code y_G_pass b_G_pass 4 rt_G_pass :: W0) { frames := 6, cells := 1, slots := 6, locals := 108 } [.ref (ad 0), .int p0] ad (cont cy ad S00 J00) (E_iae) := by
  intro sz
  refine x_oft (own := R_G) rfl (by decide +kernel) (Nat.le_of_ble_eq_true rfl) ?_
  intro p e s m below meth cd hsz X hno hlk hN hE
  refine r_lv [0, 1] [(0, .ref (ad 0)), (1, .int p0)] rfl ?_
  refine r_iload_n X 1 d_G_pass_0 rfl rfl ?_
  refine r_iconst X 1 d_G_pass_1 (by decide) ?_
  refine r_bipush X 20 d_G_pass_2 (by decide) ?_
  refine r_Si X W0_good hN (c_G_isWithin l D cy ad (cont cy ad S00 J00) p0 1 20) ys_G_isWithin m_G_78 rfl rfl ⟨by decide, by decide⟩ (Nat.le_of_ble_eq_true rfl) ⟨by decide, by decide⟩ d_G_pass_4 (fun r9 ad9 c9 hp9 => ?_)
  obtain ⟨rfl, rfl, rfl⟩ := hp9
  refine r_top (y := 0) h0 ?_
  refine r_if_ne X 20 d_G_pass_7 (by decide) (fun h9 => absurd h9 (by decide)) (fun _ => ?_)
  exact x_throw X hE hst9 hno hlk (E := E_iae) (text := "quarters is not 1 to 20") (by decide +kernel) c_G_73 i_java_lang_IllegalArgumentException (by decide +kernel) at_iae (by decide) (by decide) ⟨by decide, by decide⟩ d_G_pass_10 d_G_pass_13 d_G_pass_14 d_G_pass_16 d_G_pass_19
set_option maxRecDepth 100000 in
set_option maxHeartbeats 4000000 in
theorem t_G_rate_0 (l : Launch) (hst9 : l.stackTraces = false) (D : va_G) (cy : Nat → ClassId) (t0 : Nat) (ad : Nat → Nat)  (p0 p1 : Int32)  : xMt l D cls (TY cy) NW t0 y_G_rate (Cond.code y_G_rate b_G_rate 5 rt_G_rate :: W0) { frames := 6, cells := 1, slots := 6, locals := 90 } [.ref (ad 0), .int p0, .int p1] ad (cont cy ad S00 J00) (E_ioo) := by
  intro sz
  refine x_oft (own := R_G) rfl (by decide +kernel) (Nat.le_of_ble_eq_true rfl) ?_
  intro p e s m below meth cd hsz X hno hlk hN hE
  refine r_lv [0, 1, 2] [(0, .ref (ad 0)), (1, .int p0), (2, .int p1)] rfl ?_
  refine r_aload_n X 0 d_G_rate_0 rfl rfl ?_
  refine r_iload_n X 1 d_G_rate_1 rfl rfl ?_
  refine r_Vq X W0_good hN (c_G_lorryAt_n l D cy ad S00 J00 wf_00 p0 (fun j hj => absurd hj (Nat.not_lt_zero _))) yv_G_lorryAt m_G_163 (ct_lo (by decide)) k_G.2.1 rfl rfl rfl ⟨by decide, by decide⟩ (Nat.le_of_ble_eq_true rfl) ⟨by decide, by decide⟩ d_G_rate_2 (fun r9 ad9 c9 hp9 => ?_)
  obtain ⟨rfl, rfl, rfl⟩ := hp9
  refine r_astore_nN X [(3, .null), (0, .ref (ad 0)), (1, .int p0), (2, .int p1)] d_G_rate_5 rfl (by decide) rfl ?_
  refine r_aload_nN X 0 d_G_rate_6 rfl rfl ?_
  refine r_ifnonnullN X d_G_rate_7 ?_
  exact x_throw X hE hst9 hno hlk (E := E_ioo) (text := "no such lorry") (by decide +kernel) c_G_66 i_java_lang_IndexOutOfBoundsException (by decide +kernel) at_ioo (by decide) (by decide) ⟨by decide, by decide⟩ d_G_rate_10 d_G_rate_13 d_G_rate_14 d_G_rate_16 d_G_rate_19
set_option maxRecDepth 100000 in
set_option maxHeartbeats 4000000 in
theorem t_G_order_0 (l : Launch) (hst9 : l.stackTraces = false) (D : va_G) (cy : Nat → ClassId) (t0 : Nat) (ad : Nat → Nat)  (p0 p1 : Int32)  : xMt l D cls (TY cy) NW t0 y_G_order (Cond.code y_G_order b_G_order 4 rt_G_order :: W0) { frames := 6, cells := 1, slots := 6, locals := 90 } [.ref (ad 0), .int p0, .int p1] ad (cont cy ad S00 J00) (E_ioo) := by
  intro sz
  refine x_oft (own := R_G) rfl (by decide +kernel) (Nat.le_of_ble_eq_true rfl) ?_
  intro p e s m below meth cd hsz X hno hlk hN hE
  refine r_lv [0, 1, 2] [(0, .ref (ad 0)), (1, .int p0), (2, .int p1)] rfl ?_
  refine r_aload_n X 0 d_G_order_0 rfl rfl ?_
  refine r_iload_n X 1 d_G_order_1 rfl rfl ?_
  refine r_Vq X W0_good hN (c_G_lorryAt_n l D cy ad S00 J00 wf_00 p0 (fun j hj => absurd hj (Nat.not_lt_zero _))) yv_G_lorryAt m_G_163 (ct_lo (by decide)) k_G.2.1 rfl rfl rfl ⟨by decide, by decide⟩ (Nat.le_of_ble_eq_true rfl) ⟨by decide, by decide⟩ d_G_order_2 (fun r9 ad9 c9 hp9 => ?_)
  obtain ⟨rfl, rfl, rfl⟩ := hp9
  refine r_astore_nN X [(3, .null), (0, .ref (ad 0)), (1, .int p0), (2, .int p1)] d_G_order_5 rfl (by decide) rfl ?_
  refine r_aload_nN X 0 d_G_order_6 rfl rfl ?_
  refine r_ifnullN X 18 d_G_order_7 (by decide) ?_
  exact x_throw X hE hst9 hno hlk (E := E_ioo) (text := "no such lorry or road") (by decide +kernel) c_G_66 i_java_lang_IndexOutOfBoundsException (by decide +kernel) at_ioo (by decide) (by decide) ⟨by decide, by decide⟩ d_G_order_18 d_G_order_21 d_G_order_22 d_G_order_24 d_G_order_27
set_option maxRecDepth 100000 in
set_option maxHeartbeats 4000000 in
theorem t_G_load_0 (l : Launch) (hst9 : l.stackTraces = false) (D : va_G) (cy : Nat → ClassId) (t0 : Nat) (ad : Nat → Nat)  (p0 : Int32)  : xMt l D cls (TY cy) NW t0 y_G_load (Cond.code y_G_load b_G_load 4 rt_G_load :: W0) { frames := 6, cells := 1, slots := 6, locals := 90 } [.ref (ad 0), .int p0] ad (cont cy ad S00 J00) (E_ioo) := by
  intro sz
  refine x_oft (own := R_G) rfl (by decide +kernel) (Nat.le_of_ble_eq_true rfl) ?_
  intro p e s m below meth cd hsz X hno hlk hN hE
  refine r_lv [0, 1] [(0, .ref (ad 0)), (1, .int p0)] rfl ?_
  refine r_aload_n X 0 d_G_load_0 rfl rfl ?_
  refine r_iload_n X 1 d_G_load_1 rfl rfl ?_
  refine r_Vq X W0_good hN (c_G_lorryAt_n l D cy ad S00 J00 wf_00 p0 (fun j hj => absurd hj (Nat.not_lt_zero _))) yv_G_lorryAt m_G_163 (ct_lo (by decide)) k_G.2.1 rfl rfl rfl ⟨by decide, by decide⟩ (Nat.le_of_ble_eq_true rfl) ⟨by decide, by decide⟩ d_G_load_2 (fun r9 ad9 c9 hp9 => ?_)
  obtain ⟨rfl, rfl, rfl⟩ := hp9
  refine r_astore_nN X [(2, .null), (0, .ref (ad 0)), (1, .int p0)] d_G_load_5 rfl (by decide) rfl ?_
  refine r_aload_nN X 0 d_G_load_6 rfl rfl ?_
  refine r_ifnonnullN X d_G_load_7 ?_
  exact x_throw X hE hst9 hno hlk (E := E_ioo) (text := "no such lorry") (by decide +kernel) c_G_66 i_java_lang_IndexOutOfBoundsException (by decide +kernel) at_ioo (by decide) (by decide) ⟨by decide, by decide⟩ d_G_load_10 d_G_load_13 d_G_load_14 d_G_load_16 d_G_load_19
set_option maxRecDepth 100000 in
set_option maxHeartbeats 4000000 in
theorem t_G_rest_0 (l : Launch) (hst9 : l.stackTraces = false) (D : va_G) (cy : Nat → ClassId) (t0 : Nat) (ad : Nat → Nat)  (p0 : Int32)  : xMt l D cls (TY cy) NW t0 y_G_rest (Cond.code y_G_rest b_G_rest 4 rt_G_rest :: W0) { frames := 6, cells := 1, slots := 6, locals := 90 } [.ref (ad 0), .int p0] ad (cont cy ad S00 J00) (E_ioo) := by
  intro sz
  refine x_oft (own := R_G) rfl (by decide +kernel) (Nat.le_of_ble_eq_true rfl) ?_
  intro p e s m below meth cd hsz X hno hlk hN hE
  refine r_lv [0, 1] [(0, .ref (ad 0)), (1, .int p0)] rfl ?_
  refine r_aload_n X 0 d_G_rest_0 rfl rfl ?_
  refine r_iload_n X 1 d_G_rest_1 rfl rfl ?_
  refine r_Vq X W0_good hN (c_G_lorryAt_n l D cy ad S00 J00 wf_00 p0 (fun j hj => absurd hj (Nat.not_lt_zero _))) yv_G_lorryAt m_G_163 (ct_lo (by decide)) k_G.2.1 rfl rfl rfl ⟨by decide, by decide⟩ (Nat.le_of_ble_eq_true rfl) ⟨by decide, by decide⟩ d_G_rest_2 (fun r9 ad9 c9 hp9 => ?_)
  obtain ⟨rfl, rfl, rfl⟩ := hp9
  refine r_astore_nN X [(2, .null), (0, .ref (ad 0)), (1, .int p0)] d_G_rest_5 rfl (by decide) rfl ?_
  refine r_aload_nN X 0 d_G_rest_6 rfl rfl ?_
  refine r_ifnonnullN X d_G_rest_7 ?_
  exact x_throw X hE hst9 hno hlk (E := E_ioo) (text := "no such lorry") (by decide +kernel) c_G_66 i_java_lang_IndexOutOfBoundsException (by decide +kernel) at_ioo (by decide) (by decide) ⟨by decide, by decide⟩ d_G_rest_10 d_G_rest_13 d_G_rest_14 d_G_rest_16 d_G_rest_19
set_option maxRecDepth 100000 in
set_option maxHeartbeats 4000000 in
theorem t_G_deliver_0 (l : Launch) (hst9 : l.stackTraces = false) (D : va_G) (cy : Nat → ClassId) (t0 : Nat) (ad : Nat → Nat)  (p0 p1 : Int32) (h0 : inF p0 1 500 = 0) : xMt l D cls (TY cy) NW t0 y_G_deliver (Cond.code y_G_deliver b_G_deliver 3 rt_G_deliver :: W0) { frames := 6, cells := 1, slots := 6, locals := 90 } [.ref (ad 0), .int p0, .int p1] ad (cont cy ad S00 J00) (E_iae) := by
  intro sz
  refine x_oft (own := R_G) rfl (by decide +kernel) (Nat.le_of_ble_eq_true rfl) ?_
  intro p e s m below meth cd hsz X hno hlk hN hE
  refine r_lv [0, 1, 2] [(0, .ref (ad 0)), (1, .int p0), (2, .int p1)] rfl ?_
  refine r_iload_n X 1 d_G_deliver_0 rfl rfl ?_
  refine r_iconst X 1 d_G_deliver_1 (by decide) ?_
  refine r_sipush X 500 d_G_deliver_2 (by decide) ?_
  refine r_Si X W0_good hN (c_G_isWithin l D cy ad (cont cy ad S00 J00) p0 1 500) ys_G_isWithin m_G_78 rfl rfl ⟨by decide, by decide⟩ (Nat.le_of_ble_eq_true rfl) ⟨by decide, by decide⟩ d_G_deliver_5 (fun r9 ad9 c9 hp9 => ?_)
  obtain ⟨rfl, rfl, rfl⟩ := hp9
  refine r_top (y := 0) h0 ?_
  refine r_if_eq X 21 d_G_deliver_8 (by decide) (fun _ => ?_) (fun h9 => absurd h9 (by decide))
  exact x_throw X hE hst9 hno hlk (E := E_iae) (text := "amount is not 1 to 500, or later not 1 to 96") (by decide +kernel) c_G_73 i_java_lang_IllegalArgumentException (by decide +kernel) at_iae (by decide) (by decide) ⟨by decide, by decide⟩ d_G_deliver_21 d_G_deliver_24 d_G_deliver_25 d_G_deliver_27 d_G_deliver_30
set_option maxRecDepth 100000 in
set_option maxHeartbeats 4000000 in
theorem t_G_deliver_1 (l : Launch) (hst9 : l.stackTraces = false) (D : va_G) (cy : Nat → ClassId) (t0 : Nat) (ad : Nat → Nat)  (p0 p1 : Int32) (h0 : inF p0 1 500 = 1) (h1 : inF p1 1 96 = 0) : xMt l D cls (TY cy) NW t0 y_G_deliver (Cond.code y_G_deliver b_G_deliver 3 rt_G_deliver :: W0) { frames := 6, cells := 1, slots := 6, locals := 90 } [.ref (ad 0), .int p0, .int p1] ad (cont cy ad S00 J00) (E_iae) := by
  intro sz
  refine x_oft (own := R_G) rfl (by decide +kernel) (Nat.le_of_ble_eq_true rfl) ?_
  intro p e s m below meth cd hsz X hno hlk hN hE
  refine r_lv [0, 1, 2] [(0, .ref (ad 0)), (1, .int p0), (2, .int p1)] rfl ?_
  refine r_iload_n X 1 d_G_deliver_0 rfl rfl ?_
  refine r_iconst X 1 d_G_deliver_1 (by decide) ?_
  refine r_sipush X 500 d_G_deliver_2 (by decide) ?_
  refine r_Si X W0_good hN (c_G_isWithin l D cy ad (cont cy ad S00 J00) p0 1 500) ys_G_isWithin m_G_78 rfl rfl ⟨by decide, by decide⟩ (Nat.le_of_ble_eq_true rfl) ⟨by decide, by decide⟩ d_G_deliver_5 (fun r9 ad9 c9 hp9 => ?_)
  obtain ⟨rfl, rfl, rfl⟩ := hp9
  refine r_top (y := 1) h0 ?_
  refine r_if_eq X 21 d_G_deliver_8 (by decide) (fun h9 => absurd h9 (by decide)) (fun _ => ?_)
  refine r_iload_n X 2 d_G_deliver_11 rfl rfl ?_
  refine r_iconst X 1 d_G_deliver_12 (by decide) ?_
  refine r_bipush X 96 d_G_deliver_13 (by decide) ?_
  refine r_Si X W0_good hN (c_G_isWithin l D cy ad (cont cy ad S00 J00) p1 1 96) ys_G_isWithin m_G_78 rfl rfl ⟨by decide, by decide⟩ (Nat.le_of_ble_eq_true rfl) ⟨by decide, by decide⟩ d_G_deliver_15 (fun r9 ad9 c9 hp9 => ?_)
  obtain ⟨rfl, rfl, rfl⟩ := hp9
  refine r_top (y := 0) h1 ?_
  refine r_if_ne X 31 d_G_deliver_18 (by decide) (fun h9 => absurd h9 (by decide)) (fun _ => ?_)
  exact x_throw X hE hst9 hno hlk (E := E_iae) (text := "amount is not 1 to 500, or later not 1 to 96") (by decide +kernel) c_G_73 i_java_lang_IllegalArgumentException (by decide +kernel) at_iae (by decide) (by decide) ⟨by decide, by decide⟩ d_G_deliver_21 d_G_deliver_24 d_G_deliver_25 d_G_deliver_27 d_G_deliver_30
set_option maxRecDepth 100000 in
set_option maxHeartbeats 4000000 in
theorem t_G_claim_0 (l : Launch) (hst9 : l.stackTraces = false) (D : va_G) (cy : Nat → ClassId) (t0 : Nat) (ad : Nat → Nat)  (p0 p1 : Int32)  : xMt l D cls (TY cy) NW t0 y_G_claim (Cond.code y_G_claim b_G_claim 4 rt_G_claim :: W0) { frames := 6, cells := 1, slots := 6, locals := 94 } [.ref (ad 0), .int p0, .int p1] ad (cont cy ad S00 J00) (E_ioo) := by
  intro sz
  refine x_oft (own := R_G) rfl (by decide +kernel) (Nat.le_of_ble_eq_true rfl) ?_
  intro p e s m below meth cd hsz X hno hlk hN hE
  refine r_lv [0, 1, 2] [(0, .ref (ad 0)), (1, .int p0), (2, .int p1)] rfl ?_
  refine r_aload_n X 0 d_G_claim_0 rfl rfl ?_
  refine r_iload_n X 1 d_G_claim_1 rfl rfl ?_
  refine r_Vq X W0_good hN (c_G_roadAt_n l D cy ad S00 J00 wf_00 p0 (fun j hj => absurd hj (Nat.not_lt_zero _))) yv_G_roadAt m_G_174 (ct_lo (by decide)) k_G.2.1 rfl rfl rfl ⟨by decide, by decide⟩ (Nat.le_of_ble_eq_true rfl) ⟨by decide, by decide⟩ d_G_claim_2 (fun r9 ad9 c9 hp9 => ?_)
  obtain ⟨rfl, rfl, rfl⟩ := hp9
  refine r_astore_nN X [(3, .null), (0, .ref (ad 0)), (1, .int p0), (2, .int p1)] d_G_claim_5 rfl (by decide) rfl ?_
  refine r_aload_nN X 0 d_G_claim_6 rfl rfl ?_
  refine r_ifnonnullN X d_G_claim_7 ?_
  exact x_throw X hE hst9 hno hlk (E := E_ioo) (text := "no such road") (by decide +kernel) c_G_66 i_java_lang_IndexOutOfBoundsException (by decide +kernel) at_ioo (by decide) (by decide) ⟨by decide, by decide⟩ d_G_claim_10 d_G_claim_13 d_G_claim_14 d_G_claim_16 d_G_claim_19
set_option maxRecDepth 100000 in
set_option maxHeartbeats 4000000 in
theorem t_G_ofRoad_0 (l : Launch) (hst9 : l.stackTraces = false) (D : va_G) (cy : Nat → ClassId) (t0 : Nat) (ad : Nat → Nat)  (p0 p1 : Int32)  : xMt l D cls (TY cy) NW t0 y_G_ofRoad (Cond.code y_G_ofRoad b_G_ofRoad 4 rt_G_ofRoad :: W0) { frames := 6, cells := 1, slots := 6, locals := 90 } [.ref (ad 0), .int p0, .int p1] ad (cont cy ad S00 J00) (E_ioo) := by
  intro sz
  refine x_oft (own := R_G) rfl (by decide +kernel) (Nat.le_of_ble_eq_true rfl) ?_
  intro p e s m below meth cd hsz X hno hlk hN hE
  refine r_lv [0, 1, 2] [(0, .ref (ad 0)), (1, .int p0), (2, .int p1)] rfl ?_
  refine r_aload_n X 0 d_G_ofRoad_0 rfl rfl ?_
  refine r_iload_n X 1 d_G_ofRoad_1 rfl rfl ?_
  refine r_Vq X W0_good hN (c_G_roadAt_n l D cy ad S00 J00 wf_00 p0 (fun j hj => absurd hj (Nat.not_lt_zero _))) yv_G_roadAt m_G_174 (ct_lo (by decide)) k_G.2.1 rfl rfl rfl ⟨by decide, by decide⟩ (Nat.le_of_ble_eq_true rfl) ⟨by decide, by decide⟩ d_G_ofRoad_2 (fun r9 ad9 c9 hp9 => ?_)
  obtain ⟨rfl, rfl, rfl⟩ := hp9
  refine r_astore_nN X [(3, .null), (0, .ref (ad 0)), (1, .int p0), (2, .int p1)] d_G_ofRoad_5 rfl (by decide) rfl ?_
  refine r_aload_nN X 0 d_G_ofRoad_6 rfl rfl ?_
  refine r_ifnonnullN X d_G_ofRoad_7 ?_
  exact x_throw X hE hst9 hno hlk (E := E_ioo) (text := "no such road") (by decide +kernel) c_G_66 i_java_lang_IndexOutOfBoundsException (by decide +kernel) at_ioo (by decide) (by decide) ⟨by decide, by decide⟩ d_G_ofRoad_10 d_G_ofRoad_13 d_G_ofRoad_14 d_G_ofRoad_16 d_G_ofRoad_19
set_option maxRecDepth 100000 in
set_option maxHeartbeats 4000000 in
theorem t_G_ofLorry_0 (l : Launch) (hst9 : l.stackTraces = false) (D : va_G) (cy : Nat → ClassId) (t0 : Nat) (ad : Nat → Nat)  (p0 p1 : Int32)  : xMt l D cls (TY cy) NW t0 y_G_ofLorry (Cond.code y_G_ofLorry b_G_ofLorry 4 rt_G_ofLorry :: W0) { frames := 6, cells := 1, slots := 6, locals := 90 } [.ref (ad 0), .int p0, .int p1] ad (cont cy ad S00 J00) (E_ioo) := by
  intro sz
  refine x_oft (own := R_G) rfl (by decide +kernel) (Nat.le_of_ble_eq_true rfl) ?_
  intro p e s m below meth cd hsz X hno hlk hN hE
  refine r_lv [0, 1, 2] [(0, .ref (ad 0)), (1, .int p0), (2, .int p1)] rfl ?_
  refine r_aload_n X 0 d_G_ofLorry_0 rfl rfl ?_
  refine r_iload_n X 1 d_G_ofLorry_1 rfl rfl ?_
  refine r_Vq X W0_good hN (c_G_lorryAt_n l D cy ad S00 J00 wf_00 p0 (fun j hj => absurd hj (Nat.not_lt_zero _))) yv_G_lorryAt m_G_163 (ct_lo (by decide)) k_G.2.1 rfl rfl rfl ⟨by decide, by decide⟩ (Nat.le_of_ble_eq_true rfl) ⟨by decide, by decide⟩ d_G_ofLorry_2 (fun r9 ad9 c9 hp9 => ?_)
  obtain ⟨rfl, rfl, rfl⟩ := hp9
  refine r_astore_nN X [(3, .null), (0, .ref (ad 0)), (1, .int p0), (2, .int p1)] d_G_ofLorry_5 rfl (by decide) rfl ?_
  refine r_aload_nN X 0 d_G_ofLorry_6 rfl rfl ?_
  refine r_ifnonnullN X d_G_ofLorry_7 ?_
  exact x_throw X hE hst9 hno hlk (E := E_ioo) (text := "no such lorry") (by decide +kernel) c_G_66 i_java_lang_IndexOutOfBoundsException (by decide +kernel) at_ioo (by decide) (by decide) ⟨by decide, by decide⟩ d_G_ofLorry_10 d_G_ofLorry_13 d_G_ofLorry_14 d_G_ofLorry_16 d_G_ofLorry_19
set_option maxRecDepth 100000 in
set_option maxHeartbeats 4000000 in
theorem t_G_many_0 (l : Launch) (hst9 : l.stackTraces = false) (D : va_G) (cy : Nat → ClassId) (t0 : Nat) (ad : Nat → Nat)  (p0 : Int32) (h0 : inF p0 0 14 = 0) : xMt l D cls (TY cy) NW t0 y_G_many (Cond.code y_G_many b_G_many 2 rt_G_many :: W0) { frames := 6, cells := 1, slots := 6, locals := 90 } [.ref (ad 0), .int p0] ad (cont cy ad S00 J00) (E_iae) := by
  intro sz
  refine x_oft (own := R_G) rfl (by decide +kernel) (Nat.le_of_ble_eq_true rfl) ?_
  intro p e s m below meth cd hsz X hno hlk hN hE
  refine r_lv [0, 1] [(0, .ref (ad 0)), (1, .int p0)] rfl ?_
  refine r_iload_n X 1 d_G_many_0 rfl rfl ?_
  refine r_iconst X 0 d_G_many_1 (by decide) ?_
  refine r_bipush X 14 d_G_many_2 (by decide) ?_
  refine r_Si X W0_good hN (c_G_isWithin l D cy ad (cont cy ad S00 J00) p0 0 14) ys_G_isWithin m_G_78 rfl rfl ⟨by decide, by decide⟩ (Nat.le_of_ble_eq_true rfl) ⟨by decide, by decide⟩ d_G_many_4 (fun r9 ad9 c9 hp9 => ?_)
  obtain ⟨rfl, rfl, rfl⟩ := hp9
  refine r_top (y := 0) h0 ?_
  refine r_if_ne X 20 d_G_many_7 (by decide) (fun h9 => absurd h9 (by decide)) (fun _ => ?_)
  exact x_throw X hE hst9 hno hlk (E := E_iae) (text := "what is not 0 to 14") (by decide +kernel) c_G_73 i_java_lang_IllegalArgumentException (by decide +kernel) at_iae (by decide) (by decide) ⟨by decide, by decide⟩ d_G_many_10 d_G_many_13 d_G_many_14 d_G_many_16 d_G_many_19
set_option maxRecDepth 100000 in
set_option maxHeartbeats 4000000 in
theorem t_G_way_0 (l : Launch) (hst9 : l.stackTraces = false) (D : va_G) (cy : Nat → ClassId) (t0 : Nat) (ad : Nat → Nat)  (p0 p1 : Int32) (h0 : inF p0 0 6 = 0) : xMt l D cls (TY cy) NW t0 y_G_way (Cond.code y_G_way b_G_way 3 rt_G_way :: W0) { frames := 6, cells := 1, slots := 6, locals := 90 } [.ref (ad 0), .int p0, .int p1] ad (cont cy ad S00 J00) (E_ioo) := by
  intro sz
  refine x_oft (own := R_G) rfl (by decide +kernel) (Nat.le_of_ble_eq_true rfl) ?_
  intro p e s m below meth cd hsz X hno hlk hN hE
  refine r_lv [0, 1, 2] [(0, .ref (ad 0)), (1, .int p0), (2, .int p1)] rfl ?_
  refine r_iload_n X 1 d_G_way_0 rfl rfl ?_
  refine r_Si X W0_good hN (c_G_isNode l D cy ad (cont cy ad S00 J00) p0) ys_G_isNode m_G_62 rfl rfl ⟨by decide, by decide⟩ (Nat.le_of_ble_eq_true rfl) ⟨by decide, by decide⟩ d_G_way_1 (fun r9 ad9 c9 hp9 => ?_)
  obtain ⟨rfl, rfl, rfl⟩ := hp9
  refine r_top (y := 0) h0 ?_
  refine r_if_eq X 14 d_G_way_4 (by decide) (fun _ => ?_) (fun h9 => absurd h9 (by decide))
  exact x_throw X hE hst9 hno hlk (E := E_ioo) (text := "no such node") (by decide +kernel) c_G_66 i_java_lang_IndexOutOfBoundsException (by decide +kernel) at_ioo (by decide) (by decide) ⟨by decide, by decide⟩ d_G_way_14 d_G_way_17 d_G_way_18 d_G_way_20 d_G_way_23
set_option maxRecDepth 100000 in
set_option maxHeartbeats 4000000 in
theorem t_G_way_1 (l : Launch) (hst9 : l.stackTraces = false) (D : va_G) (cy : Nat → ClassId) (t0 : Nat) (ad : Nat → Nat)  (p0 p1 : Int32) (h0 : inF p0 0 6 = 1) (h1 : inF p1 0 6 = 0) : xMt l D cls (TY cy) NW t0 y_G_way (Cond.code y_G_way b_G_way 3 rt_G_way :: W0) { frames := 6, cells := 1, slots := 6, locals := 90 } [.ref (ad 0), .int p0, .int p1] ad (cont cy ad S00 J00) (E_ioo) := by
  intro sz
  refine x_oft (own := R_G) rfl (by decide +kernel) (Nat.le_of_ble_eq_true rfl) ?_
  intro p e s m below meth cd hsz X hno hlk hN hE
  refine r_lv [0, 1, 2] [(0, .ref (ad 0)), (1, .int p0), (2, .int p1)] rfl ?_
  refine r_iload_n X 1 d_G_way_0 rfl rfl ?_
  refine r_Si X W0_good hN (c_G_isNode l D cy ad (cont cy ad S00 J00) p0) ys_G_isNode m_G_62 rfl rfl ⟨by decide, by decide⟩ (Nat.le_of_ble_eq_true rfl) ⟨by decide, by decide⟩ d_G_way_1 (fun r9 ad9 c9 hp9 => ?_)
  obtain ⟨rfl, rfl, rfl⟩ := hp9
  refine r_top (y := 1) h0 ?_
  refine r_if_eq X 14 d_G_way_4 (by decide) (fun h9 => absurd h9 (by decide)) (fun _ => ?_)
  refine r_iload_n X 2 d_G_way_7 rfl rfl ?_
  refine r_Si X W0_good hN (c_G_isNode l D cy ad (cont cy ad S00 J00) p1) ys_G_isNode m_G_62 rfl rfl ⟨by decide, by decide⟩ (Nat.le_of_ble_eq_true rfl) ⟨by decide, by decide⟩ d_G_way_8 (fun r9 ad9 c9 hp9 => ?_)
  obtain ⟨rfl, rfl, rfl⟩ := hp9
  refine r_top (y := 0) h1 ?_
  refine r_if_ne X 24 d_G_way_11 (by decide) (fun h9 => absurd h9 (by decide)) (fun _ => ?_)
  exact x_throw X hE hst9 hno hlk (E := E_ioo) (text := "no such node") (by decide +kernel) c_G_66 i_java_lang_IndexOutOfBoundsException (by decide +kernel) at_ioo (by decide) (by decide) ⟨by decide, by decide⟩ d_G_way_14 d_G_way_17 d_G_way_18 d_G_way_20 d_G_way_23
set_option maxRecDepth 100000 in
set_option maxHeartbeats 4000000 in
theorem t_G_slipperyIn_0 (l : Launch) (hst9 : l.stackTraces = false) (D : va_G) (cy : Nat → ClassId) (t0 : Nat) (ad : Nat → Nat)  (p0 p1 : Int32)  : xMt l D cls (TY cy) NW t0 y_G_slipperyIn (Cond.code y_G_slipperyIn b_G_slipperyIn 4 rt_G_slipperyIn :: W0) { frames := 6, cells := 1, slots := 6, locals := 91 } [.ref (ad 0), .int p0, .int p1] ad (cont cy ad S00 J00) (E_ioo) := by
  intro sz
  refine x_oft (own := R_G) rfl (by decide +kernel) (Nat.le_of_ble_eq_true rfl) ?_
  intro p e s m below meth cd hsz X hno hlk hN hE
  refine r_lv [0, 1, 2] [(0, .ref (ad 0)), (1, .int p0), (2, .int p1)] rfl ?_
  refine r_aload_n X 0 d_G_slipperyIn_0 rfl rfl ?_
  refine r_iload_n X 1 d_G_slipperyIn_1 rfl rfl ?_
  refine r_Vq X W0_good hN (c_G_roadAt_n l D cy ad S00 J00 wf_00 p0 (fun j hj => absurd hj (Nat.not_lt_zero _))) yv_G_roadAt m_G_174 (ct_lo (by decide)) k_G.2.1 rfl rfl rfl ⟨by decide, by decide⟩ (Nat.le_of_ble_eq_true rfl) ⟨by decide, by decide⟩ d_G_slipperyIn_2 (fun r9 ad9 c9 hp9 => ?_)
  obtain ⟨rfl, rfl, rfl⟩ := hp9
  refine r_astore_nN X [(3, .null), (0, .ref (ad 0)), (1, .int p0), (2, .int p1)] d_G_slipperyIn_5 rfl (by decide) rfl ?_
  refine r_aload_nN X 0 d_G_slipperyIn_6 rfl rfl ?_
  refine r_ifnonnullN X d_G_slipperyIn_7 ?_
  exact x_throw X hE hst9 hno hlk (E := E_ioo) (text := "no such road") (by decide +kernel) c_G_66 i_java_lang_IndexOutOfBoundsException (by decide +kernel) at_ioo (by decide) (by decide) ⟨by decide, by decide⟩ d_G_slipperyIn_10 d_G_slipperyIn_13 d_G_slipperyIn_14 d_G_slipperyIn_16 d_G_slipperyIn_19
set_option maxRecDepth 100000 in
set_option maxHeartbeats 4000000 in
theorem t_G_saltFor_0 (l : Launch) (hst9 : l.stackTraces = false) (D : va_G) (cy : Nat → ClassId) (t0 : Nat) (ad : Nat → Nat)  (p0 p1 : Int32)  : xMt l D cls (TY cy) NW t0 y_G_saltFor (Cond.code y_G_saltFor b_G_saltFor 4 rt_G_saltFor :: W0) { frames := 6, cells := 1, slots := 6, locals := 114 } [.ref (ad 0), .int p0, .int p1] ad (cont cy ad S00 J00) (E_ioo) := by
  intro sz
  refine x_oft (own := R_G) rfl (by decide +kernel) (Nat.le_of_ble_eq_true rfl) ?_
  intro p e s m below meth cd hsz X hno hlk hN hE
  refine r_lv [0, 1, 2] [(0, .ref (ad 0)), (1, .int p0), (2, .int p1)] rfl ?_
  refine r_aload_n X 0 d_G_saltFor_0 rfl rfl ?_
  refine r_iload_n X 1 d_G_saltFor_1 rfl rfl ?_
  refine r_Vq X W0_good hN (c_G_roadAt_n l D cy ad S00 J00 wf_00 p0 (fun j hj => absurd hj (Nat.not_lt_zero _))) yv_G_roadAt m_G_174 (ct_lo (by decide)) k_G.2.1 rfl rfl rfl ⟨by decide, by decide⟩ (Nat.le_of_ble_eq_true rfl) ⟨by decide, by decide⟩ d_G_saltFor_2 (fun r9 ad9 c9 hp9 => ?_)
  obtain ⟨rfl, rfl, rfl⟩ := hp9
  refine r_astore_nN X [(3, .null), (0, .ref (ad 0)), (1, .int p0), (2, .int p1)] d_G_saltFor_5 rfl (by decide) rfl ?_
  refine r_aload_nN X 0 d_G_saltFor_6 rfl rfl ?_
  refine r_ifnonnullN X d_G_saltFor_7 ?_
  exact x_throw X hE hst9 hno hlk (E := E_ioo) (text := "no such road") (by decide +kernel) c_G_66 i_java_lang_IndexOutOfBoundsException (by decide +kernel) at_ioo (by decide) (by decide) ⟨by decide, by decide⟩ d_G_saltFor_10 d_G_saltFor_13 d_G_saltFor_14 d_G_saltFor_16 d_G_saltFor_19
set_option maxRecDepth 100000 in
set_option maxHeartbeats 4000000 in
theorem t_G_bestOrders_0 (l : Launch) (hst9 : l.stackTraces = false) (D : va_G) (cy : Nat → ClassId) (t0 : Nat) (ad : Nat → Nat)  (p0 p1 : Int32)  : xMt l D cls (TY cy) NW t0 y_G_bestOrders (Cond.code y_G_bestOrders b_G_bestOrders 3 rt_G_bestOrders :: W0) { frames := 6, cells := 1, slots := 6, locals := 104 } [.ref (ad 0), .int p0, .int p1] ad (cont cy ad S00 J00) (E_ioo) := by
  intro sz
  refine x_oft (own := R_G) rfl (by decide +kernel) (Nat.le_of_ble_eq_true rfl) ?_
  intro p e s m below meth cd hsz X hno hlk hN hE
  refine r_lv [0, 1, 2] [(0, .ref (ad 0)), (1, .int p0), (2, .int p1)] rfl ?_
  refine r_aload_n X 0 d_G_bestOrders_0 rfl rfl ?_
  refine r_iload_n X 1 d_G_bestOrders_1 rfl rfl ?_
  refine r_Vq X W0_good hN (c_G_lorryAt_n l D cy ad S00 J00 wf_00 p0 (fun j hj => absurd hj (Nat.not_lt_zero _))) yv_G_lorryAt m_G_163 (ct_lo (by decide)) k_G.2.1 rfl rfl rfl ⟨by decide, by decide⟩ (Nat.le_of_ble_eq_true rfl) ⟨by decide, by decide⟩ d_G_bestOrders_2 (fun r9 ad9 c9 hp9 => ?_)
  obtain ⟨rfl, rfl, rfl⟩ := hp9
  refine r_ifnullN X 15 d_G_bestOrders_5 (by decide) ?_
  exact x_throwW X hE hst9 hno hlk (E := E_ioo) (text := "no such lorry or node") (by decide +kernel) c_G_66 i_java_lang_IndexOutOfBoundsException (by decide +kernel) at_ioo (by decide) (by decide) ⟨by decide, by decide⟩ d_G_bestOrders_15 d_G_bestOrders_18 d_G_bestOrders_19 d_G_bestOrders_22 d_G_bestOrders_25
set_option maxRecDepth 100000 in
set_option maxHeartbeats 4000000 in
/-- Fc_init -/
theorem c_Fc_init (l : Launch) (D : va_G) (cy : Nat → ClassId) (ad : Nat → Nat) (c : rC) (n : Nat) (hc : c n = some (.inr (5, [.int 0, .int 0, .int 0, .int 0, .int 0, .int 0, .int 0]))) (a0 a1 a2 : Int32) : rMv l D cls (TY cy) NW y_Fc_init (Cond.code y_Fc_init b_Fc_init 4 none :: W0) { frames := 1, cells := 0, slots := 0, locals := 20 } [.ref (ad n), .int a0, .int a1, .int a2] ad c (fun ad' c' => ad = ad' ∧ va_up c n (some (.inr (5, [.int a0, .int a1, .int a2, .int 0, .int 0, .int 0, .int 0]))) = c') := by
  intro sz
  refine r_of (own := R_Fc) rfl (by decide +kernel) (Nat.le_of_ble_eq_true rfl) ?_
  intro p e s m below meth cd hsz X hr hlk hN hin
  refine r_lv [0, 1, 2, 3] [(0, .ref (ad n)), (1, .int a0), (2, .int a1), (3, .int a2)] rfl ?_
  refine r_aload_n X 0 d_Fc_init_0 rfl rfl ?_
  refine r_obj X m_Fc_1 s_obj cd_obj ⟨by decide, by decide⟩ (Nat.le_of_ble_eq_true rfl) d_Fc_init_1 ?_
  refine r_aload_n X 0 d_Fc_init_4 rfl rfl ?_
  refine r_iload_n X 1 d_Fc_init_5 rfl rfl ?_
  refine r_putF X k_Fc 0 (by decide) f_Fc_7 rfl hc rfl rfl hin rfl rfl (Nat.le_of_ble_eq_true rfl) [.int a0, .int 0, .int 0, .int 0, .int 0, .int 0, .int 0] rfl (va_up c n (some (.inr (5, [.int a0, .int 0, .int 0, .int 0, .int 0, .int 0, .int 0])))) rfl d_Fc_init_6 ?_
  refine r_aload_n X 0 d_Fc_init_9 rfl rfl ?_
  refine r_iload_n X 2 d_Fc_init_10 rfl rfl ?_
  refine r_putF X k_Fc 1 (by decide) f_Fc_13 rfl rup_self rfl rfl hin rfl rfl (Nat.le_of_ble_eq_true rfl) [.int a0, .int a1, .int 0, .int 0, .int 0, .int 0, .int 0] rfl (va_up c n (some (.inr (5, [.int a0, .int a1, .int 0, .int 0, .int 0, .int 0, .int 0])))) rup_up d_Fc_init_11 ?_
  refine r_aload_n X 0 d_Fc_init_14 rfl rfl ?_
  refine r_iload_n X 3 d_Fc_init_15 rfl rfl ?_
  refine r_putF X k_Fc 2 (by decide) f_Fc_16 rfl rup_self rfl rfl hin rfl rfl (Nat.le_of_ble_eq_true rfl) [.int a0, .int a1, .int a2, .int 0, .int 0, .int 0, .int 0] rfl (va_up c n (some (.inr (5, [.int a0, .int a1, .int a2, .int 0, .int 0, .int 0, .int 0])))) rup_up d_Fc_init_16 ?_
  exact r_vret (post := fun ad' c' => ad = ad' ∧ va_up c n (some (.inr (5, [.int a0, .int a1, .int a2, .int 0, .int 0, .int 0, .int 0]))) = c') X hr hlk d_Fc_init_19 (by decide) (by decide) ⟨rfl, rfl⟩
set_option maxRecDepth 100000 in
set_option maxHeartbeats 4000000 in
/-- Fc_tellMembers -/
theorem c_Fc_tellMembers (l : Launch) (D : va_G) (cy : Nat → ClassId) (ad : Nat → Nat) (c : rC) (n : Nat) (b0 b1 b2 : Int32) (hc : c n = some (.inr (5, [.int b0, .int b1, .int b2, .int 0, .int 0, .int 0, .int 0]))) (a0 a1 a2 z : Int32) (hz : z = 0 ∨ z = 1) : rMv l D cls (TY cy) NW y_Fc_tellMembers (Cond.code y_Fc_tellMembers b_Fc_tellMembers 5 rt_Fc_tellMembers :: W0) { frames := 0, cells := 0, slots := 0, locals := 0 } [.ref (ad n), .int a0, .int a1, .int a2, .int z] ad c (fun ad' c' => ad = ad' ∧ va_up c n (some (.inr (5, [.int b0, .int b1, .int b2, .int a0, .int a1, .int a2, .int z]))) = c') := by
  intro sz
  refine r_of (own := R_Fc) rfl (by decide +kernel) (Nat.le_of_ble_eq_true rfl) ?_
  intro p e s m below meth cd hsz X hr hlk hN hin
  refine r_lv [0, 1, 2, 3, 4] [(0, .ref (ad n)), (1, .int a0), (2, .int a1), (3, .int a2), (4, .int z)] rfl ?_
  refine r_aload_n X 0 d_Fc_tellMembers_0 rfl rfl ?_
  refine r_iload_n X 1 d_Fc_tellMembers_1 rfl rfl ?_
  refine r_put X k_Fc 3 (by decide) f_Fc_19 rfl hc rfl rfl rfl (Nat.le_of_ble_eq_true rfl) [.int b0, .int b1, .int b2, .int a0, .int 0, .int 0, .int 0] rfl (va_up c n (some (.inr (5, [.int b0, .int b1, .int b2, .int a0, .int 0, .int 0, .int 0])))) rfl d_Fc_tellMembers_2 ?_
  refine r_aload_n X 0 d_Fc_tellMembers_5 rfl rfl ?_
  refine r_iload_n X 2 d_Fc_tellMembers_6 rfl rfl ?_
  refine r_put X k_Fc 4 (by decide) f_Fc_22 rfl rup_self rfl rfl rfl (Nat.le_of_ble_eq_true rfl) [.int b0, .int b1, .int b2, .int a0, .int a1, .int 0, .int 0] rfl (va_up c n (some (.inr (5, [.int b0, .int b1, .int b2, .int a0, .int a1, .int 0, .int 0])))) rup_up d_Fc_tellMembers_7 ?_
  refine r_aload_n X 0 d_Fc_tellMembers_10 rfl rfl ?_
  refine r_iload_n X 3 d_Fc_tellMembers_11 rfl rfl ?_
  refine r_put X k_Fc 5 (by decide) f_Fc_25 rfl rup_self rfl rfl rfl (Nat.le_of_ble_eq_true rfl) [.int b0, .int b1, .int b2, .int a0, .int a1, .int a2, .int 0] rfl (va_up c n (some (.inr (5, [.int b0, .int b1, .int b2, .int a0, .int a1, .int a2, .int 0])))) rup_up d_Fc_tellMembers_12 ?_
  refine r_aload_n X 0 d_Fc_tellMembers_15 rfl rfl ?_
  refine r_iload X 4 d_Fc_tellMembers_16 rfl ?_
  refine r_put X k_Fc 6 (by decide) f_Fc_28 rfl rup_self rfl (nb_bit hz) (fb_bit hz) (Nat.le_of_ble_eq_true rfl) [.int b0, .int b1, .int b2, .int a0, .int a1, .int a2, .int z] rfl (va_up c n (some (.inr (5, [.int b0, .int b1, .int b2, .int a0, .int a1, .int a2, .int z])))) rup_up d_Fc_tellMembers_18 ?_
  exact r_vret (post := fun ad' c' => ad = ad' ∧ va_up c n (some (.inr (5, [.int b0, .int b1, .int b2, .int a0, .int a1, .int a2, .int z]))) = c') X hr hlk d_Fc_tellMembers_21 (by decide) (by decide) ⟨rfl, rfl⟩
set_option maxRecDepth 100000 in
set_option maxHeartbeats 4000000 in
/-- G_roadsForetold -/
theorem c_G_roadsForetold (l : Launch) (D : va_G) (cy : Nat → ClassId) (ad : Nat → Nat) (c : rC) (h0 : c 0 = some (.inr (7, [.ref (ad 1), .ref (ad 2), .ref (ad 3), .ref (ad 4), .ref (ad 5), .ref (ad 6), .ref (ad 7), .ref (ad 8), .int 0, .int 0, .int 1, .int 0, .int 100, .int 0, .int 0, .int 0]))) (f : Nat → Option Nat) (h1 : c 1 = some (.inl (cy 2, 8, .inr (.inr (.inr (.inr f)))))) (hf : ∀ i, i < 8 → f i = none) (b : Nat) : rMi l D cls (TY cy) NW y_G_roadsForetold (Cond.code y_G_roadsForetold b_G_roadsForetold 7 rt_G_roadsForetold :: W0) { frames := 2, cells := 0, slots := 0, locals := 44 } [.ref (ad 0), .ref b] ad c (fun r ad' c' => 0 = r ∧ ad = ad' ∧ c = c') := by
  intro sz
  refine r_of (own := R_G) rfl (by decide +kernel) (Nat.le_of_ble_eq_true rfl) ?_
  intro p e s m below meth cd hsz X hr hlk hN hin
  refine r_lv [0, 1] [(0, .ref (ad 0)), (1, .ref b)] rfl ?_
  refine r_iconst X 0 d_G_roadsForetold_0 (by decide) ?_
  refine r_istore_n X [(2, .int 0), (0, .ref (ad 0)), (1, .ref b)] d_G_roadsForetold_1 rfl (by decide) rfl ?_
  refine r_aload_n X 1 d_G_roadsForetold_2 rfl rfl ?_
  refine r_get X k_G 0 (by decide) f_G_11 rfl h0 rfl d_G_roadsForetold_3 ?_
  refine r_astore_n X [(3, .ref (ad 1)), (2, .int 0), (0, .ref (ad 0)), (1, .ref b)] d_G_roadsForetold_6 rfl (by decide) rfl ?_
  refine r_aload_n X 0 d_G_roadsForetold_7 rfl rfl ?_
  refine r_alen (v := 8) X 2 h1 rfl rfl d_G_roadsForetold_8 ?_
  refine r_istore X [(4, .int 8), (3, .ref (ad 1)), (2, .int 0), (0, .ref (ad 0)), (1, .ref b)] d_G_roadsForetold_9 (by decide) rfl ?_
  refine r_iconst X 0 d_G_roadsForetold_11 (by decide) ?_
  refine r_istore X [(5, .int 0), (4, .int 8), (3, .ref (ad 1)), (2, .int 0), (0, .ref (ad 0)), (1, .ref b)] d_G_roadsForetold_12 (by decide) rfl ?_
  refine r_iload X 0 d_G_roadsForetold_14 rfl ?_
  refine r_iload X 1 d_G_roadsForetold_16 rfl ?_
  refine r_icmp_ge X 50 d_G_roadsForetold_18 (by decide) (fun h9 => absurd h9 (by decide)) (fun _ => ?_)
  refine r_aload_n X 2 d_G_roadsForetold_21 rfl rfl ?_
  refine r_iload X 0 d_G_roadsForetold_22 rfl ?_
  refine r_aald (v := .null) X 2 h1 rfl (by unfold vp_in; decide +kernel) (congrArg va_rf (hf 0 (by decide))) d_G_roadsForetold_24 ?_
  refine r_astoreN X [(6, .null), (5, .int 0), (4, .int 8), (3, .ref (ad 1)), (2, .int 0), (0, .ref (ad 0)), (1, .ref b)] d_G_roadsForetold_25 (by decide) rfl ?_
  refine r_aloadN X 0 d_G_roadsForetold_27 rfl ?_
  refine r_ifnullN X 44 d_G_roadsForetold_29 (by decide) ?_
  refine r_iinc X 1 [(5, .int 1), (6, .null), (4, .int 8), (3, .ref (ad 1)), (2, .int 0), (0, .ref (ad 0)), (1, .ref b)] d_G_roadsForetold_44 rfl (by decide) (by decide) rfl ?_
  refine r_goto X 14 d_G_roadsForetold_47 (by decide) ?_
  refine r_iload X 0 d_G_roadsForetold_14 rfl ?_
  refine r_iload X 2 d_G_roadsForetold_16 rfl ?_
  refine r_icmp_ge X 50 d_G_roadsForetold_18 (by decide) (fun h9 => absurd h9 (by decide)) (fun _ => ?_)
  refine r_aload_n X 3 d_G_roadsForetold_21 rfl rfl ?_
  refine r_iload X 0 d_G_roadsForetold_22 rfl ?_
  refine r_aald (v := .null) X 2 h1 rfl (by unfold vp_in; decide +kernel) (congrArg va_rf (hf 1 (by decide))) d_G_roadsForetold_24 ?_
  refine r_astoreN X [(6, .null), (5, .int 1), (4, .int 8), (3, .ref (ad 1)), (2, .int 0), (0, .ref (ad 0)), (1, .ref b)] d_G_roadsForetold_25 (by decide) rfl ?_
  refine r_aloadN X 0 d_G_roadsForetold_27 rfl ?_
  refine r_ifnullN X 44 d_G_roadsForetold_29 (by decide) ?_
  refine r_iinc X 1 [(5, .int 2), (6, .null), (4, .int 8), (3, .ref (ad 1)), (2, .int 0), (0, .ref (ad 0)), (1, .ref b)] d_G_roadsForetold_44 rfl (by decide) (by decide) rfl ?_
  refine r_goto X 14 d_G_roadsForetold_47 (by decide) ?_
  refine r_iload X 0 d_G_roadsForetold_14 rfl ?_
  refine r_iload X 2 d_G_roadsForetold_16 rfl ?_
  refine r_icmp_ge X 50 d_G_roadsForetold_18 (by decide) (fun h9 => absurd h9 (by decide)) (fun _ => ?_)
  refine r_aload_n X 3 d_G_roadsForetold_21 rfl rfl ?_
  refine r_iload X 0 d_G_roadsForetold_22 rfl ?_
  refine r_aald (v := .null) X 2 h1 rfl (by unfold vp_in; decide +kernel) (congrArg va_rf (hf 2 (by decide))) d_G_roadsForetold_24 ?_
  refine r_astoreN X [(6, .null), (5, .int 2), (4, .int 8), (3, .ref (ad 1)), (2, .int 0), (0, .ref (ad 0)), (1, .ref b)] d_G_roadsForetold_25 (by decide) rfl ?_
  refine r_aloadN X 0 d_G_roadsForetold_27 rfl ?_
  refine r_ifnullN X 44 d_G_roadsForetold_29 (by decide) ?_
  refine r_iinc X 1 [(5, .int 3), (6, .null), (4, .int 8), (3, .ref (ad 1)), (2, .int 0), (0, .ref (ad 0)), (1, .ref b)] d_G_roadsForetold_44 rfl (by decide) (by decide) rfl ?_
  refine r_goto X 14 d_G_roadsForetold_47 (by decide) ?_
  refine r_iload X 0 d_G_roadsForetold_14 rfl ?_
  refine r_iload X 2 d_G_roadsForetold_16 rfl ?_
  refine r_icmp_ge X 50 d_G_roadsForetold_18 (by decide) (fun h9 => absurd h9 (by decide)) (fun _ => ?_)
  refine r_aload_n X 3 d_G_roadsForetold_21 rfl rfl ?_
  refine r_iload X 0 d_G_roadsForetold_22 rfl ?_
  refine r_aald (v := .null) X 2 h1 rfl (by unfold vp_in; decide +kernel) (congrArg va_rf (hf 3 (by decide))) d_G_roadsForetold_24 ?_
  refine r_astoreN X [(6, .null), (5, .int 3), (4, .int 8), (3, .ref (ad 1)), (2, .int 0), (0, .ref (ad 0)), (1, .ref b)] d_G_roadsForetold_25 (by decide) rfl ?_
  refine r_aloadN X 0 d_G_roadsForetold_27 rfl ?_
  refine r_ifnullN X 44 d_G_roadsForetold_29 (by decide) ?_
  refine r_iinc X 1 [(5, .int 4), (6, .null), (4, .int 8), (3, .ref (ad 1)), (2, .int 0), (0, .ref (ad 0)), (1, .ref b)] d_G_roadsForetold_44 rfl (by decide) (by decide) rfl ?_
  refine r_goto X 14 d_G_roadsForetold_47 (by decide) ?_
  refine r_iload X 0 d_G_roadsForetold_14 rfl ?_
  refine r_iload X 2 d_G_roadsForetold_16 rfl ?_
  refine r_icmp_ge X 50 d_G_roadsForetold_18 (by decide) (fun h9 => absurd h9 (by decide)) (fun _ => ?_)
  refine r_aload_n X 3 d_G_roadsForetold_21 rfl rfl ?_
  refine r_iload X 0 d_G_roadsForetold_22 rfl ?_
  refine r_aald (v := .null) X 2 h1 rfl (by unfold vp_in; decide +kernel) (congrArg va_rf (hf 4 (by decide))) d_G_roadsForetold_24 ?_
  refine r_astoreN X [(6, .null), (5, .int 4), (4, .int 8), (3, .ref (ad 1)), (2, .int 0), (0, .ref (ad 0)), (1, .ref b)] d_G_roadsForetold_25 (by decide) rfl ?_
  refine r_aloadN X 0 d_G_roadsForetold_27 rfl ?_
  refine r_ifnullN X 44 d_G_roadsForetold_29 (by decide) ?_
  refine r_iinc X 1 [(5, .int 5), (6, .null), (4, .int 8), (3, .ref (ad 1)), (2, .int 0), (0, .ref (ad 0)), (1, .ref b)] d_G_roadsForetold_44 rfl (by decide) (by decide) rfl ?_
  refine r_goto X 14 d_G_roadsForetold_47 (by decide) ?_
  refine r_iload X 0 d_G_roadsForetold_14 rfl ?_
  refine r_iload X 2 d_G_roadsForetold_16 rfl ?_
  refine r_icmp_ge X 50 d_G_roadsForetold_18 (by decide) (fun h9 => absurd h9 (by decide)) (fun _ => ?_)
  refine r_aload_n X 3 d_G_roadsForetold_21 rfl rfl ?_
  refine r_iload X 0 d_G_roadsForetold_22 rfl ?_
  refine r_aald (v := .null) X 2 h1 rfl (by unfold vp_in; decide +kernel) (congrArg va_rf (hf 5 (by decide))) d_G_roadsForetold_24 ?_
  refine r_astoreN X [(6, .null), (5, .int 5), (4, .int 8), (3, .ref (ad 1)), (2, .int 0), (0, .ref (ad 0)), (1, .ref b)] d_G_roadsForetold_25 (by decide) rfl ?_
  refine r_aloadN X 0 d_G_roadsForetold_27 rfl ?_
  refine r_ifnullN X 44 d_G_roadsForetold_29 (by decide) ?_
  refine r_iinc X 1 [(5, .int 6), (6, .null), (4, .int 8), (3, .ref (ad 1)), (2, .int 0), (0, .ref (ad 0)), (1, .ref b)] d_G_roadsForetold_44 rfl (by decide) (by decide) rfl ?_
  refine r_goto X 14 d_G_roadsForetold_47 (by decide) ?_
  refine r_iload X 0 d_G_roadsForetold_14 rfl ?_
  refine r_iload X 2 d_G_roadsForetold_16 rfl ?_
  refine r_icmp_ge X 50 d_G_roadsForetold_18 (by decide) (fun h9 => absurd h9 (by decide)) (fun _ => ?_)
  refine r_aload_n X 3 d_G_roadsForetold_21 rfl rfl ?_
  refine r_iload X 0 d_G_roadsForetold_22 rfl ?_
  refine r_aald (v := .null) X 2 h1 rfl (by unfold vp_in; decide +kernel) (congrArg va_rf (hf 6 (by decide))) d_G_roadsForetold_24 ?_
  refine r_astoreN X [(6, .null), (5, .int 6), (4, .int 8), (3, .ref (ad 1)), (2, .int 0), (0, .ref (ad 0)), (1, .ref b)] d_G_roadsForetold_25 (by decide) rfl ?_
  refine r_aloadN X 0 d_G_roadsForetold_27 rfl ?_
  refine r_ifnullN X 44 d_G_roadsForetold_29 (by decide) ?_
  refine r_iinc X 1 [(5, .int 7), (6, .null), (4, .int 8), (3, .ref (ad 1)), (2, .int 0), (0, .ref (ad 0)), (1, .ref b)] d_G_roadsForetold_44 rfl (by decide) (by decide) rfl ?_
  refine r_goto X 14 d_G_roadsForetold_47 (by decide) ?_
  refine r_iload X 0 d_G_roadsForetold_14 rfl ?_
  refine r_iload X 2 d_G_roadsForetold_16 rfl ?_
  refine r_icmp_ge X 50 d_G_roadsForetold_18 (by decide) (fun h9 => absurd h9 (by decide)) (fun _ => ?_)
  refine r_aload_n X 3 d_G_roadsForetold_21 rfl rfl ?_
  refine r_iload X 0 d_G_roadsForetold_22 rfl ?_
  refine r_aald (v := .null) X 2 h1 rfl (by unfold vp_in; decide +kernel) (congrArg va_rf (hf 7 (by decide))) d_G_roadsForetold_24 ?_
  refine r_astoreN X [(6, .null), (5, .int 7), (4, .int 8), (3, .ref (ad 1)), (2, .int 0), (0, .ref (ad 0)), (1, .ref b)] d_G_roadsForetold_25 (by decide) rfl ?_
  refine r_aloadN X 0 d_G_roadsForetold_27 rfl ?_
  refine r_ifnullN X 44 d_G_roadsForetold_29 (by decide) ?_
  refine r_iinc X 1 [(5, .int 8), (6, .null), (4, .int 8), (3, .ref (ad 1)), (2, .int 0), (0, .ref (ad 0)), (1, .ref b)] d_G_roadsForetold_44 rfl (by decide) (by decide) rfl ?_
  refine r_goto X 14 d_G_roadsForetold_47 (by decide) ?_
  refine r_iload X 0 d_G_roadsForetold_14 rfl ?_
  refine r_iload X 2 d_G_roadsForetold_16 rfl ?_
  refine r_icmp_ge X 50 d_G_roadsForetold_18 (by decide) (fun _ => ?_) (fun h9 => absurd h9 (by decide))
  refine r_iload_n X 4 d_G_roadsForetold_50 rfl rfl ?_
  exact r_iret (post := fun r ad' c' => 0 = r ∧ ad = ad' ∧ c = c') X hr hlk d_G_roadsForetold_51 (by decide) (by decide) ⟨by (try simp only []); first | done | rfl | exact rup_id (by assumption), rfl, rfl⟩
set_option maxRecDepth 100000 in
set_option maxHeartbeats 4000000 in
/-- G_saltInHoppers -/
theorem c0_G_saltInHoppers (l : Launch) (D : va_G) (cy : Nat → ClassId) (ad : Nat → Nat) (c : rC) (h0 : c 0 = some (.inr (7, [.ref (ad 1), .ref (ad 2), .ref (ad 3), .ref (ad 4), .ref (ad 5), .ref (ad 6), .ref (ad 7), .ref (ad 8), .int 0, .int 0, .int 0, .int 0, .int 100, .int 0, .int 0, .int 0]))) (f : Nat → Option Nat) (h2 : c 2 = some (.inl (cy 3, 3, .inr (.inr (.inr (.inr f)))))) (hf : ∀ i, i < 3 → f i = none) : rMi l D cls (TY cy) NW y_G_saltInHoppers (Cond.code y_G_saltInHoppers b_G_saltInHoppers 6 rt_G_saltInHoppers :: W0) { frames := 0, cells := 0, slots := 0, locals := 0 } [.ref (ad 0)] ad c (fun r ad' c' => 0 = r ∧ ad = ad' ∧ c = c') := by
  intro sz
  refine r_of (own := R_G) rfl (by decide +kernel) (Nat.le_of_ble_eq_true rfl) ?_
  intro p e s m below meth cd hsz X hr hlk hN hin
  refine r_lv [0] [(0, .ref (ad 0))] rfl ?_
  refine r_iconst X 0 d_G_saltInHoppers_0 (by decide) ?_
  refine r_istore_n X [(1, .int 0), (0, .ref (ad 0))] d_G_saltInHoppers_1 rfl (by decide) rfl ?_
  refine r_aload_n X 1 d_G_saltInHoppers_2 rfl rfl ?_
  refine r_get X k_G 1 (by decide) f_G_17 rfl h0 rfl d_G_saltInHoppers_3 ?_
  refine r_astore_n X [(2, .ref (ad 2)), (1, .int 0), (0, .ref (ad 0))] d_G_saltInHoppers_6 rfl (by decide) rfl ?_
  refine r_aload_n X 0 d_G_saltInHoppers_7 rfl rfl ?_
  refine r_alen (v := 3) X 3 h2 rfl rfl d_G_saltInHoppers_8 ?_
  refine r_istore_n X [(3, .int 3), (2, .ref (ad 2)), (1, .int 0), (0, .ref (ad 0))] d_G_saltInHoppers_9 rfl (by decide) rfl ?_
  refine r_iconst X 0 d_G_saltInHoppers_10 (by decide) ?_
  refine r_istore X [(4, .int 0), (3, .int 3), (2, .ref (ad 2)), (1, .int 0), (0, .ref (ad 0))] d_G_saltInHoppers_11 (by decide) rfl ?_
  refine r_iload X 0 d_G_saltInHoppers_13 rfl ?_
  refine r_iload_n X 1 d_G_saltInHoppers_15 rfl rfl ?_
  refine r_icmp_ge X 48 d_G_saltInHoppers_16 (by decide) (fun h9 => absurd h9 (by decide)) (fun _ => ?_)
  refine r_aload_n X 2 d_G_saltInHoppers_19 rfl rfl ?_
  refine r_iload X 0 d_G_saltInHoppers_20 rfl ?_
  refine r_aald (v := .null) X 3 h2 rfl (by unfold vp_in; decide +kernel) (congrArg va_rf (hf 0 (by decide))) d_G_saltInHoppers_22 ?_
  refine r_astoreN X [(5, .null), (4, .int 0), (3, .int 3), (2, .ref (ad 2)), (1, .int 0), (0, .ref (ad 0))] d_G_saltInHoppers_23 (by decide) rfl ?_
  refine r_iload_n X 4 d_G_saltInHoppers_25 rfl rfl ?_
  refine r_aloadN X 0 d_G_saltInHoppers_26 rfl ?_
  refine r_ifnonnullN X d_G_saltInHoppers_28 ?_
  refine r_iconst X 0 d_G_saltInHoppers_31 (by decide) ?_
  refine r_goto X 40 d_G_saltInHoppers_32 (by decide) ?_
  refine r_iadd X d_G_saltInHoppers_40 ?_
  refine r_top (y := 0) (by decide) ?_
  refine r_istore_n X [(1, .int 0), (5, .null), (4, .int 0), (3, .int 3), (2, .ref (ad 2)), (0, .ref (ad 0))] d_G_saltInHoppers_41 rfl (by decide) rfl ?_
  refine r_iinc X 2 [(4, .int 1), (1, .int 0), (5, .null), (3, .int 3), (2, .ref (ad 2)), (0, .ref (ad 0))] d_G_saltInHoppers_42 rfl (by decide) (by decide) rfl ?_
  refine r_goto X 13 d_G_saltInHoppers_45 (by decide) ?_
  refine r_iload X 0 d_G_saltInHoppers_13 rfl ?_
  refine r_iload_n X 3 d_G_saltInHoppers_15 rfl rfl ?_
  refine r_icmp_ge X 48 d_G_saltInHoppers_16 (by decide) (fun h9 => absurd h9 (by decide)) (fun _ => ?_)
  refine r_aload_n X 4 d_G_saltInHoppers_19 rfl rfl ?_
  refine r_iload X 0 d_G_saltInHoppers_20 rfl ?_
  refine r_aald (v := .null) X 3 h2 rfl (by unfold vp_in; decide +kernel) (congrArg va_rf (hf 1 (by decide))) d_G_saltInHoppers_22 ?_
  refine r_astoreN X [(5, .null), (4, .int 1), (1, .int 0), (3, .int 3), (2, .ref (ad 2)), (0, .ref (ad 0))] d_G_saltInHoppers_23 (by decide) rfl ?_
  refine r_iload_n X 2 d_G_saltInHoppers_25 rfl rfl ?_
  refine r_aloadN X 0 d_G_saltInHoppers_26 rfl ?_
  refine r_ifnonnullN X d_G_saltInHoppers_28 ?_
  refine r_iconst X 0 d_G_saltInHoppers_31 (by decide) ?_
  refine r_goto X 40 d_G_saltInHoppers_32 (by decide) ?_
  refine r_iadd X d_G_saltInHoppers_40 ?_
  refine r_top (y := 0) (by decide) ?_
  refine r_istore_n X [(1, .int 0), (5, .null), (4, .int 1), (3, .int 3), (2, .ref (ad 2)), (0, .ref (ad 0))] d_G_saltInHoppers_41 rfl (by decide) rfl ?_
  refine r_iinc X 2 [(4, .int 2), (1, .int 0), (5, .null), (3, .int 3), (2, .ref (ad 2)), (0, .ref (ad 0))] d_G_saltInHoppers_42 rfl (by decide) (by decide) rfl ?_
  refine r_goto X 13 d_G_saltInHoppers_45 (by decide) ?_
  refine r_iload X 0 d_G_saltInHoppers_13 rfl ?_
  refine r_iload_n X 3 d_G_saltInHoppers_15 rfl rfl ?_
  refine r_icmp_ge X 48 d_G_saltInHoppers_16 (by decide) (fun h9 => absurd h9 (by decide)) (fun _ => ?_)
  refine r_aload_n X 4 d_G_saltInHoppers_19 rfl rfl ?_
  refine r_iload X 0 d_G_saltInHoppers_20 rfl ?_
  refine r_aald (v := .null) X 3 h2 rfl (by unfold vp_in; decide +kernel) (congrArg va_rf (hf 2 (by decide))) d_G_saltInHoppers_22 ?_
  refine r_astoreN X [(5, .null), (4, .int 2), (1, .int 0), (3, .int 3), (2, .ref (ad 2)), (0, .ref (ad 0))] d_G_saltInHoppers_23 (by decide) rfl ?_
  refine r_iload_n X 2 d_G_saltInHoppers_25 rfl rfl ?_
  refine r_aloadN X 0 d_G_saltInHoppers_26 rfl ?_
  refine r_ifnonnullN X d_G_saltInHoppers_28 ?_
  refine r_iconst X 0 d_G_saltInHoppers_31 (by decide) ?_
  refine r_goto X 40 d_G_saltInHoppers_32 (by decide) ?_
  refine r_iadd X d_G_saltInHoppers_40 ?_
  refine r_top (y := 0) (by decide) ?_
  refine r_istore_n X [(1, .int 0), (5, .null), (4, .int 2), (3, .int 3), (2, .ref (ad 2)), (0, .ref (ad 0))] d_G_saltInHoppers_41 rfl (by decide) rfl ?_
  refine r_iinc X 2 [(4, .int 3), (1, .int 0), (5, .null), (3, .int 3), (2, .ref (ad 2)), (0, .ref (ad 0))] d_G_saltInHoppers_42 rfl (by decide) (by decide) rfl ?_
  refine r_goto X 13 d_G_saltInHoppers_45 (by decide) ?_
  refine r_iload X 0 d_G_saltInHoppers_13 rfl ?_
  refine r_iload_n X 3 d_G_saltInHoppers_15 rfl rfl ?_
  refine r_icmp_ge X 48 d_G_saltInHoppers_16 (by decide) (fun _ => ?_) (fun h9 => absurd h9 (by decide))
  refine r_iload_n X 1 d_G_saltInHoppers_48 rfl rfl ?_
  exact r_iret (post := fun r ad' c' => 0 = r ∧ ad = ad' ∧ c = c') X hr hlk d_G_saltInHoppers_49 (by decide) (by decide) ⟨by (try simp only []); first | done | rfl | exact rup_id (by assumption), rfl, rfl⟩
set_option maxRecDepth 100000 in
set_option maxHeartbeats 4000000 in
/-- G_forecast -/
theorem c_G_forecast (l : Launch) (D : va_G) (cy : Nat → ClassId) (ad : Nat → Nat)  (p0 p1 p2 p3 p4 : Int32) (h0 : inF p0 1 48 = 1) (h1 : inF p1 (-20) 20 = 1) (h2 : inF p2 (-20) 20 = 1) (h3 : inF p3 (-20) 20 = 1) (hz : p4 = 0 ∨ p4 = 1) : rMi l D cls (TY cy) NW y_G_forecast (Cond.code y_G_forecast b_G_forecast 7 rt_G_forecast :: W0) { frames := 6, cells := 1, slots := 7, locals := 90 } [.ref (ad 0), .int p0, .int p1, .int p2, .int p3, .int p4] ad (cont cy ad S00 J00) (fun r _ _ => 0 = r) := by
  intro sz
  refine r_of (own := R_G) rfl (by decide +kernel) (Nat.le_of_ble_eq_true rfl) ?_
  intro p e s m below meth cd hsz X hr hlk hN hin
  refine r_lv [0, 1, 2, 3, 4, 5] [(0, .ref (ad 0)), (1, .int p0), (2, .int p1), (3, .int p2), (4, .int p3), (5, .int p4)] rfl ?_
  refine r_iload_n X 1 d_G_forecast_0 rfl rfl ?_
  refine r_iconst X 1 d_G_forecast_1 (by decide) ?_
  refine r_bipush X 48 d_G_forecast_2 (by decide) ?_
  refine r_Si X W0_good hN (c_G_isWithin l D cy ad (cont cy ad S00 J00) p0 1 48) ys_G_isWithin m_G_78 rfl rfl ⟨by decide, by decide⟩ (Nat.le_of_ble_eq_true rfl) ⟨by decide, by decide⟩ d_G_forecast_4 (fun r9 ad9 c9 hp9 => ?_)
  obtain ⟨rfl, rfl, rfl⟩ := hp9
  refine r_top (y := 1) h0 ?_
  refine r_if_ne X 20 d_G_forecast_7 (by decide) (fun _ => ?_) (fun h9 => absurd h9 (by decide))
  refine r_iload_n X 2 d_G_forecast_20 rfl rfl ?_
  refine r_Si X W0_good hN (c_G_isAir l D cy ad (cont cy ad S00 J00) p1) ys_G_isAir m_G_95 rfl rfl ⟨by decide, by decide⟩ (Nat.le_of_ble_eq_true rfl) ⟨by decide, by decide⟩ d_G_forecast_21 (fun r9 ad9 c9 hp9 => ?_)
  obtain ⟨rfl, rfl, rfl⟩ := hp9
  refine r_top (y := 1) h1 ?_
  refine r_if_eq X 42 d_G_forecast_24 (by decide) (fun h9 => absurd h9 (by decide)) (fun _ => ?_)
  refine r_iload_n X 3 d_G_forecast_27 rfl rfl ?_
  refine r_Si X W0_good hN (c_G_isAir l D cy ad (cont cy ad S00 J00) p2) ys_G_isAir m_G_95 rfl rfl ⟨by decide, by decide⟩ (Nat.le_of_ble_eq_true rfl) ⟨by decide, by decide⟩ d_G_forecast_28 (fun r9 ad9 c9 hp9 => ?_)
  obtain ⟨rfl, rfl, rfl⟩ := hp9
  refine r_top (y := 1) h2 ?_
  refine r_if_eq X 42 d_G_forecast_31 (by decide) (fun h9 => absurd h9 (by decide)) (fun _ => ?_)
  refine r_iload X 4 d_G_forecast_34 rfl ?_
  refine r_Si X W0_good hN (c_G_isAir l D cy ad (cont cy ad S00 J00) p3) ys_G_isAir m_G_95 rfl rfl ⟨by decide, by decide⟩ (Nat.le_of_ble_eq_true rfl) ⟨by decide, by decide⟩ d_G_forecast_36 (fun r9 ad9 c9 hp9 => ?_)
  obtain ⟨rfl, rfl, rfl⟩ := hp9
  refine r_top (y := 1) h3 ?_
  refine r_if_ne X 52 d_G_forecast_39 (by decide) (fun _ => ?_) (fun h9 => absurd h9 (by decide))
  refine r_aload_n X 0 d_G_forecast_52 rfl rfl ?_
  refine r_get X k_G 10 (by decide) f_G_122 rfl (ct_lo (by decide)) rfl d_G_forecast_53 ?_
  refine r_aload_n X 0 d_G_forecast_56 rfl rfl ?_
  refine r_get X k_G 2 (by decide) f_G_23 rfl (ct_lo (by decide)) rfl d_G_forecast_57 ?_
  refine r_alen (v := 20) X 4 (ct_lo (by decide)) rfl rfl d_G_forecast_60 ?_
  refine r_icmp_lt X 74 d_G_forecast_61 (by decide) (fun _ => ?_) (fun h9 => absurd h9 (by decide))
  refine r_new X k_Fc c_G_21 n_Fc i_Fc (fs := [.int 0, .int 0, .int 0, .int 0, .int 0, .int 0, .int 0]) (by intro j hj; obtain rfl | rfl | rfl | rfl | rfl | rfl | rfl : j = 0 ∨ j = 1 ∨ j = 2 ∨ j = 3 ∨ j = 4 ∨ j = 5 ∨ j = 6 := (by omega); all_goals rfl) (Nat.le_of_ble_eq_true rfl) (Nat.le_of_ble_eq_true rfl) d_G_forecast_74 56 (ct_hi (by decide)) (fun a9 => [(0, .ref (a9 0)), (1, .int p0), (2, .int p1), (3, .int p2), (4, .int p3), (5, .int p4)]) (fun a9 => []) (fun a9 h9 => by rw [h9 0 (by decide)]) (fun _ _ => rfl) (fun a_1 ha_1 => ?_)
  have hb_1_0 : (cont cy ad S00 J00) 0 = some (.inr (7, [.ref (a_1 1), .ref (a_1 2), .ref (a_1 3), .ref (a_1 4), .ref (a_1 5), .ref (a_1 6), .ref (a_1 7), .ref (a_1 8), .int 0, .int 0, .int 0, .int 0, .int 100, .int 0, .int 0, .int 0])) := by rw [ha_1 1 (by decide), ha_1 2 (by decide), ha_1 3 (by decide), ha_1 4 (by decide), ha_1 5 (by decide), ha_1 6 (by decide), ha_1 7 (by decide), ha_1 8 (by decide)]; exact (ct_lo (by decide))
  refine r_dup X d_G_forecast_77 rfl ?_
  refine r_aload_n X 0 d_G_forecast_78 rfl rfl ?_
  refine r_get X k_G 11 (by decide) f_G_127 rfl (rup_ne (by omega) (hb_1_0)) rfl d_G_forecast_79 ?_
  refine r_aload_n X 0 d_G_forecast_82 rfl rfl ?_
  refine r_get X k_G 11 (by decide) f_G_127 rfl (rup_ne (by omega) (hb_1_0)) rfl d_G_forecast_83 ?_
  refine r_iload_n X 1 d_G_forecast_86 rfl rfl ?_
  refine r_iadd X d_G_forecast_87 ?_
  refine r_aload_n X 0 d_G_forecast_88 rfl rfl ?_
  refine r_get X k_G 12 (by decide) f_G_58 rfl (rup_ne (by omega) (hb_1_0)) rfl d_G_forecast_89 ?_
  refine r_aload_n X 0 d_G_forecast_92 rfl rfl ?_
  refine r_Vi X W0_good hN (c0_G_saltInHoppers l D cy a_1 (va_up (cont cy ad S00 J00) 56 (some (.inr (5, [.int 0, .int 0, .int 0, .int 0, .int 0, .int 0, .int 0])))) (rup_ne (by omega) (hb_1_0)) _ (rup_ne (by omega) ((ct_lo (by decide)))) (fun i hi => if_neg (Nat.not_lt_zero _))) yv_G_saltInHoppers m_G_130 (rup_ne (by omega) (hb_1_0)) k_G.2.1 rfl rfl rfl ⟨by decide, by decide⟩ (Nat.le_of_ble_eq_true rfl) ⟨by decide, by decide⟩ d_G_forecast_93 (fun r9 ad9 c9 hp9 => ?_)
  obtain ⟨rfl, rfl, rfl⟩ := hp9
  refine r_iadd X d_G_forecast_96 ?_
  refine r_top (y := 100) (by decide) ?_
  refine r_Iv X W0_good hN (c_Fc_init l D cy a_1 (va_up (cont cy ad S00 J00) 56 (some (.inr (5, [.int 0, .int 0, .int 0, .int 0, .int 0, .int 0, .int 0])))) 56 rup_self 0 (0 + p0) 100) yi_Fc_init m_G_134 rfl rfl ⟨by decide, by decide⟩ (Nat.le_of_ble_eq_true rfl) ⟨by decide, by decide⟩ d_G_forecast_97 (fun ad9 c9 hp9 => ?_)
  obtain ⟨rfl, rfl⟩ := hp9
  refine r_c (va_up (cont cy ad S00 J00) 56 (some (.inr (5, [.int 0, .int (0 + p0), .int 100, .int 0, .int 0, .int 0, .int 0])))) rup_up ?_
  refine r_astore X [(6, .ref (a_1 56)), (0, .ref (a_1 0)), (1, .int p0), (2, .int p1), (3, .int p2), (4, .int p3), (5, .int p4)] d_G_forecast_100 (by decide) rfl ?_
  refine r_aload X 0 d_G_forecast_102 rfl ?_
  refine r_iload_n X 3 d_G_forecast_104 rfl rfl ?_
  refine r_iload_n X 4 d_G_forecast_105 rfl rfl ?_
  refine r_iload X 5 d_G_forecast_106 rfl ?_
  refine r_iload X 6 d_G_forecast_108 rfl ?_
  refine r_Vv X W0_good hN (c_Fc_tellMembers l D cy a_1 (va_up (cont cy ad S00 J00) 56 (some (.inr (5, [.int 0, .int (0 + p0), .int 100, .int 0, .int 0, .int 0, .int 0])))) 56 0 (0 + p0) 100 rup_self p1 p2 p3 p4 hz) yv_Fc_tellMembers m_G_137 rup_self k_Fc.2.1 rfl rfl rfl ⟨by decide, by decide⟩ (Nat.le_of_ble_eq_true rfl) ⟨by decide, by decide⟩ d_G_forecast_110 (fun ad9 c9 hp9 => ?_)
  obtain ⟨rfl, rfl⟩ := hp9
  refine r_c (va_up (cont cy ad S00 J00) 56 (some (.inr (5, [.int 0, .int (0 + p0), .int 100, .int p1, .int p2, .int p3, .int p4])))) rup_up ?_
  refine r_aload_n X 1 d_G_forecast_113 rfl rfl ?_
  refine r_get X k_G 2 (by decide) f_G_23 rfl (rup_ne (by omega) (hb_1_0)) rfl d_G_forecast_114 ?_
  refine r_aload_n X 1 d_G_forecast_117 rfl rfl ?_
  refine r_get X k_G 10 (by decide) f_G_122 rfl (rup_ne (by omega) (hb_1_0)) rfl d_G_forecast_118 ?_
  refine r_aload X 0 d_G_forecast_121 rfl ?_
  refine r_aast X 4 (rup_ne (by omega) ((ct_lo (by decide)))) rfl rup_self rfl (by unfold vp_in; decide +kernel) rfl (va_up (va_up (cont cy ad S00 J00) 56 (some (.inr (5, [.int 0, .int (0 + p0), .int 100, .int p1, .int p2, .int p3, .int p4])))) 3 (some (.inl (cy 4, 20, .inr (.inr (.inr (.inr (va_up (fun _ => none) 0 (some (a_1 56)))))))))) rfl d_G_forecast_123 ?_
  refine r_aload_n X 1 d_G_forecast_124 rfl rfl ?_
  refine r_dup X d_G_forecast_125 rfl ?_
  refine r_get X k_G 10 (by decide) f_G_122 rfl (rup_ne (by omega) (rup_ne (by omega) (hb_1_0))) rfl d_G_forecast_126 ?_
  refine r_iconst X 1 d_G_forecast_129 (by decide) ?_
  refine r_iadd X d_G_forecast_130 ?_
  refine r_top (y := 1) (by decide) ?_
  refine r_put X k_G 10 (by decide) f_G_122 rfl (rup_ne (by omega) (rup_ne (by omega) (hb_1_0))) rfl rfl rfl (Nat.le_of_ble_eq_true rfl) [.ref (a_1 1), .ref (a_1 2), .ref (a_1 3), .ref (a_1 4), .ref (a_1 5), .ref (a_1 6), .ref (a_1 7), .ref (a_1 8), .int 0, .int 0, .int 1, .int 0, .int 100, .int 0, .int 0, .int 0] rfl (va_up (va_up (va_up (cont cy ad S00 J00) 56 (some (.inr (5, [.int 0, .int (0 + p0), .int 100, .int p1, .int p2, .int p3, .int p4])))) 3 (some (.inl (cy 4, 20, .inr (.inr (.inr (.inr (va_up (fun _ => none) 0 (some (a_1 56)))))))))) 0 (some (.inr (7, [.ref (a_1 1), .ref (a_1 2), .ref (a_1 3), .ref (a_1 4), .ref (a_1 5), .ref (a_1 6), .ref (a_1 7), .ref (a_1 8), .int 0, .int 0, .int 1, .int 0, .int 100, .int 0, .int 0, .int 0])))) rfl d_G_forecast_131 ?_
  refine r_aload_n X 1 d_G_forecast_134 rfl rfl ?_
  refine r_aload X 0 d_G_forecast_135 rfl ?_
  refine r_Vi X W0_good hN (c_G_roadsForetold l D cy a_1 (va_up (va_up (va_up (cont cy ad S00 J00) 56 (some (.inr (5, [.int 0, .int (0 + p0), .int 100, .int p1, .int p2, .int p3, .int p4])))) 3 (some (.inl (cy 4, 20, .inr (.inr (.inr (.inr (va_up (fun _ => none) 0 (some (a_1 56)))))))))) 0 (some (.inr (7, [.ref (a_1 1), .ref (a_1 2), .ref (a_1 3), .ref (a_1 4), .ref (a_1 5), .ref (a_1 6), .ref (a_1 7), .ref (a_1 8), .int 0, .int 0, .int 1, .int 0, .int 100, .int 0, .int 0, .int 0])))) rup_self _ (rup_ne (by omega) (rup_ne (by omega) (rup_ne (by omega) ((ct_lo (by decide)))))) (fun i hi => if_neg (Nat.not_lt_zero _)) (a_1 56)) yv_G_roadsForetold m_G_141 rup_self k_G.2.1 rfl rfl rfl ⟨by decide, by decide⟩ (Nat.le_of_ble_eq_true rfl) ⟨by decide, by decide⟩ d_G_forecast_137 (fun r9 ad9 c9 hp9 => ?_)
  obtain ⟨rfl, rfl, rfl⟩ := hp9
  exact r_iret (post := fun r _ _ => 0 = r) X hr hlk d_G_forecast_140 (by decide) (by decide) rfl
set_option maxRecDepth 100000 in
set_option maxHeartbeats 4000000 in
/-- Del_init -/
theorem c_Del_init (l : Launch) (D : va_G) (cy : Nat → ClassId) (ad : Nat → Nat) (c : rC) (n : Nat) (hc : c n = some (.inr (6, [.int 0, .int 0]))) (a0 a1 : Int32) : rMv l D cls (TY cy) NW y_Del_init (Cond.code y_Del_init b_Del_init 3 none :: W0) { frames := 1, cells := 0, slots := 0, locals := 20 } [.ref (ad n), .int a0, .int a1] ad c (fun ad' c' => ad = ad' ∧ va_up c n (some (.inr (6, [.int a0, .int a1]))) = c') := by
  intro sz
  refine r_of (own := R_Del) rfl (by decide +kernel) (Nat.le_of_ble_eq_true rfl) ?_
  intro p e s m below meth cd hsz X hr hlk hN hin
  refine r_lv [0, 1, 2] [(0, .ref (ad n)), (1, .int a0), (2, .int a1)] rfl ?_
  refine r_aload_n X 0 d_Del_init_0 rfl rfl ?_
  refine r_obj X m_Del_1 s_obj cd_obj ⟨by decide, by decide⟩ (Nat.le_of_ble_eq_true rfl) d_Del_init_1 ?_
  refine r_aload_n X 0 d_Del_init_4 rfl rfl ?_
  refine r_iload_n X 1 d_Del_init_5 rfl rfl ?_
  refine r_putF X k_Del 0 (by decide) f_Del_7 rfl hc rfl rfl hin rfl rfl (Nat.le_of_ble_eq_true rfl) [.int a0, .int 0] rfl (va_up c n (some (.inr (6, [.int a0, .int 0])))) rfl d_Del_init_6 ?_
  refine r_aload_n X 0 d_Del_init_9 rfl rfl ?_
  refine r_iload_n X 2 d_Del_init_10 rfl rfl ?_
  refine r_putF X k_Del 1 (by decide) f_Del_13 rfl rup_self rfl rfl hin rfl rfl (Nat.le_of_ble_eq_true rfl) [.int a0, .int a1] rfl (va_up c n (some (.inr (6, [.int a0, .int a1])))) rup_up d_Del_init_11 ?_
  exact r_vret (post := fun ad' c' => ad = ad' ∧ va_up c n (some (.inr (6, [.int a0, .int a1]))) = c') X hr hlk d_Del_init_14 (by decide) (by decide) ⟨rfl, rfl⟩
set_option maxRecDepth 100000 in
set_option maxHeartbeats 4000000 in
/-- G_keepDelivery -/
theorem c_G_keepDelivery (l : Launch) (D : va_G) (cy : Nat → ClassId) (ad : Nat → Nat) (c : rC) (h0 : c 0 = some (.inr (7, [.ref (ad 1), .ref (ad 2), .ref (ad 3), .ref (ad 4), .ref (ad 5), .ref (ad 6), .ref (ad 7), .ref (ad 8), .int 0, .int 0, .int 0, .int 0, .int 100, .int 0, .int 0, .int 0]))) (h4 : c 4 = some (.inl (cy 5, 5, .inr (.inr (.inr (.inr (fun _ => none))))))) (vs : List Value) (h57 : c 57 = some (.inr (6, vs))) : rMv l D cls (TY cy) NW y_G_keepDelivery (Cond.code y_G_keepDelivery b_G_keepDelivery 3 rt_G_keepDelivery :: W0) { frames := 0, cells := 0, slots := 0, locals := 0 } [.ref (ad 0), .ref (ad 57)] ad c (fun ad' c' => ad = ad' ∧ va_up c 4 (some (.inl (cy 5, 5, .inr (.inr (.inr (.inr (va_up (fun _ => none) 0 (some (ad 57))))))))) = c') := by
  intro sz
  refine r_of (own := R_G) rfl (by decide +kernel) (Nat.le_of_ble_eq_true rfl) ?_
  intro p e s m below meth cd hsz X hr hlk hN hin
  refine r_lv [0, 1] [(0, .ref (ad 0)), (1, .ref (ad 57))] rfl ?_
  refine r_iconst X 0 d_G_keepDelivery_0 (by decide) ?_
  refine r_istore_n X [(2, .int 0), (0, .ref (ad 0)), (1, .ref (ad 57))] d_G_keepDelivery_1 rfl (by decide) rfl ?_
  refine r_iload_n X 0 d_G_keepDelivery_2 rfl rfl ?_
  refine r_aload_n X 1 d_G_keepDelivery_3 rfl rfl ?_
  refine r_get X k_G 3 (by decide) f_G_29 rfl h0 rfl d_G_keepDelivery_4 ?_
  refine r_alen (v := 5) X 5 h4 rfl rfl d_G_keepDelivery_7 ?_
  refine r_icmp_ge X 34 d_G_keepDelivery_8 (by decide) (fun h9 => absurd h9 (by decide)) (fun _ => ?_)
  refine r_aload_n X 1 d_G_keepDelivery_11 rfl rfl ?_
  refine r_get X k_G 3 (by decide) f_G_29 rfl h0 rfl d_G_keepDelivery_12 ?_
  refine r_iload_n X 0 d_G_keepDelivery_15 rfl rfl ?_
  refine r_aald (v := .null) X 5 h4 rfl (by unfold vp_in; decide +kernel) rfl d_G_keepDelivery_16 ?_
  refine r_ifnonnullN X d_G_keepDelivery_17 ?_
  refine r_aload_n X 1 d_G_keepDelivery_20 rfl rfl ?_
  refine r_get X k_G 3 (by decide) f_G_29 rfl h0 rfl d_G_keepDelivery_21 ?_
  refine r_iload_n X 0 d_G_keepDelivery_24 rfl rfl ?_
  refine r_aload_n X 2 d_G_keepDelivery_25 rfl rfl ?_
  refine r_aast X 5 h4 rfl h57 rfl (by unfold vp_in; decide +kernel) rfl (va_up c 4 (some (.inl (cy 5, 5, .inr (.inr (.inr (.inr (va_up (fun _ => none) 0 (some (ad 57)))))))))) rfl d_G_keepDelivery_26 ?_
  exact r_vret (post := fun ad' c' => ad = ad' ∧ va_up c 4 (some (.inl (cy 5, 5, .inr (.inr (.inr (.inr (va_up (fun _ => none) 0 (some (ad 57))))))))) = c') X hr hlk d_G_keepDelivery_27 (by decide) (by decide) ⟨rfl, rfl⟩
set_option maxRecDepth 100000 in
set_option maxHeartbeats 4000000 in
/-- G_deliveriesOnTheirWay -/
theorem c1_G_deliveriesOnTheirWay (l : Launch) (D : va_G) (cy : Nat → ClassId) (ad : Nat → Nat) (c : rC) (h0 : c 0 = some (.inr (7, [.ref (ad 1), .ref (ad 2), .ref (ad 3), .ref (ad 4), .ref (ad 5), .ref (ad 6), .ref (ad 7), .ref (ad 8), .int 0, .int 0, .int 0, .int 0, .int 100, .int 0, .int 0, .int 0]))) (h4 : c 4 = some (.inl (cy 5, 5, .inr (.inr (.inr (.inr (va_up (fun _ => none) 0 (some (ad 57))))))))) : rMi l D cls (TY cy) NW y_G_deliveriesOnTheirWay (Cond.code y_G_deliveriesOnTheirWay b_G_deliveriesOnTheirWay 6 rt_G_deliveriesOnTheirWay :: W0) { frames := 0, cells := 0, slots := 0, locals := 0 } [.ref (ad 0)] ad c (fun r ad' c' => 1 = r ∧ ad = ad' ∧ c = c') := by
  intro sz
  refine r_of (own := R_G) rfl (by decide +kernel) (Nat.le_of_ble_eq_true rfl) ?_
  intro p e s m below meth cd hsz X hr hlk hN hin
  refine r_lv [0] [(0, .ref (ad 0))] rfl ?_
  refine r_iconst X 0 d_G_deliveriesOnTheirWay_0 (by decide) ?_
  refine r_istore_n X [(1, .int 0), (0, .ref (ad 0))] d_G_deliveriesOnTheirWay_1 rfl (by decide) rfl ?_
  refine r_aload_n X 1 d_G_deliveriesOnTheirWay_2 rfl rfl ?_
  refine r_get X k_G 3 (by decide) f_G_29 rfl h0 rfl d_G_deliveriesOnTheirWay_3 ?_
  refine r_astore_n X [(2, .ref (ad 4)), (1, .int 0), (0, .ref (ad 0))] d_G_deliveriesOnTheirWay_6 rfl (by decide) rfl ?_
  refine r_aload_n X 0 d_G_deliveriesOnTheirWay_7 rfl rfl ?_
  refine r_alen (v := 5) X 5 h4 rfl rfl d_G_deliveriesOnTheirWay_8 ?_
  refine r_istore_n X [(3, .int 5), (2, .ref (ad 4)), (1, .int 0), (0, .ref (ad 0))] d_G_deliveriesOnTheirWay_9 rfl (by decide) rfl ?_
  refine r_iconst X 0 d_G_deliveriesOnTheirWay_10 (by decide) ?_
  refine r_istore X [(4, .int 0), (3, .int 5), (2, .ref (ad 4)), (1, .int 0), (0, .ref (ad 0))] d_G_deliveriesOnTheirWay_11 (by decide) rfl ?_
  refine r_iload X 0 d_G_deliveriesOnTheirWay_13 rfl ?_
  refine r_iload_n X 1 d_G_deliveriesOnTheirWay_15 rfl rfl ?_
  refine r_icmp_ge X 44 d_G_deliveriesOnTheirWay_16 (by decide) (fun h9 => absurd h9 (by decide)) (fun _ => ?_)
  refine r_aload_n X 2 d_G_deliveriesOnTheirWay_19 rfl rfl ?_
  refine r_iload X 0 d_G_deliveriesOnTheirWay_20 rfl ?_
  refine r_aald (v := .ref (ad 57)) X 5 h4 rfl (by unfold vp_in; decide +kernel) rfl d_G_deliveriesOnTheirWay_22 ?_
  refine r_astore X [(5, .ref (ad 57)), (4, .int 0), (3, .int 5), (2, .ref (ad 4)), (1, .int 0), (0, .ref (ad 0))] d_G_deliveriesOnTheirWay_23 (by decide) rfl ?_
  refine r_iload_n X 4 d_G_deliveriesOnTheirWay_25 rfl rfl ?_
  refine r_aload X 0 d_G_deliveriesOnTheirWay_26 rfl ?_
  refine r_ifnonnull X 35 d_G_deliveriesOnTheirWay_28 (by decide) ?_
  refine r_iconst X 1 d_G_deliveriesOnTheirWay_35 (by decide) ?_
  refine r_iadd X d_G_deliveriesOnTheirWay_36 ?_
  refine r_top (y := 1) (by decide) ?_
  refine r_istore_n X [(1, .int 1), (5, .ref (ad 57)), (4, .int 0), (3, .int 5), (2, .ref (ad 4)), (0, .ref (ad 0))] d_G_deliveriesOnTheirWay_37 rfl (by decide) rfl ?_
  refine r_iinc X 2 [(4, .int 1), (1, .int 1), (5, .ref (ad 57)), (3, .int 5), (2, .ref (ad 4)), (0, .ref (ad 0))] d_G_deliveriesOnTheirWay_38 rfl (by decide) (by decide) rfl ?_
  refine r_goto X 13 d_G_deliveriesOnTheirWay_41 (by decide) ?_
  refine r_iload X 0 d_G_deliveriesOnTheirWay_13 rfl ?_
  refine r_iload_n X 3 d_G_deliveriesOnTheirWay_15 rfl rfl ?_
  refine r_icmp_ge X 44 d_G_deliveriesOnTheirWay_16 (by decide) (fun h9 => absurd h9 (by decide)) (fun _ => ?_)
  refine r_aload_n X 4 d_G_deliveriesOnTheirWay_19 rfl rfl ?_
  refine r_iload X 0 d_G_deliveriesOnTheirWay_20 rfl ?_
  refine r_aald (v := .null) X 5 h4 rfl (by unfold vp_in; decide +kernel) rfl d_G_deliveriesOnTheirWay_22 ?_
  refine r_astoreN X [(5, .null), (4, .int 1), (1, .int 1), (3, .int 5), (2, .ref (ad 4)), (0, .ref (ad 0))] d_G_deliveriesOnTheirWay_23 (by decide) rfl ?_
  refine r_iload_n X 2 d_G_deliveriesOnTheirWay_25 rfl rfl ?_
  refine r_aloadN X 0 d_G_deliveriesOnTheirWay_26 rfl ?_
  refine r_ifnonnullN X d_G_deliveriesOnTheirWay_28 ?_
  refine r_iconst X 0 d_G_deliveriesOnTheirWay_31 (by decide) ?_
  refine r_goto X 36 d_G_deliveriesOnTheirWay_32 (by decide) ?_
  refine r_iadd X d_G_deliveriesOnTheirWay_36 ?_
  refine r_top (y := 1) (by decide) ?_
  refine r_istore_n X [(1, .int 1), (5, .null), (4, .int 1), (3, .int 5), (2, .ref (ad 4)), (0, .ref (ad 0))] d_G_deliveriesOnTheirWay_37 rfl (by decide) rfl ?_
  refine r_iinc X 2 [(4, .int 2), (1, .int 1), (5, .null), (3, .int 5), (2, .ref (ad 4)), (0, .ref (ad 0))] d_G_deliveriesOnTheirWay_38 rfl (by decide) (by decide) rfl ?_
  refine r_goto X 13 d_G_deliveriesOnTheirWay_41 (by decide) ?_
  refine r_iload X 0 d_G_deliveriesOnTheirWay_13 rfl ?_
  refine r_iload_n X 3 d_G_deliveriesOnTheirWay_15 rfl rfl ?_
  refine r_icmp_ge X 44 d_G_deliveriesOnTheirWay_16 (by decide) (fun h9 => absurd h9 (by decide)) (fun _ => ?_)
  refine r_aload_n X 4 d_G_deliveriesOnTheirWay_19 rfl rfl ?_
  refine r_iload X 0 d_G_deliveriesOnTheirWay_20 rfl ?_
  refine r_aald (v := .null) X 5 h4 rfl (by unfold vp_in; decide +kernel) rfl d_G_deliveriesOnTheirWay_22 ?_
  refine r_astoreN X [(5, .null), (4, .int 2), (1, .int 1), (3, .int 5), (2, .ref (ad 4)), (0, .ref (ad 0))] d_G_deliveriesOnTheirWay_23 (by decide) rfl ?_
  refine r_iload_n X 2 d_G_deliveriesOnTheirWay_25 rfl rfl ?_
  refine r_aloadN X 0 d_G_deliveriesOnTheirWay_26 rfl ?_
  refine r_ifnonnullN X d_G_deliveriesOnTheirWay_28 ?_
  refine r_iconst X 0 d_G_deliveriesOnTheirWay_31 (by decide) ?_
  refine r_goto X 36 d_G_deliveriesOnTheirWay_32 (by decide) ?_
  refine r_iadd X d_G_deliveriesOnTheirWay_36 ?_
  refine r_top (y := 1) (by decide) ?_
  refine r_istore_n X [(1, .int 1), (5, .null), (4, .int 2), (3, .int 5), (2, .ref (ad 4)), (0, .ref (ad 0))] d_G_deliveriesOnTheirWay_37 rfl (by decide) rfl ?_
  refine r_iinc X 2 [(4, .int 3), (1, .int 1), (5, .null), (3, .int 5), (2, .ref (ad 4)), (0, .ref (ad 0))] d_G_deliveriesOnTheirWay_38 rfl (by decide) (by decide) rfl ?_
  refine r_goto X 13 d_G_deliveriesOnTheirWay_41 (by decide) ?_
  refine r_iload X 0 d_G_deliveriesOnTheirWay_13 rfl ?_
  refine r_iload_n X 3 d_G_deliveriesOnTheirWay_15 rfl rfl ?_
  refine r_icmp_ge X 44 d_G_deliveriesOnTheirWay_16 (by decide) (fun h9 => absurd h9 (by decide)) (fun _ => ?_)
  refine r_aload_n X 4 d_G_deliveriesOnTheirWay_19 rfl rfl ?_
  refine r_iload X 0 d_G_deliveriesOnTheirWay_20 rfl ?_
  refine r_aald (v := .null) X 5 h4 rfl (by unfold vp_in; decide +kernel) rfl d_G_deliveriesOnTheirWay_22 ?_
  refine r_astoreN X [(5, .null), (4, .int 3), (1, .int 1), (3, .int 5), (2, .ref (ad 4)), (0, .ref (ad 0))] d_G_deliveriesOnTheirWay_23 (by decide) rfl ?_
  refine r_iload_n X 2 d_G_deliveriesOnTheirWay_25 rfl rfl ?_
  refine r_aloadN X 0 d_G_deliveriesOnTheirWay_26 rfl ?_
  refine r_ifnonnullN X d_G_deliveriesOnTheirWay_28 ?_
  refine r_iconst X 0 d_G_deliveriesOnTheirWay_31 (by decide) ?_
  refine r_goto X 36 d_G_deliveriesOnTheirWay_32 (by decide) ?_
  refine r_iadd X d_G_deliveriesOnTheirWay_36 ?_
  refine r_top (y := 1) (by decide) ?_
  refine r_istore_n X [(1, .int 1), (5, .null), (4, .int 3), (3, .int 5), (2, .ref (ad 4)), (0, .ref (ad 0))] d_G_deliveriesOnTheirWay_37 rfl (by decide) rfl ?_
  refine r_iinc X 2 [(4, .int 4), (1, .int 1), (5, .null), (3, .int 5), (2, .ref (ad 4)), (0, .ref (ad 0))] d_G_deliveriesOnTheirWay_38 rfl (by decide) (by decide) rfl ?_
  refine r_goto X 13 d_G_deliveriesOnTheirWay_41 (by decide) ?_
  refine r_iload X 0 d_G_deliveriesOnTheirWay_13 rfl ?_
  refine r_iload_n X 3 d_G_deliveriesOnTheirWay_15 rfl rfl ?_
  refine r_icmp_ge X 44 d_G_deliveriesOnTheirWay_16 (by decide) (fun h9 => absurd h9 (by decide)) (fun _ => ?_)
  refine r_aload_n X 4 d_G_deliveriesOnTheirWay_19 rfl rfl ?_
  refine r_iload X 0 d_G_deliveriesOnTheirWay_20 rfl ?_
  refine r_aald (v := .null) X 5 h4 rfl (by unfold vp_in; decide +kernel) rfl d_G_deliveriesOnTheirWay_22 ?_
  refine r_astoreN X [(5, .null), (4, .int 4), (1, .int 1), (3, .int 5), (2, .ref (ad 4)), (0, .ref (ad 0))] d_G_deliveriesOnTheirWay_23 (by decide) rfl ?_
  refine r_iload_n X 2 d_G_deliveriesOnTheirWay_25 rfl rfl ?_
  refine r_aloadN X 0 d_G_deliveriesOnTheirWay_26 rfl ?_
  refine r_ifnonnullN X d_G_deliveriesOnTheirWay_28 ?_
  refine r_iconst X 0 d_G_deliveriesOnTheirWay_31 (by decide) ?_
  refine r_goto X 36 d_G_deliveriesOnTheirWay_32 (by decide) ?_
  refine r_iadd X d_G_deliveriesOnTheirWay_36 ?_
  refine r_top (y := 1) (by decide) ?_
  refine r_istore_n X [(1, .int 1), (5, .null), (4, .int 4), (3, .int 5), (2, .ref (ad 4)), (0, .ref (ad 0))] d_G_deliveriesOnTheirWay_37 rfl (by decide) rfl ?_
  refine r_iinc X 2 [(4, .int 5), (1, .int 1), (5, .null), (3, .int 5), (2, .ref (ad 4)), (0, .ref (ad 0))] d_G_deliveriesOnTheirWay_38 rfl (by decide) (by decide) rfl ?_
  refine r_goto X 13 d_G_deliveriesOnTheirWay_41 (by decide) ?_
  refine r_iload X 0 d_G_deliveriesOnTheirWay_13 rfl ?_
  refine r_iload_n X 3 d_G_deliveriesOnTheirWay_15 rfl rfl ?_
  refine r_icmp_ge X 44 d_G_deliveriesOnTheirWay_16 (by decide) (fun _ => ?_) (fun h9 => absurd h9 (by decide))
  refine r_iload_n X 1 d_G_deliveriesOnTheirWay_44 rfl rfl ?_
  exact r_iret (post := fun r ad' c' => 1 = r ∧ ad = ad' ∧ c = c') X hr hlk d_G_deliveriesOnTheirWay_45 (by decide) (by decide) ⟨by (try simp only []); first | done | rfl | exact rup_id (by assumption), rfl, rfl⟩
set_option maxRecDepth 100000 in
set_option maxHeartbeats 4000000 in
/-- G_deliver -/
theorem c_G_deliver (l : Launch) (D : va_G) (cy : Nat → ClassId) (ad : Nat → Nat)  (p0 p1 : Int32) (h0 : inF p0 1 500 = 1) (h1 : inF p1 1 96 = 1) : rMi l D cls (TY cy) NW y_G_deliver (Cond.code y_G_deliver b_G_deliver 3 rt_G_deliver :: W0) { frames := 6, cells := 1, slots := 2, locals := 90 } [.ref (ad 0), .int p0, .int p1] ad (cont cy ad S00 J00) (fun r _ _ => 1 = r) := by
  intro sz
  refine r_of (own := R_G) rfl (by decide +kernel) (Nat.le_of_ble_eq_true rfl) ?_
  intro p e s m below meth cd hsz X hr hlk hN hin
  refine r_lv [0, 1, 2] [(0, .ref (ad 0)), (1, .int p0), (2, .int p1)] rfl ?_
  refine r_iload_n X 1 d_G_deliver_0 rfl rfl ?_
  refine r_iconst X 1 d_G_deliver_1 (by decide) ?_
  refine r_sipush X 500 d_G_deliver_2 (by decide) ?_
  refine r_Si X W0_good hN (c_G_isWithin l D cy ad (cont cy ad S00 J00) p0 1 500) ys_G_isWithin m_G_78 rfl rfl ⟨by decide, by decide⟩ (Nat.le_of_ble_eq_true rfl) ⟨by decide, by decide⟩ d_G_deliver_5 (fun r9 ad9 c9 hp9 => ?_)
  obtain ⟨rfl, rfl, rfl⟩ := hp9
  refine r_top (y := 1) h0 ?_
  refine r_if_eq X 21 d_G_deliver_8 (by decide) (fun h9 => absurd h9 (by decide)) (fun _ => ?_)
  refine r_iload_n X 2 d_G_deliver_11 rfl rfl ?_
  refine r_iconst X 1 d_G_deliver_12 (by decide) ?_
  refine r_bipush X 96 d_G_deliver_13 (by decide) ?_
  refine r_Si X W0_good hN (c_G_isWithin l D cy ad (cont cy ad S00 J00) p1 1 96) ys_G_isWithin m_G_78 rfl rfl ⟨by decide, by decide⟩ (Nat.le_of_ble_eq_true rfl) ⟨by decide, by decide⟩ d_G_deliver_15 (fun r9 ad9 c9 hp9 => ?_)
  obtain ⟨rfl, rfl, rfl⟩ := hp9
  refine r_top (y := 1) h1 ?_
  refine r_if_ne X 31 d_G_deliver_18 (by decide) (fun _ => ?_) (fun h9 => absurd h9 (by decide))
  refine r_aload_n X 0 d_G_deliver_31 rfl rfl ?_
  refine r_Vi X W0_good hN (c_G_deliveriesOnTheirWay l D cy ad S00 J00 wf_00) yv_G_deliveriesOnTheirWay m_G_210 (ct_lo (by decide)) k_G.2.1 rfl rfl rfl ⟨by decide, by decide⟩ (Nat.le_of_ble_eq_true rfl) ⟨by decide, by decide⟩ d_G_deliver_32 (fun r9 ad9 c9 hp9 => ?_)
  obtain ⟨rfl, rfl, rfl⟩ := hp9
  refine r_iconst X 5 d_G_deliver_35 (by decide) ?_
  refine r_icmp_lt X 49 d_G_deliver_36 (by decide) (fun _ => ?_) (fun h9 => absurd h9 (by decide))
  refine r_aload_n X 0 d_G_deliver_49 rfl rfl ?_
  refine r_new X k_Del c_G_27 n_Del i_Del (fs := [.int 0, .int 0]) (by intro j hj; obtain rfl | rfl : j = 0 ∨ j = 1 := (by omega); all_goals rfl) (Nat.le_of_ble_eq_true rfl) (Nat.le_of_ble_eq_true rfl) d_G_deliver_50 57 (ct_hi (by decide)) (fun a9 => [(0, .ref (a9 0)), (1, .int p0), (2, .int p1)]) (fun a9 => [.ref (a9 0)]) (fun a9 h9 => by rw [h9 0 (by decide)]) (fun a9 h9 => by rw [h9 0 (by decide)]) (fun a_1 ha_1 => ?_)
  have hb_1_0 : (cont cy ad S00 J00) 0 = some (.inr (7, [.ref (a_1 1), .ref (a_1 2), .ref (a_1 3), .ref (a_1 4), .ref (a_1 5), .ref (a_1 6), .ref (a_1 7), .ref (a_1 8), .int 0, .int 0, .int 0, .int 0, .int 100, .int 0, .int 0, .int 0])) := by rw [ha_1 1 (by decide), ha_1 2 (by decide), ha_1 3 (by decide), ha_1 4 (by decide), ha_1 5 (by decide), ha_1 6 (by decide), ha_1 7 (by decide), ha_1 8 (by decide)]; exact (ct_lo (by decide))
  refine r_dup X d_G_deliver_53 rfl ?_
  refine r_iload_n X 1 d_G_deliver_54 rfl rfl ?_
  refine r_aload_n X 0 d_G_deliver_55 rfl rfl ?_
  refine r_get X k_G 11 (by decide) f_G_127 rfl (rup_ne (by omega) (hb_1_0)) rfl d_G_deliver_56 ?_
  refine r_iload_n X 2 d_G_deliver_59 rfl rfl ?_
  refine r_iadd X d_G_deliver_60 ?_
  refine r_Iv X W0_good hN (c_Del_init l D cy a_1 (va_up (cont cy ad S00 J00) 57 (some (.inr (6, [.int 0, .int 0])))) 57 rup_self p0 (0 + p1)) yi_Del_init m_G_215 rfl rfl ⟨by decide, by decide⟩ (Nat.le_of_ble_eq_true rfl) ⟨by decide, by decide⟩ d_G_deliver_61 (fun ad9 c9 hp9 => ?_)
  obtain ⟨rfl, rfl⟩ := hp9
  refine r_c (va_up (cont cy ad S00 J00) 57 (some (.inr (6, [.int p0, .int (0 + p1)])))) rup_up ?_
  refine r_Vv X W0_good hN (c_G_keepDelivery l D cy a_1 (va_up (cont cy ad S00 J00) 57 (some (.inr (6, [.int p0, .int (0 + p1)])))) (rup_ne (by omega) (hb_1_0)) (rup_ne (by omega) ((ct_lo (by decide)))) _ rup_self) yv_G_keepDelivery m_G_218 (rup_ne (by omega) (hb_1_0)) k_G.2.1 rfl rfl rfl ⟨by decide, by decide⟩ (Nat.le_of_ble_eq_true rfl) ⟨by decide, by decide⟩ d_G_deliver_64 (fun ad9 c9 hp9 => ?_)
  obtain ⟨rfl, rfl⟩ := hp9
  refine r_aload_n X 0 d_G_deliver_67 rfl rfl ?_
  refine r_Vi X W0_good hN (c1_G_deliveriesOnTheirWay l D cy a_1 (va_up (va_up (cont cy ad S00 J00) 57 (some (.inr (6, [.int p0, .int (0 + p1)])))) 4 (some (.inl (cy 5, 5, .inr (.inr (.inr (.inr (va_up (fun _ => none) 0 (some (a_1 57)))))))))) (rup_ne (by omega) (rup_ne (by omega) (hb_1_0))) rup_self) yv_G_deliveriesOnTheirWay m_G_210 (rup_ne (by omega) (rup_ne (by omega) (hb_1_0))) k_G.2.1 rfl rfl rfl ⟨by decide, by decide⟩ (Nat.le_of_ble_eq_true rfl) ⟨by decide, by decide⟩ d_G_deliver_68 (fun r9 ad9 c9 hp9 => ?_)
  obtain ⟨rfl, rfl, rfl⟩ := hp9
  exact r_iret (post := fun r _ _ => 1 = r) X hr hlk d_G_deliver_71 (by decide) (by decide) rfl
set_option maxRecDepth 100000 in
set_option maxHeartbeats 4000000 in
/-- G_meanWarmth -/
theorem c_G_meanWarmth (l : Launch) (D : va_G) (cy : Nat → ClassId) (ad : Nat → Nat)   : rMd l D cls (TY cy) NW y_G_meanWarmth (Cond.code y_G_meanWarmth b_G_meanWarmth 7 rt_G_meanWarmth :: W0) { frames := 0, cells := 0, slots := 0, locals := 0 } [.ref (ad 0)] ad (cont cy ad S00 J00) (fun r _ _ => FP.dconst0 = r) := by
  intro sz
  refine r_of (own := R_G) rfl (by decide +kernel) (Nat.le_of_ble_eq_true rfl) ?_
  intro p e s m below meth cd hsz X hr hlk hN hin
  refine r_lv [0] [(0, .ref (ad 0))] rfl ?_
  refine r_iconst X 0 d_G_meanWarmth_0 (by decide) ?_
  refine r_istore_n X [(1, .int 0), (0, .ref (ad 0))] d_G_meanWarmth_1 rfl (by decide) rfl ?_
  refine r_iconst X 0 d_G_meanWarmth_2 (by decide) ?_
  refine r_istore_n X [(2, .int 0), (1, .int 0), (0, .ref (ad 0))] d_G_meanWarmth_3 rfl (by decide) rfl ?_
  refine r_aload_n X 2 d_G_meanWarmth_4 rfl rfl ?_
  refine r_get X k_G 0 (by decide) f_G_11 rfl (ct_lo (by decide)) rfl d_G_meanWarmth_5 ?_
  refine r_astore_n X [(3, .ref (ad 1)), (2, .int 0), (1, .int 0), (0, .ref (ad 0))] d_G_meanWarmth_8 rfl (by decide) rfl ?_
  refine r_aload_n X 0 d_G_meanWarmth_9 rfl rfl ?_
  refine r_alen (v := 8) X 2 (ct_lo (by decide)) rfl rfl d_G_meanWarmth_10 ?_
  refine r_istore X [(4, .int 8), (3, .ref (ad 1)), (2, .int 0), (1, .int 0), (0, .ref (ad 0))] d_G_meanWarmth_11 (by decide) rfl ?_
  refine r_iconst X 0 d_G_meanWarmth_13 (by decide) ?_
  refine r_istore X [(5, .int 0), (4, .int 8), (3, .ref (ad 1)), (2, .int 0), (1, .int 0), (0, .ref (ad 0))] d_G_meanWarmth_14 (by decide) rfl ?_
  refine r_iload X 0 d_G_meanWarmth_16 rfl ?_
  refine r_iload X 1 d_G_meanWarmth_18 rfl ?_
  refine r_icmp_ge X 54 d_G_meanWarmth_20 (by decide) (fun h9 => absurd h9 (by decide)) (fun _ => ?_)
  refine r_aload_n X 2 d_G_meanWarmth_23 rfl rfl ?_
  refine r_iload X 0 d_G_meanWarmth_24 rfl ?_
  refine r_aald (v := .null) X 2 (ct_lo (by decide)) rfl (by unfold vp_in; decide +kernel) (rRf_n (i := 0) (by decide) (Nat.not_lt_zero _)) d_G_meanWarmth_26 ?_
  refine r_astoreN X [(6, .null), (5, .int 0), (4, .int 8), (3, .ref (ad 1)), (2, .int 0), (1, .int 0), (0, .ref (ad 0))] d_G_meanWarmth_27 (by decide) rfl ?_
  refine r_aloadN X 0 d_G_meanWarmth_29 rfl ?_
  refine r_ifnullN X 48 d_G_meanWarmth_31 (by decide) ?_
  refine r_iinc X 1 [(5, .int 1), (6, .null), (4, .int 8), (3, .ref (ad 1)), (2, .int 0), (1, .int 0), (0, .ref (ad 0))] d_G_meanWarmth_48 rfl (by decide) (by decide) rfl ?_
  refine r_goto X 16 d_G_meanWarmth_51 (by decide) ?_
  refine r_iload X 0 d_G_meanWarmth_16 rfl ?_
  refine r_iload X 2 d_G_meanWarmth_18 rfl ?_
  refine r_icmp_ge X 54 d_G_meanWarmth_20 (by decide) (fun h9 => absurd h9 (by decide)) (fun _ => ?_)
  refine r_aload_n X 3 d_G_meanWarmth_23 rfl rfl ?_
  refine r_iload X 0 d_G_meanWarmth_24 rfl ?_
  refine r_aald (v := .null) X 2 (ct_lo (by decide)) rfl (by unfold vp_in; decide +kernel) (rRf_n (i := 1) (by decide) (Nat.not_lt_zero _)) d_G_meanWarmth_26 ?_
  refine r_astoreN X [(6, .null), (5, .int 1), (4, .int 8), (3, .ref (ad 1)), (2, .int 0), (1, .int 0), (0, .ref (ad 0))] d_G_meanWarmth_27 (by decide) rfl ?_
  refine r_aloadN X 0 d_G_meanWarmth_29 rfl ?_
  refine r_ifnullN X 48 d_G_meanWarmth_31 (by decide) ?_
  refine r_iinc X 1 [(5, .int 2), (6, .null), (4, .int 8), (3, .ref (ad 1)), (2, .int 0), (1, .int 0), (0, .ref (ad 0))] d_G_meanWarmth_48 rfl (by decide) (by decide) rfl ?_
  refine r_goto X 16 d_G_meanWarmth_51 (by decide) ?_
  refine r_iload X 0 d_G_meanWarmth_16 rfl ?_
  refine r_iload X 2 d_G_meanWarmth_18 rfl ?_
  refine r_icmp_ge X 54 d_G_meanWarmth_20 (by decide) (fun h9 => absurd h9 (by decide)) (fun _ => ?_)
  refine r_aload_n X 3 d_G_meanWarmth_23 rfl rfl ?_
  refine r_iload X 0 d_G_meanWarmth_24 rfl ?_
  refine r_aald (v := .null) X 2 (ct_lo (by decide)) rfl (by unfold vp_in; decide +kernel) (rRf_n (i := 2) (by decide) (Nat.not_lt_zero _)) d_G_meanWarmth_26 ?_
  refine r_astoreN X [(6, .null), (5, .int 2), (4, .int 8), (3, .ref (ad 1)), (2, .int 0), (1, .int 0), (0, .ref (ad 0))] d_G_meanWarmth_27 (by decide) rfl ?_
  refine r_aloadN X 0 d_G_meanWarmth_29 rfl ?_
  refine r_ifnullN X 48 d_G_meanWarmth_31 (by decide) ?_
  refine r_iinc X 1 [(5, .int 3), (6, .null), (4, .int 8), (3, .ref (ad 1)), (2, .int 0), (1, .int 0), (0, .ref (ad 0))] d_G_meanWarmth_48 rfl (by decide) (by decide) rfl ?_
  refine r_goto X 16 d_G_meanWarmth_51 (by decide) ?_
  refine r_iload X 0 d_G_meanWarmth_16 rfl ?_
  refine r_iload X 2 d_G_meanWarmth_18 rfl ?_
  refine r_icmp_ge X 54 d_G_meanWarmth_20 (by decide) (fun h9 => absurd h9 (by decide)) (fun _ => ?_)
  refine r_aload_n X 3 d_G_meanWarmth_23 rfl rfl ?_
  refine r_iload X 0 d_G_meanWarmth_24 rfl ?_
  refine r_aald (v := .null) X 2 (ct_lo (by decide)) rfl (by unfold vp_in; decide +kernel) (rRf_n (i := 3) (by decide) (Nat.not_lt_zero _)) d_G_meanWarmth_26 ?_
  refine r_astoreN X [(6, .null), (5, .int 3), (4, .int 8), (3, .ref (ad 1)), (2, .int 0), (1, .int 0), (0, .ref (ad 0))] d_G_meanWarmth_27 (by decide) rfl ?_
  refine r_aloadN X 0 d_G_meanWarmth_29 rfl ?_
  refine r_ifnullN X 48 d_G_meanWarmth_31 (by decide) ?_
  refine r_iinc X 1 [(5, .int 4), (6, .null), (4, .int 8), (3, .ref (ad 1)), (2, .int 0), (1, .int 0), (0, .ref (ad 0))] d_G_meanWarmth_48 rfl (by decide) (by decide) rfl ?_
  refine r_goto X 16 d_G_meanWarmth_51 (by decide) ?_
  refine r_iload X 0 d_G_meanWarmth_16 rfl ?_
  refine r_iload X 2 d_G_meanWarmth_18 rfl ?_
  refine r_icmp_ge X 54 d_G_meanWarmth_20 (by decide) (fun h9 => absurd h9 (by decide)) (fun _ => ?_)
  refine r_aload_n X 3 d_G_meanWarmth_23 rfl rfl ?_
  refine r_iload X 0 d_G_meanWarmth_24 rfl ?_
  refine r_aald (v := .null) X 2 (ct_lo (by decide)) rfl (by unfold vp_in; decide +kernel) (rRf_n (i := 4) (by decide) (Nat.not_lt_zero _)) d_G_meanWarmth_26 ?_
  refine r_astoreN X [(6, .null), (5, .int 4), (4, .int 8), (3, .ref (ad 1)), (2, .int 0), (1, .int 0), (0, .ref (ad 0))] d_G_meanWarmth_27 (by decide) rfl ?_
  refine r_aloadN X 0 d_G_meanWarmth_29 rfl ?_
  refine r_ifnullN X 48 d_G_meanWarmth_31 (by decide) ?_
  refine r_iinc X 1 [(5, .int 5), (6, .null), (4, .int 8), (3, .ref (ad 1)), (2, .int 0), (1, .int 0), (0, .ref (ad 0))] d_G_meanWarmth_48 rfl (by decide) (by decide) rfl ?_
  refine r_goto X 16 d_G_meanWarmth_51 (by decide) ?_
  refine r_iload X 0 d_G_meanWarmth_16 rfl ?_
  refine r_iload X 2 d_G_meanWarmth_18 rfl ?_
  refine r_icmp_ge X 54 d_G_meanWarmth_20 (by decide) (fun h9 => absurd h9 (by decide)) (fun _ => ?_)
  refine r_aload_n X 3 d_G_meanWarmth_23 rfl rfl ?_
  refine r_iload X 0 d_G_meanWarmth_24 rfl ?_
  refine r_aald (v := .null) X 2 (ct_lo (by decide)) rfl (by unfold vp_in; decide +kernel) (rRf_n (i := 5) (by decide) (Nat.not_lt_zero _)) d_G_meanWarmth_26 ?_
  refine r_astoreN X [(6, .null), (5, .int 5), (4, .int 8), (3, .ref (ad 1)), (2, .int 0), (1, .int 0), (0, .ref (ad 0))] d_G_meanWarmth_27 (by decide) rfl ?_
  refine r_aloadN X 0 d_G_meanWarmth_29 rfl ?_
  refine r_ifnullN X 48 d_G_meanWarmth_31 (by decide) ?_
  refine r_iinc X 1 [(5, .int 6), (6, .null), (4, .int 8), (3, .ref (ad 1)), (2, .int 0), (1, .int 0), (0, .ref (ad 0))] d_G_meanWarmth_48 rfl (by decide) (by decide) rfl ?_
  refine r_goto X 16 d_G_meanWarmth_51 (by decide) ?_
  refine r_iload X 0 d_G_meanWarmth_16 rfl ?_
  refine r_iload X 2 d_G_meanWarmth_18 rfl ?_
  refine r_icmp_ge X 54 d_G_meanWarmth_20 (by decide) (fun h9 => absurd h9 (by decide)) (fun _ => ?_)
  refine r_aload_n X 3 d_G_meanWarmth_23 rfl rfl ?_
  refine r_iload X 0 d_G_meanWarmth_24 rfl ?_
  refine r_aald (v := .null) X 2 (ct_lo (by decide)) rfl (by unfold vp_in; decide +kernel) (rRf_n (i := 6) (by decide) (Nat.not_lt_zero _)) d_G_meanWarmth_26 ?_
  refine r_astoreN X [(6, .null), (5, .int 6), (4, .int 8), (3, .ref (ad 1)), (2, .int 0), (1, .int 0), (0, .ref (ad 0))] d_G_meanWarmth_27 (by decide) rfl ?_
  refine r_aloadN X 0 d_G_meanWarmth_29 rfl ?_
  refine r_ifnullN X 48 d_G_meanWarmth_31 (by decide) ?_
  refine r_iinc X 1 [(5, .int 7), (6, .null), (4, .int 8), (3, .ref (ad 1)), (2, .int 0), (1, .int 0), (0, .ref (ad 0))] d_G_meanWarmth_48 rfl (by decide) (by decide) rfl ?_
  refine r_goto X 16 d_G_meanWarmth_51 (by decide) ?_
  refine r_iload X 0 d_G_meanWarmth_16 rfl ?_
  refine r_iload X 2 d_G_meanWarmth_18 rfl ?_
  refine r_icmp_ge X 54 d_G_meanWarmth_20 (by decide) (fun h9 => absurd h9 (by decide)) (fun _ => ?_)
  refine r_aload_n X 3 d_G_meanWarmth_23 rfl rfl ?_
  refine r_iload X 0 d_G_meanWarmth_24 rfl ?_
  refine r_aald (v := .null) X 2 (ct_lo (by decide)) rfl (by unfold vp_in; decide +kernel) (rRf_n (i := 7) (by decide) (Nat.not_lt_zero _)) d_G_meanWarmth_26 ?_
  refine r_astoreN X [(6, .null), (5, .int 7), (4, .int 8), (3, .ref (ad 1)), (2, .int 0), (1, .int 0), (0, .ref (ad 0))] d_G_meanWarmth_27 (by decide) rfl ?_
  refine r_aloadN X 0 d_G_meanWarmth_29 rfl ?_
  refine r_ifnullN X 48 d_G_meanWarmth_31 (by decide) ?_
  refine r_iinc X 1 [(5, .int 8), (6, .null), (4, .int 8), (3, .ref (ad 1)), (2, .int 0), (1, .int 0), (0, .ref (ad 0))] d_G_meanWarmth_48 rfl (by decide) (by decide) rfl ?_
  refine r_goto X 16 d_G_meanWarmth_51 (by decide) ?_
  refine r_iload X 0 d_G_meanWarmth_16 rfl ?_
  refine r_iload X 2 d_G_meanWarmth_18 rfl ?_
  refine r_icmp_ge X 54 d_G_meanWarmth_20 (by decide) (fun _ => ?_) (fun h9 => absurd h9 (by decide))
  refine r_iload_n X 4 d_G_meanWarmth_54 rfl rfl ?_
  refine r_if_ne X 62 d_G_meanWarmth_55 (by decide) (fun h9 => absurd h9 (by decide)) (fun _ => ?_)
  refine r_dconst0 X d_G_meanWarmth_58 ?_
  refine r_goto X 67 d_G_meanWarmth_59 (by decide) ?_
  exact r_dret (post := fun r _ _ => FP.dconst0 = r) X hr hlk d_G_meanWarmth_67 (by decide) (by decide) rfl
theorem in_6 : ∀ k : Nat, k < 7 → inF (nI k) 0 6 = 1 := by decide +kernel
theorem way00 : ∀ a : Nat, a < 7 → ∀ z : Nat, z < 7 → wayF S00 (nI a) (nI z) = (if nI a = nI z then (0 : Int32) else -1) := by decide +kernel
theorem sp00 : ∀ k : Nat, k < 21 → spF S00 0 k = 0 := by decide +kernel
set_option maxRecDepth 100000 in
set_option maxHeartbeats 4000000 in
/-- G_way -/
theorem c_G_way (l : Launch) (D : va_G) (cy : Nat → ClassId) (ad : Nat → Nat)  (a z : Nat) (ha : a ≤ 6) (hz : z ≤ 6) : rMi l D cls (TY cy) NW y_G_way (Cond.code y_G_way b_G_way 3 rt_G_way :: W0) { frames := 6, cells := 0, slots := 0, locals := 90 } [.ref (ad 0), .int (nI a), .int (nI z)] ad (cont cy ad S00 J00) (fun r _ _ => (if nI a = nI z then (0 : Int32) else -1) = r) := by
  intro sz
  refine r_of (own := R_G) rfl (by decide +kernel) (Nat.le_of_ble_eq_true rfl) ?_
  intro p e s m below meth cd hsz X hr hlk hN hin
  refine r_lv [0, 1, 2] [(0, .ref (ad 0)), (1, .int (nI a)), (2, .int (nI z))] rfl ?_
  refine r_iload_n X 1 d_G_way_0 rfl rfl ?_
  refine r_Si X W0_good hN (c_G_isNode l D cy ad (cont cy ad S00 J00) (nI a)) ys_G_isNode m_G_62 rfl rfl ⟨by decide, by decide⟩ (Nat.le_of_ble_eq_true rfl) ⟨by decide, by decide⟩ d_G_way_1 (fun r9 ad9 c9 hp9 => ?_)
  obtain ⟨rfl, rfl, rfl⟩ := hp9
  refine r_top (y := 1) (in_6 a (by omega)) ?_
  refine r_if_eq X 14 d_G_way_4 (by decide) (fun h9 => absurd h9 (by decide)) (fun _ => ?_)
  refine r_iload_n X 2 d_G_way_7 rfl rfl ?_
  refine r_Si X W0_good hN (c_G_isNode l D cy ad (cont cy ad S00 J00) (nI z)) ys_G_isNode m_G_62 rfl rfl ⟨by decide, by decide⟩ (Nat.le_of_ble_eq_true rfl) ⟨by decide, by decide⟩ d_G_way_8 (fun r9 ad9 c9 hp9 => ?_)
  obtain ⟨rfl, rfl, rfl⟩ := hp9
  refine r_top (y := 1) (in_6 z (by omega)) ?_
  refine r_if_ne X 24 d_G_way_11 (by decide) (fun _ => ?_) (fun h9 => absurd h9 (by decide))
  refine r_aload_n X 0 d_G_way_24 rfl rfl ?_
  refine r_iload_n X 1 d_G_way_25 rfl rfl ?_
  refine r_iload_n X 2 d_G_way_26 rfl rfl ?_
  refine r_Vi X W0_good hN (c_G_shortestWay l D cy ad S00 J00 wf_00 (nI a) (nI z)) yv_G_shortestWay m_G_242 (ct_lo (by decide)) k_G.2.1 rfl rfl rfl ⟨by decide, by decide⟩ (Nat.le_of_ble_eq_true rfl) ⟨by decide, by decide⟩ d_G_way_27 (fun r9 ad9 c9 hp9 => ?_)
  obtain ⟨rfl, rfl, W9, rfl⟩ := hp9
  refine r_top (y := (if nI a = nI z then (0 : Int32) else -1)) (way00 a (by omega) z (by omega)) ?_
  exact r_iret (post := fun r _ _ => (if nI a = nI z then (0 : Int32) else -1) = r) X hr hlk d_G_way_30 (by decide) (by decide) rfl
