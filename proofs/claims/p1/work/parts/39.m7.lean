theorem W0_hts {s : State} {a : Array Value} (h : ∀ w ∈ lw_tbl, w.before a s = true) : ∀ w ∈ W0, w.before a s = true := fun w hw => h w (List.mem_filter.mp hw).1
theorem known_D {s : State} {a : Array Value} (hts : ∀ w ∈ W0, w.before a s = true) : ∃ D : va_G, ∀ (k : Nat) (q : vw_C), cls[k]? = some q → u_Kn s q.1 q.2.1 q.2.2 (D.1 k) (D.2 k) := by
  have h : ∀ k : Nat, ∃ d : ClassId × (Nat → Nat), ∀ q : vw_C, cls[k]? = some q → u_Kn s q.1 q.2.1 q.2.2 d.1 d.2 := by
    intro k
    match k with
    | 0 =>
      obtain ⟨cC, iS, h⟩ := u_known hts k_Surf.1 (hts _ n_Surf)
      exact ⟨(cC, iS), fun q hq => by cases hq; exact h⟩
    | 1 =>
      obtain ⟨cC, iS, h⟩ := u_known hts k_Wea.1 (hts _ n_Wea)
      exact ⟨(cC, iS), fun q hq => by cases hq; exact h⟩
    | 2 =>
      obtain ⟨cC, iS, h⟩ := u_known hts k_Road.1 (hts _ n_Road)
      exact ⟨(cC, iS), fun q hq => by cases hq; exact h⟩
    | 3 =>
      obtain ⟨cC, iS, h⟩ := u_known hts k_Lor.1 (hts _ n_Lor)
      exact ⟨(cC, iS), fun q hq => by cases hq; exact h⟩
    | 4 =>
      obtain ⟨cC, iS, h⟩ := u_known hts k_Rows.1 (hts _ n_Rows)
      exact ⟨(cC, iS), fun q hq => by cases hq; exact h⟩
    | 5 =>
      obtain ⟨cC, iS, h⟩ := u_known hts k_Fc.1 (hts _ n_Fc)
      exact ⟨(cC, iS), fun q hq => by cases hq; exact h⟩
    | 6 =>
      obtain ⟨cC, iS, h⟩ := u_known hts k_Del.1 (hts _ n_Del)
      exact ⟨(cC, iS), fun q hq => by cases hq; exact h⟩
    | 7 =>
      obtain ⟨cC, iS, h⟩ := u_known hts k_G.1 (hts _ n_G)
      exact ⟨(cC, iS), fun q hq => by cases hq; exact h⟩
    | 8 =>
      obtain ⟨cC, iS, h⟩ := u_known hts k_MWea.1 (hts _ n_MWea)
      exact ⟨(cC, iS), fun q hq => by cases hq; exact h⟩
    | 9 =>
      obtain ⟨cC, iS, h⟩ := u_known hts k_MRoad.1 (hts _ n_MRoad)
      exact ⟨(cC, iS), fun q hq => by cases hq; exact h⟩
    | 10 =>
      obtain ⟨cC, iS, h⟩ := u_known hts k_MLor.1 (hts _ n_MLor)
      exact ⟨(cC, iS), fun q hq => by cases hq; exact h⟩
    | 11 =>
      obtain ⟨cC, iS, h⟩ := u_known hts k_M.1 (hts _ n_M)
      exact ⟨(cC, iS), fun q hq => by cases hq; exact h⟩
    | 12 =>
      obtain ⟨cC, iS, h⟩ := u_known hts k_AL.1 (hts _ n_AL)
      exact ⟨(cC, iS), fun q hq => by cases hq; exact h⟩
    | k + 13 => exact ⟨(0, fun _ => 0), fun q hq => by simp [cls] at hq⟩
  exact ⟨(fun k => (Classical.choose (h k)).1, fun k => (Classical.choose (h k)).2), fun k q hq => Classical.choose_spec (h k) q hq⟩
theorem arr_p {s : State} {a : Array Value} {ty : FieldType} (h : (Cond.arrayClass ty).before a s = true) : ∃ c : ClassId, ArrOfT s c ty ∧ s.vm.findClass ("[" ++ ty.toString) = some c := by
  obtain ⟨c, k, comp, h1, h2, h3⟩ := Cond.arrayClass_spec h
  exact ⟨c, fun N z => ⟨(fun k h => by cases h), k, h2, comp, h3⟩, h1⟩
theorem arr_o {s : State} {a : Array Value} {C : String} (h : (Cond.arrayOver (.object C)).before a s = true) : ∃ c : ClassId, ArrOfT s c (.object C) ∧ va_RA s c (.object C) := by
  obtain ⟨comp, c, k, h1, h2, h3, h4, h5⟩ := Cond.arrayOver_spec h
  exact ⟨c, fun N z => ⟨(fun k h => by cases h), k, h3, comp, h4⟩, k, comp, h3, h4, h1, h5⟩
theorem arr_a {s : State} {a : Array Value} {t : FieldType} (h : (Cond.arrayOver (.array t)).before a s = true) : ∃ c : ClassId, ArrOfT s c (.array t) ∧ va_RA s c (.array t) := by
  obtain ⟨comp, c, k, h1, h2, h3, h4, h5⟩ := Stand.arrayOver_specB h
  exact ⟨c, fun N z => ⟨(fun k h => by cases h), k, h3, comp, h4⟩, h5⟩
theorem start_N {s : State} {a : Array Value} (hts : ∀ w ∈ lw_tbl, w.before a s = true) : rN NW s := by
  refine ⟨by decide, fun w hw => ?_⟩
  have hm : ∀ w ∈ NW, w ∈ lw_tbl := by decide +kernel
  have h := hts w (hm w hw)
  have hk : ∀ w ∈ NW, rNk w = true := by decide
  have hk := hk w hw
  cases w <;> first | exact absurd (show (false = true) from hk) (by decide) | exact va_Nw.of rfl h | exact h
theorem known_cy {s : State} {a : Array Value} (hts : ∀ w ∈ lw_tbl, w.before a s = true) : ∃ cy : Nat → ClassId, ∀ (k : Nat) (q : ClassId × FieldType), (TY cy)[k]? = some q → ArrOfT s q.1 q.2 ∧ va_RA s q.1 q.2 := by
  have hW := W0_hts hts
  have hN := start_N hts
  obtain ⟨c0, h0⟩ := arr_p (hW _ a_int)
  obtain ⟨c1, h1⟩ := arr_p (hW _ a_boolean)
  obtain ⟨c2, h2⟩ := arr_o (hN.2 _ o_Road)
  obtain ⟨c3, h3⟩ := arr_o (hN.2 _ o_Lor)
  obtain ⟨c4, h4⟩ := arr_o (hN.2 _ o_Fc)
  obtain ⟨c5, h5⟩ := arr_o (hN.2 _ o_Del)
  obtain ⟨c6, h6⟩ := arr_a (hts _ ov_int)
  obtain ⟨c7, h7⟩ := arr_p (hW _ a_long)
  obtain ⟨c8, h8⟩ := arr_o (hts _ ov_obj)
  refine ⟨fun k => match k with | 0 => c0 | 1 => c1 | 2 => c2 | 3 => c3 | 4 => c4 | 5 => c5 | 6 => c6 | 7 => c7 | _ => c8, fun k q hq => ?_⟩
  match k, hq with
  | 0, hq => cases hq; exact h0
  | 1, hq => cases hq; exact h1
  | 2, hq => cases hq; exact h2
  | 3, hq => cases hq; exact h3
  | 4, hq => cases hq; exact h4
  | 5, hq => cases hq; exact h5
  | 6, hq => cases hq; exact h6
  | 7, hq => cases hq; exact h7
  | 8, hq => cases hq; exact h8
  | k + 9, hq => simp [TY] at hq
theorem start_E {s : State} {b : Nat} (hts : ∀ w ∈ lw_tbl, w.before #[Value.ref b] s = true) (hgv : (Jvm.Cond.and given_1 narrow_1).before #[Value.ref b] s = true) : ∃ t0 : Nat, rE t0 (fun q => s.heap.size ≤ q) s s.heap := by
  have hA : ∀ a : Nat, a < s.heap.size → ¬ (fun q : Nat => s.heap.size ≤ q) a := fun a h => Nat.not_le.mpr h
  have hf := flat_of_before _ hgv
  obtain ⟨t0, ht, hT⟩ := va_Tof (tm := .static R_AL "DEFAULTCAPACITY_EMPTY_ELEMENTDATA" "[Ljava/lang/Object;") (ty := .object "java/lang/Object") (N := 0) (f := fun _ => .null) (A := fun q => s.heap.size ≤ q) (by decide) (hf _ (by decide +kernel)) (va_eqt (hf _ (by decide +kernel))) (fun j hj => absurd hj (Nat.not_lt_zero j)) hA
  refine ⟨t0, fun w hw hk => ?_, fun q hq => ?_, fun q hq => ?_, va_Nc.of (hf _ (by decide +kernel)), vx_Zqof (hts _ (by decide +kernel)) (hts _ (by decide +kernel)) (hf _ (by decide +kernel)) hA, vx_Zqof (hts _ (by decide +kernel)) (hts _ (by decide +kernel)) (hf _ (by decide +kernel)) hA, va_Zof (hts _ (by decide +kernel)) (hts _ (by decide +kernel)) ht hA, hT⟩
  · have h := hts w hw
    cases w <;> first | exact va_any rfl h | exact word_at (State.WarmedH.refl s) (good_of_word hk) h | exact h
  · have h1 : ∀ q ∈ xStr, Cond.stringRef R_G q.1 q.2 ∈ lw_tbl := by decide +kernel
    have h2 : ∀ q ∈ xStr, Cond.exactly (.string R_G q.1) "java/lang/String" ∈ flatC (Jvm.Cond.and given_1 narrow_1) := by decide +kernel
    obtain ⟨a, c, cell, k, he, -⟩ := Cond.exactly_spec (hf _ (h2 q hq))
    exact ⟨a, vk_R.of (hts _ (h1 q hq)) he⟩
  · simp only [xFw, List.mem_cons, List.not_mem_nil, or_false] at hq
    rcases hq with rfl | rfl | rfl <;> exact va_Fw.of (hts _ (by decide +kernel)) (hts _ (by decide +kernel)) (hts _ (by decide +kernel)) (hts _ (by decide +kernel)) (hts _ (by decide +kernel))
theorem sh_up0 {e : va_E} : shC 64 (va_up (fun _ => none) 64 (some e)) = va_up (fun _ => none) 0 (some e) := by
  funext k
  unfold shC
  by_cases h0 : k = 0
  · subst h0
    rw [if_pos (by decide), va_up_self, va_up_self]
  · rw [va_up_ne _ _ h0]
    by_cases hk : k < 64
    · rw [if_pos hk, va_up_ne _ _ (by omega)]
    · rw [if_neg hk]
theorem hC_made {cy : Nat → ClassId} {ad a1 : Nat → Nat} {c : rC} : shC 64 (jnC 64 c (cont cy a1 S00 J00)) = cont cy (shA 64 (jnA 64 ad a1)) S00 J00 := by
  have e1 : shC 64 (jnC 64 c (cont cy a1 S00 J00)) = cont cy a1 S00 J00 := by
    funext k
    unfold shC
    by_cases hk : k < 64
    · rw [if_pos hk]
      unfold jnC
      rw [if_pos (by omega), show 64 + k - 64 = k by omega]
    · rw [if_neg hk, ct_hi (by omega)]
  rw [e1]
  refine (cont_ad (fun n hn => ?_)).symm
  have h9 : n < 16 ∨ n < 16 + 4 * 0 ∨ (48 ≤ n ∧ n < 48 + 2 * 0) := hn
  show jnA 64 ad a1 (64 + n) = a1 n
  unfold jnA
  rw [if_pos (by omega), show 64 + n - 64 = n by omega]
set_option maxRecDepth 100000 in
set_option maxHeartbeats 4000000 in
theorem law_5 {p : Program} {l : Launch} {e : Env} {s : State} {m : MethodId} {below : List Frame} {meth : Method} {cd : Code} {b : Nat} {xs : Nat → Int32} {D : va_G} {cy : Nat → ClassId} {t0 : Nat} (hst9 : l.stackTraces = false) (X : rX p s m #[Value.ref b] cd b_Law_law 9 R_Law W0 D cls (TY cy) (fun q => s.heap.size ≤ q)) (hr : meth.sig.returnType = ret) (hlk : meth.locks = false) (hN : rN NW s) (hE : rE t0 (fun q => s.heap.size ≤ q) s s.heap) (hX : va_X b 8 xs s s.heap) (hbl : b < s.heap.size) {ad : Nat → Nat} {c : rC} (hC : shC 64 c = cont cy (shA 64 ad) S00 J00) {f : Nat → Int64} (hO : c 0 = some (.inl (cy 7, 1, .inr (.inl f)))) {f1 f2 : Nat → Option Nat} (hm : mC t0 f1 f2 cy ad c) (x : Int32) : rW p l e room_1 s m #[Value.ref b] below meth cd 9 D cls (fun q => s.heap.size ≤ q) 1000 10000 (lw_Z below #[Value.ref b] s) ad c 40 [(4, .int 0), (3, .ref (ad 0)), (2, .ref (ad 128)), (1, .ref (ad 64)), (0, .ref b)] [.int x] := by
  by_cases hlo : x.toInt < 0 ∨ 20 < x.toInt
  · refine r_tableOut X 1603 d_Law_law_40 hlo (by decide) ?_
    refine r_lv [0, 4] [(4, .int 0), (0, .ref b)] rfl ?_
    exact law_next X hr hlk hX hbl (by decide) (by decide)
  · have h : x.toInt = 0 ∨ x.toInt = 1 ∨ x.toInt = 2 ∨ x.toInt = 3 ∨ x.toInt = 4 ∨ x.toInt = 5 ∨ x.toInt = 6 ∨ x.toInt = 7 ∨ x.toInt = 8 ∨ x.toInt = 9 ∨ x.toInt = 10 ∨ x.toInt = 11 ∨ x.toInt = 12 ∨ x.toInt = 13 ∨ x.toInt = 14 ∨ x.toInt = 15 ∨ x.toInt = 16 ∨ x.toInt = 17 ∨ x.toInt = 18 ∨ x.toInt = 19 ∨ x.toInt = 20 := by omega
    rcases h with h | h | h | h | h | h | h | h | h | h | h | h | h | h | h | h | h | h | h | h | h
    · exact r_tableIn X 140 d_Law_law_40 (by omega) (by omega) (off := 100) (by rw [h]; rfl) (by decide) (lc_road hst9 X hr hlk hN hE hX hbl hC hO hm)
    · exact r_tableIn X 288 d_Law_law_40 (by omega) (by omega) (off := 248) (by rw [h]; rfl) (by decide) (lc_air hst9 X hr hlk hN hE hX hbl hC hO hm)
    · exact r_tableIn X 372 d_Law_law_40 (by omega) (by omega) (off := 332) (by rw [h]; rfl) (by decide) (lc_fall hst9 X hr hlk hN hE hX hbl hC hO hm)
    · exact r_tableIn X 452 d_Law_law_40 (by omega) (by omega) (off := 412) (by rw [h]; rfl) (by decide) (lc_forecast hst9 X hr hlk hN hE hX hbl hC hO hm)
    · exact r_tableIn X 572 d_Law_law_40 (by omega) (by omega) (off := 532) (by rw [h]; rfl) (by decide) (lc_pass hst9 X hr hlk hN hE hX hbl hC hO hm)
    · exact r_tableIn X 628 d_Law_law_40 (by omega) (by omega) (off := 588) (by rw [h]; rfl) (by decide) (lc_lorry hst9 X hr hlk hN hE hX hbl hC hO hm)
    · exact r_tableIn X 700 d_Law_law_40 (by omega) (by omega) (off := 660) (by rw [h]; rfl) (by decide) (lc_rate hst9 X hr hlk hN hE hX hbl hC hO hm)
    · exact r_tableIn X 768 d_Law_law_40 (by omega) (by omega) (off := 728) (by rw [h]; rfl) (by decide) (lc_order hst9 X hr hlk hN hE hX hbl hC hO hm)
    · exact r_tableIn X 836 d_Law_law_40 (by omega) (by omega) (off := 796) (by rw [h]; rfl) (by decide) (lc_load hst9 X hr hlk hN hE hX hbl hC hO hm)
    · exact r_tableIn X 892 d_Law_law_40 (by omega) (by omega) (off := 852) (by rw [h]; rfl) (by decide) (lc_rest hst9 X hr hlk hN hE hX hbl hC hO hm)
    · exact r_tableIn X 948 d_Law_law_40 (by omega) (by omega) (off := 908) (by rw [h]; rfl) (by decide) (lc_deliver hst9 X hr hlk hN hE hX hbl hC hO hm)
    · exact r_tableIn X 1016 d_Law_law_40 (by omega) (by omega) (off := 976) (by rw [h]; rfl) (by decide) (lc_claim hst9 X hr hlk hN hE hX hbl hC hO hm)
    · exact r_tableIn X 1084 d_Law_law_40 (by omega) (by omega) (off := 1044) (by rw [h]; rfl) (by decide) (lc_ofRoad hst9 X hr hlk hN hE hX hbl hC hO hm)
    · exact r_tableIn X 1152 d_Law_law_40 (by omega) (by omega) (off := 1112) (by rw [h]; rfl) (by decide) (lc_ofLorry hst9 X hr hlk hN hE hX hbl hC hO hm)
    · exact r_tableIn X 1220 d_Law_law_40 (by omega) (by omega) (off := 1180) (by rw [h]; rfl) (by decide) (lc_many hst9 X hr hlk hN hE hX hbl hC hO hm)
    · exact r_tableIn X 1276 d_Law_law_40 (by omega) (by omega) (off := 1236) (by rw [h]; rfl) (by decide) (lc_way hst9 X hr hlk hN hE hX hbl hC hO hm)
    · exact r_tableIn X 1344 d_Law_law_40 (by omega) (by omega) (off := 1304) (by rw [h]; rfl) (by decide) (lc_meanWarmth hst9 X hr hlk hN hE hX hbl hC hO hm)
    · exact r_tableIn X 1385 d_Law_law_40 (by omega) (by omega) (off := 1345) (by rw [h]; rfl) (by decide) (lc_slipperyIn hst9 X hr hlk hN hE hX hbl hC hO hm)
    · exact r_tableIn X 1453 d_Law_law_40 (by omega) (by omega) (off := 1413) (by rw [h]; rfl) (by decide) (lc_saltFor hst9 X hr hlk hN hE hX hbl hC hO hm)
    · exact r_tableIn X 1521 d_Law_law_40 (by omega) (by omega) (off := 1481) (by rw [h]; rfl) (by decide) (lc_bestOrders hst9 X hr hlk hN hE hX hbl hC hO hm)
    · exact r_tableIn X 1589 d_Law_law_40 (by omega) (by omega) (off := 1549) (by rw [h]; rfl) (by decide) (lc_digest hst9 X hr hlk hN hE hX hbl hC hO hm)
set_option maxRecDepth 100000 in
set_option maxHeartbeats 4000000 in
theorem law_4 {p : Program} {l : Launch} {e : Env} {s : State} {m : MethodId} {below : List Frame} {meth : Method} {cd : Code} {b : Nat} {xs : Nat → Int32} {D : va_G} {cy : Nat → ClassId} {t0 : Nat} (hst9 : l.stackTraces = false) (X : rX p s m #[Value.ref b] cd b_Law_law 9 R_Law W0 D cls (TY cy) (fun q => s.heap.size ≤ q)) (hr : meth.sig.returnType = ret) (hlk : meth.locks = false) (hN : rN NW s) (hE : rE t0 (fun q => s.heap.size ≤ q) s s.heap) {L : Nat} (hL : L ≤ 8) (hX : va_X b L xs s s.heap) (hbl : b < s.heap.size) {ad : Nat → Nat} {c : rC} (hC : shC 64 c = cont cy (shA 64 ad) S00 J00) {f : Nat → Int64} (hO : c 0 = some (.inl (cy 7, 1, .inr (.inl f)))) {f1 f2 : Nat → Option Nat} (hm : mC t0 f1 f2 cy ad c) : rW p l e room_1 s m #[Value.ref b] below meth cd 9 D cls (fun q => s.heap.size ≤ q) 1000 10000 (lw_Z below #[Value.ref b] s) ad c 23 [(4, .int 0), (3, .ref (ad 0)), (2, .ref (ad 128)), (1, .ref (ad 64)), (0, .ref b)] [] := by
  rcases (by omega : L = 8 ∨ L = 0 ∨ L = 1 ∨ L = 2 ∨ L = 3 ∨ L = 4 ∨ L = 5 ∨ L = 6 ∨ L = 7) with rfl | rfl | rfl | rfl | rfl | rfl | rfl | rfl | rfl
  · refine r_iload X 0 d_Law_law_23 rfl ?_
    refine r_aload_n X 4 d_Law_law_25 rfl rfl ?_
    refine x_slen X hX hbl (Nat.not_le.mpr hbl) d_Law_law_26 ?_
    refine r_top (y := 8) rfl ?_
    refine r_bipush X 8 d_Law_law_27 (by decide) ?_
    refine r_isub X d_Law_law_29 ?_
    refine r_top (y := 0) (by decide) ?_
    refine r_icmp_gt X 1609 d_Law_law_30 (by decide) (fun h9 => absurd h9 (by decide)) (fun _ => ?_)
    refine r_aload_n X 4 d_Law_law_33 rfl rfl ?_
    refine r_iload X 0 d_Law_law_34 rfl ?_
    refine x_sld X hX hbl (Nat.not_le.mpr hbl) (v := xs 0) (by unfold vp_in; decide +kernel) (congrArg xs (by decide +kernel : (0 : Int32).toNatClampNeg = 0)) d_Law_law_36 ?_
    refine r_bipush X 31 d_Law_law_37 (by decide) ?_
    refine r_iand X d_Law_law_39 ?_
    exact law_5 hst9 X hr hlk hN hE hX hbl hC hO hm _
  · refine r_iload X 0 d_Law_law_23 rfl ?_
    refine r_aload_n X 4 d_Law_law_25 rfl rfl ?_
    refine x_slen X hX hbl (Nat.not_le.mpr hbl) d_Law_law_26 ?_
    refine r_top (y := 0) rfl ?_
    refine r_bipush X 8 d_Law_law_27 (by decide) ?_
    refine r_isub X d_Law_law_29 ?_
    refine r_top (y := (-8)) (by decide) ?_
    refine r_icmp_gt X 1609 d_Law_law_30 (by decide) (fun _ => ?_) (fun h9 => absurd h9 (by decide))
    exact law_exit X hr hlk (by decide) (by decide)
  · refine r_iload X 0 d_Law_law_23 rfl ?_
    refine r_aload_n X 4 d_Law_law_25 rfl rfl ?_
    refine x_slen X hX hbl (Nat.not_le.mpr hbl) d_Law_law_26 ?_
    refine r_top (y := 1) rfl ?_
    refine r_bipush X 8 d_Law_law_27 (by decide) ?_
    refine r_isub X d_Law_law_29 ?_
    refine r_top (y := (-7)) (by decide) ?_
    refine r_icmp_gt X 1609 d_Law_law_30 (by decide) (fun _ => ?_) (fun h9 => absurd h9 (by decide))
    exact law_exit X hr hlk (by decide) (by decide)
  · refine r_iload X 0 d_Law_law_23 rfl ?_
    refine r_aload_n X 4 d_Law_law_25 rfl rfl ?_
    refine x_slen X hX hbl (Nat.not_le.mpr hbl) d_Law_law_26 ?_
    refine r_top (y := 2) rfl ?_
    refine r_bipush X 8 d_Law_law_27 (by decide) ?_
    refine r_isub X d_Law_law_29 ?_
    refine r_top (y := (-6)) (by decide) ?_
    refine r_icmp_gt X 1609 d_Law_law_30 (by decide) (fun _ => ?_) (fun h9 => absurd h9 (by decide))
    exact law_exit X hr hlk (by decide) (by decide)
  · refine r_iload X 0 d_Law_law_23 rfl ?_
    refine r_aload_n X 4 d_Law_law_25 rfl rfl ?_
    refine x_slen X hX hbl (Nat.not_le.mpr hbl) d_Law_law_26 ?_
    refine r_top (y := 3) rfl ?_
    refine r_bipush X 8 d_Law_law_27 (by decide) ?_
    refine r_isub X d_Law_law_29 ?_
    refine r_top (y := (-5)) (by decide) ?_
    refine r_icmp_gt X 1609 d_Law_law_30 (by decide) (fun _ => ?_) (fun h9 => absurd h9 (by decide))
    exact law_exit X hr hlk (by decide) (by decide)
  · refine r_iload X 0 d_Law_law_23 rfl ?_
    refine r_aload_n X 4 d_Law_law_25 rfl rfl ?_
    refine x_slen X hX hbl (Nat.not_le.mpr hbl) d_Law_law_26 ?_
    refine r_top (y := 4) rfl ?_
    refine r_bipush X 8 d_Law_law_27 (by decide) ?_
    refine r_isub X d_Law_law_29 ?_
    refine r_top (y := (-4)) (by decide) ?_
    refine r_icmp_gt X 1609 d_Law_law_30 (by decide) (fun _ => ?_) (fun h9 => absurd h9 (by decide))
    exact law_exit X hr hlk (by decide) (by decide)
  · refine r_iload X 0 d_Law_law_23 rfl ?_
    refine r_aload_n X 4 d_Law_law_25 rfl rfl ?_
    refine x_slen X hX hbl (Nat.not_le.mpr hbl) d_Law_law_26 ?_
    refine r_top (y := 5) rfl ?_
    refine r_bipush X 8 d_Law_law_27 (by decide) ?_
    refine r_isub X d_Law_law_29 ?_
    refine r_top (y := (-3)) (by decide) ?_
    refine r_icmp_gt X 1609 d_Law_law_30 (by decide) (fun _ => ?_) (fun h9 => absurd h9 (by decide))
    exact law_exit X hr hlk (by decide) (by decide)
  · refine r_iload X 0 d_Law_law_23 rfl ?_
    refine r_aload_n X 4 d_Law_law_25 rfl rfl ?_
    refine x_slen X hX hbl (Nat.not_le.mpr hbl) d_Law_law_26 ?_
    refine r_top (y := 6) rfl ?_
    refine r_bipush X 8 d_Law_law_27 (by decide) ?_
    refine r_isub X d_Law_law_29 ?_
    refine r_top (y := (-2)) (by decide) ?_
    refine r_icmp_gt X 1609 d_Law_law_30 (by decide) (fun _ => ?_) (fun h9 => absurd h9 (by decide))
    exact law_exit X hr hlk (by decide) (by decide)
  · refine r_iload X 0 d_Law_law_23 rfl ?_
    refine r_aload_n X 4 d_Law_law_25 rfl rfl ?_
    refine x_slen X hX hbl (Nat.not_le.mpr hbl) d_Law_law_26 ?_
    refine r_top (y := 7) rfl ?_
    refine r_bipush X 8 d_Law_law_27 (by decide) ?_
    refine r_isub X d_Law_law_29 ?_
    refine r_top (y := (-1)) (by decide) ?_
    refine r_icmp_gt X 1609 d_Law_law_30 (by decide) (fun _ => ?_) (fun h9 => absurd h9 (by decide))
    exact law_exit X hr hlk (by decide) (by decide)
set_option maxRecDepth 100000 in
set_option maxHeartbeats 4000000 in
theorem law_3 {p : Program} {l : Launch} {e : Env} {s : State} {m : MethodId} {below : List Frame} {meth : Method} {cd : Code} {b : Nat} {xs : Nat → Int32} {D : va_G} {cy : Nat → ClassId} {t0 : Nat} (hst9 : l.stackTraces = false) (X : rX p s m #[Value.ref b] cd b_Law_law 9 R_Law W0 D cls (TY cy) (fun q => s.heap.size ≤ q)) (hr : meth.sig.returnType = ret) (hlk : meth.locks = false) (hN : rN NW s) (hE : rE t0 (fun q => s.heap.size ≤ q) s s.heap) {L : Nat} (hL : L ≤ 8) (hX : va_X b L xs s s.heap) (hbl : b < s.heap.size) {ad : Nat → Nat} {c : rC} (hC : shC 64 c = cont cy (shA 64 ad) S00 J00) (h0 : c 0 = none) {f1 f2 : Nat → Option Nat} (hm : mC t0 f1 f2 cy ad c) : rW p l e room_1 s m #[Value.ref b] below meth cd 9 D cls (fun q => s.heap.size ≤ q) 500 5000 (lw_Z below #[Value.ref b] s) ad c 15 [(1, .ref (ad 64)), (0, .ref b)] [.ref (ad 128)] := by
  refine r_astore_n X [(2, .ref (ad 128)), (1, .ref (ad 64)), (0, .ref b)] d_Law_law_15 rfl (by decide) rfl ?_
  refine r_iconst X 1 d_Law_law_16 (by decide) ?_
  refine x_newl (N := 1) X 7 rfl a_long (by decide) (by decide) (by decide) (Nat.le_of_ble_eq_true rfl) (Nat.le_of_ble_eq_true rfl) d_Law_law_17 0 h0 (fun a9 => [(2, .ref (a9 128)), (1, .ref (a9 64)), (0, .ref b)]) (fun _ => []) (fun a9 h9 => by rw [h9 128 (by decide), h9 64 (by decide)]) (fun _ _ => rfl) (fun a_1 ha_1 => ?_)
  refine r_astore_n X [(3, .ref (a_1 0)), (2, .ref (a_1 128)), (1, .ref (a_1 64)), (0, .ref b)] d_Law_law_19 rfl (by decide) rfl ?_
  refine r_iconst X 0 d_Law_law_20 (by decide) ?_
  refine r_istore X [(4, .int 0), (3, .ref (a_1 0)), (2, .ref (a_1 128)), (1, .ref (a_1 64)), (0, .ref b)] d_Law_law_21 (by decide) rfl ?_
  refine r_wide 1000 10000 (by decide) (by decide) ?_
  refine r_lv [0, 1, 2, 3, 4] [(4, .int 0), (3, .ref (a_1 0)), (2, .ref (a_1 128)), (1, .ref (a_1 64)), (0, .ref b)] rfl ?_
  exact law_4 hst9 X hr hlk hN hE hL hX hbl (hC_frame hC (fun n9 h1 h2 => va_up_ne _ _ (by omega)) (fun n9 h1 h2 => ha_1 n9 (by omega))) rup_self (mC_frame hm (fun n9 hn9 => ⟨ha_1 n9 (by omega), va_up_ne _ _ (by omega)⟩))
set_option maxRecDepth 100000 in
set_option maxHeartbeats 4000000 in
theorem law_2 {p : Program} {l : Launch} {e : Env} {s : State} {m : MethodId} {below : List Frame} {meth : Method} {cd : Code} {b : Nat} {xs : Nat → Int32} {D : va_G} {cy : Nat → ClassId} {t0 : Nat} (hst9 : l.stackTraces = false) (X : rX p s m #[Value.ref b] cd b_Law_law 9 R_Law W0 D cls (TY cy) (fun q => s.heap.size ≤ q)) (hr : meth.sig.returnType = ret) (hlk : meth.locks = false) (hN : rN NW s) (hE : rE t0 (fun q => s.heap.size ≤ q) s s.heap) {L : Nat} (hL : L ≤ 8) (hX : va_X b L xs s s.heap) (hbl : b < s.heap.size) {ad : Nat → Nat} {c : rC} (hC : shC 64 c = cont cy (shA 64 ad) S00 J00) (hz : ∀ k, k < 64 ∨ 128 ≤ k → c k = none) : rW p l e room_1 s m #[Value.ref b] below meth cd 9 D cls (fun q => s.heap.size ≤ q) 100 3000 (lw_Z below #[Value.ref b] s) ad c 7 [(0, .ref b)] [.ref (ad 64)] := by
  refine r_astore_n X [(1, .ref (ad 64)), (0, .ref b)] d_Law_law_7 rfl (by decide) rfl ?_
  refine r_new X k_M c_Law_80 n_M i_M (fs := [.int 0, .null, .null, .null, .null, .null, .int 0, .int 0, .int 0, .int 0, .int 0, .int 0, .int 0, .int 0, .int 0, .int 0]) (by intro j hj; obtain rfl | rfl | rfl | rfl | rfl | rfl | rfl | rfl | rfl | rfl | rfl | rfl | rfl | rfl | rfl | rfl : j = 0 ∨ j = 1 ∨ j = 2 ∨ j = 3 ∨ j = 4 ∨ j = 5 ∨ j = 6 ∨ j = 7 ∨ j = 8 ∨ j = 9 ∨ j = 10 ∨ j = 11 ∨ j = 12 ∨ j = 13 ∨ j = 14 ∨ j = 15 := (by omega); all_goals rfl) (Nat.le_of_ble_eq_true rfl) (Nat.le_of_ble_eq_true rfl) d_Law_law_8 128 (hz 128 (by decide)) (fun a9 => [(1, .ref (a9 64)), (0, .ref b)]) (fun a9 => []) (fun a9 h9 => by rw [h9 64 (by decide)]) (fun _ _ => rfl) (fun a_1 ha_1 => ?_)
  refine r_dup X d_Law_law_11 rfl ?_
  refine x_Iv X W0_good hN hE (As := []) (c_M_init l D cy t0 a_1 (va_up c 128 (some (.inr (11, [.int 0, .null, .null, .null, .null, .null, .int 0, .int 0, .int 0, .int 0, .int 0, .int 0, .int 0, .int 0, .int 0, .int 0])))) rup_self (fun k hk => rup_ne (by omega) (hz k (Or.inr (by omega))))) yi_M_init m_Law_82 rfl rfl ⟨by decide, by decide⟩ (Nat.le_of_ble_eq_true rfl) ⟨by decide, by decide⟩ d_Law_law_12 (fun ad9 c9 hp9 => ?_)
  obtain ⟨hg1, hg2, f1, f2, hm⟩ := hp9
  refine r_lv [0, 1] [(1, .ref (a_1 64)), (0, .ref b)] rfl ?_
  refine r_show c9 [(1, .ref (ad9 64)), (0, .ref b)] [.ref (ad9 128)] rfl (by rw [hg1 64 (by decide)]) (by rw [hg1 128 (by decide)]) ?_
  refine r_wide 500 5000 (by decide) (by decide) ?_
  exact law_3 hst9 X hr hlk hN hE hL hX hbl (hC_frame hC (fun n9 h1 h2 => (hg2 n9 h2).trans (va_up_ne _ _ (by omega))) (fun n9 h1 h2 => (hg1 n9 (by omega)).trans (ha_1 n9 (by omega)))) ((hg2 0 (by decide)).trans ((va_up_ne _ _ (by decide)).trans (hz 0 (Or.inl (by decide))))) hm
set_option maxRecDepth 100000 in
set_option maxHeartbeats 4000000 in
theorem law_1 {p : Program} {l : Launch} {e : Env} {s : State} {m : MethodId} {below : List Frame} {meth : Method} {cd : Code} {b : Nat} {xs : Nat → Int32} {D : va_G} {cy : Nat → ClassId} {t0 : Nat} (hst9 : l.stackTraces = false) (X : rX p s m #[Value.ref b] cd b_Law_law 9 R_Law W0 D cls (TY cy) (fun q => s.heap.size ≤ q)) (hr : meth.sig.returnType = ret) (hlk : meth.locks = false) (hN : rN NW s) (hE : rE t0 (fun q => s.heap.size ≤ q) s s.heap) {L : Nat} (hL : L ≤ 8) (hX : va_X b L xs s s.heap) (hbl : b < s.heap.size) {ad : Nat → Nat} : rW p l e room_1 s m #[Value.ref b] below meth cd 9 D cls (fun q => s.heap.size ≤ q) 0 0 (lw_Z below #[Value.ref b] s) ad (fun _ => none) 0 [(0, .ref b)] [] := by
  refine r_new X k_G c_Law_8 n_G i_G (fs := [.null, .null, .null, .null, .null, .null, .null, .null, .int 0, .int 0, .int 0, .int 0, .int 0, .int 0, .int 0, .int 0]) (by intro j hj; obtain rfl | rfl | rfl | rfl | rfl | rfl | rfl | rfl | rfl | rfl | rfl | rfl | rfl | rfl | rfl | rfl : j = 0 ∨ j = 1 ∨ j = 2 ∨ j = 3 ∨ j = 4 ∨ j = 5 ∨ j = 6 ∨ j = 7 ∨ j = 8 ∨ j = 9 ∨ j = 10 ∨ j = 11 ∨ j = 12 ∨ j = 13 ∨ j = 14 ∨ j = 15 := (by omega); all_goals rfl) (Nat.le_of_ble_eq_true rfl) (Nat.le_of_ble_eq_true rfl) d_Law_law_0 64 rfl (fun a9 => [(0, .ref b)]) (fun a9 => []) (fun _ _ => rfl) (fun _ _ => rfl) (fun a_1 ha_1 => ?_)
  refine r_dup X d_Law_law_3 rfl ?_
  refine r_Iv X W0_good hN (As := []) (sub_v 64 (by rw [sh_up0]; exact c_G_init l D cy (shA 64 a_1))) yi_G_init m_Law_79 rfl rfl ⟨by decide, by decide⟩ (Nat.le_of_ble_eq_true rfl) ⟨by decide, by decide⟩ d_Law_law_4 (fun ad9 c9 hp9 => ?_)
  obtain ⟨a1, c1, ⟨hg1, rfl⟩, rfl, rfl⟩ := hp9
  have h64 : jnA 64 a_1 a1 64 = a_1 64 := (if_pos (by decide)).trans (hg1 0 (Or.inl rfl))
  refine r_show _ [(0, .ref b)] [.ref (jnA 64 a_1 a1 64)] rfl rfl (by rw [h64]) ?_
  refine r_wide 100 3000 (by decide) (by decide) ?_
  exact law_2 hst9 X hr hlk hN hE hL hX hbl hC_made (fun k hk => (if_neg (by omega)).trans (va_up_ne _ _ (by omega)))
/-- from the entry, for every script of at most 8 ints, the law comes to its end with true -/
theorem whole_start {p : Program} {e : Env} {s : State} {m : MethodId} {below : List Frame} {meth : Method} {c : Code} (l : Launch) (hflags : l.flags = flags0) {b L : Nat} {xs : Nat → Int32} (hL : L ≤ 8) (C0 : lw_At p s m meth c b L xs) : W p l e room_1 s m #[Value.ref b] below meth c s.heap [] 0 0 (lw_Z below #[Value.ref b] s) (entryFrame m ([Value.ref b] : List Value).toArray 9) := by
  obtain ⟨hx, hb, hr, hml, hown, hts, hX, hbl, hlocks, hgv⟩ := id C0
  have hst9 : l.stackTraces = false := by
    unfold Launch.stackTraces
    rw [hflags]
    decide +kernel
  have hW := W0_hts hts
  obtain ⟨D, hD⟩ := known_D hW
  have hN := start_N hts
  obtain ⟨cy, hcy⟩ := known_cy hts
  obtain ⟨t0, hE⟩ := start_E hts hgv
  have X : rX p s m #[Value.ref b] c b_Law_law 9 R_Law W0 D cls (TY cy) (fun q => s.heap.size ≤ q) := ⟨hx, hb, hml, hown, hW, ⟨hD, hcy⟩, fun q h => h⟩
  have hl := lv_entry ([.ref b]) (n := 9) (Nat.le_of_ble_eq_true rfl)
  rw [lg_entry_eq]
  have K := law_1 (l := l) (p := p) (e := e) (below := below) hst9 X hr hlocks hN hE hL hX hbl (ad := fun _ => 0)
  exact K s.heap [] _ ⟨fun n x h => (by cases h), fun n k h => absurd rfl h⟩ va_S.rf hl
-- ===== YOUR PART ENDS =====
set_option maxHeartbeats 4000000 in
theorem lw_walk (l : Launch) (hflags : l.flags = flags0) (b : Addr) (xs : List Int32) : MetFree l x (headSpec (Jvm.Cond.code x code maxLocals ret :: tables_1) room_1) (lw_P b xs) (fun _ _ _ _ _ => True) lw_Q := by
  refine MetFree.of_bodyS (code := code) (maxLocals := maxLocals) (ret := ret) (by decide) ?_ ?_
  · intro args s m h hn
    obtain ⟨meth, c, h1, h2, h3, h4, h5, h6, -, -⟩ := Cond.code_spec hn (atoms_spec (ws := Jvm.Cond.code x code maxLocals ret :: tables_1) h _ List.mem_cons_self)
    exact ⟨meth, c, h1, h2, h3, h4, h5, h6⟩
  · intro p e s m args below meth c s₁ B hml0 hP _
    obtain ⟨rfl, hx, hbd, hgv⟩ := hP
    obtain ⟨scr, harrAt, hlist, hof, hsmall⟩ := hx
    obtain ⟨hcb, hkn, -, -⟩ := State.arrayAt?_spec harrAt
    have hown : s.vm.findClass R_law = some m.cls := findClass_of_methodNamed B.named
    have hts0 : ∀ c ∈ (Jvm.Cond.code x code maxLocals ret :: tables_1), c.before #[Value.ref b] s = true := atoms_spec (ws := Jvm.Cond.code x code maxLocals ret :: tables_1) B.pre
    have hts : ∀ w ∈ lw_tbl, w.before #[Value.ref b] s = true := k2_hts_sels lw_privs (fun w hw => hts0 w (List.mem_cons_of_mem _ hw)) lw_privs_ok
    have hml : c.maxLocals = 9 := B.maxLocals_eq (hts0 _ List.mem_cons_self)
    have X₀ : Stand p l e room_1 s m #[Value.ref b] below meth c s₁ [] 0 0 := Stand.of_body B
    have hh0 : s₁.heap = s.heap := by rw [B.state]; rfl
    have hsz : scr.slots.size = xs.length := by rw [← Array.length_toList, hlist, List.length_map]
    have hval : ∀ j : Nat, j < xs.length → scr.slots[j]? = some (.int (xs.getD j 0)) := fun j hj => by
      rw [← Array.getElem?_toList, hlist]
      simp [hj]
    have hbl : b < s.heap.size := (Array.getElem?_eq_some_iff.mp hcb).1
    have hX : va_X b xs.length (fun j => xs.getD j 0) s s.heap := ⟨scr, hcb, hof, hkn, hsz, hval⟩
    have K : W p l e room_1 s m #[Value.ref b] below meth c s₁.heap [] 0 0 (lw_Z below #[Value.ref b] s) (entryFrame m ([Value.ref b] : List Value).toArray 9) := by
      rw [hh0]
      exact whole_start l hflags hbd ⟨B.exec, B.bytes, B.returns, hml, hown, hts, hX, hbl, B.notSynchronized, hgv⟩
    obtain ⟨t, a1, o, b1, b2, b3⟩ := K s₁ rfl X₀
    exact ⟨t, o, a1, b1, b2, b3⟩
theorem lw_pre_spec {args : Array Value} {s : State} (h : (Jvm.Cond.and given_1 narrow_1).before args s = true) (hr : rest_1_c.before args s = true) : ∃ (b : Addr) (xs : List Int32), lw_P b xs args s := by
  have hs := flat_of_before _ h
  have hq := flat_of_before _ hr
  have hc : (Cond.count 1).before args s = true := hs _ (by decide +kernel)
  have harr : (Cond.arrayOf (.arg 0) .int).before args s = true := hs _ (by decide +kernel)
  have hle : (Cond.le (.length (.arg 0)) (.int 8)).before args s = true := hs _ (by decide +kernel)
  have hlen : (Cond.isInt (.length (.arg 0))).before args s = true := hq _ (by decide +kernel)
  have hall : (Cond.all (.arg 0) (.isInt (.elem (.arg 0) (.index 0)))).before args s = true := hq _ (by decide +kernel)
  obtain ⟨b, xs, hb, hx⟩ := State.ints_of_pre rfl harr hlen hall
  have hsm : xs.length < 2 ^ 31 := hx.choose_spec.2.2.2
  have hev : (Term.length (.arg 0)).eval args s none [] s = some (.int xs.length.toInt32) := hx.length_eval hb
  have hv := Cond.le_ints hev (show (Term.int 8).eval args s none [] s = some (.int 8) from rfl)
  have hd : xs.length.toInt32 ≤ 8 := by
    simpa [Cond.before, Cond.holds, hv] using hle
  have hN : xs.length ≤ 8 := (Int32.ofNat_le_ofNat hsm (by decide)).mp (show Int32.ofNat xs.length ≤ Int32.ofNat 8 from hd)
  exact ⟨b, xs, Cond.one_arg hc (show args[0]? = some (.ref b) from hb), hx, hN, h⟩
theorem lw_comes (l : Launch) (hflags : l.flags = flags0) : Comes l x (Jvm.Cond.code x code maxLocals ret :: tables_1) room_1 (fun tb e args s => Calls_1 tb e args s ∧ rest_1 tb e args s ∧ Pre_1 tb e args s)
    (fun _ _ args s o t => lw_Q args s o t) := by
  intro p e ha hc hk s m args below hf hfit hheap happ hpre
  obtain ⟨b, xs, hP⟩ := lw_pre_spec hpre.2.2 hpre.2.1
  obtain ⟨k, o, h1, h2, h3, hQ⟩ := lw_walk l hflags b xs p e ha hc hk s m args below hf ((Spec.applies_iff_loose hf).mp happ).1 hP trivial
  exact ⟨k, o, h1, h2, h3, hQ⟩
theorem lw_frame {s t : State} {o : Outcome} {args : Array Value} (h : State.butDraws s t lw_cs (fun t1 => Framed s o t1 [] 600002 7302232)) :
    State.butDraws s t [Jvm.Choice.named "NaN.bits"] (fun t1 => Framed s o t1 (fieldLocs frame_1_writes args s ++ arrayLocs frame_1_arrays args s ++ staticLocs frame_1_statics s) 600002 7302232) := h
theorem lw_limb (L : Cond) (hL : ∀ (args : Array Value) (s t : State), L.after args s (.returned (some (.int 1))) t = true) :
    ArmFor flags0 classFile x code maxLocals ret World_1 tables_1 room_1 Calls_1 rest_1 Pre_1
      (fun tb e a s o t => postC L tb e a s o t ∧ State.butDraws s t [Jvm.Choice.named "NaN.bits"] (fun t1 => Framed s o t1 (fieldLocs frame_1_writes a s ++ arrayLocs frame_1_arrays a s ++ staticLocs frame_1_statics s) 600002 7302232)) := by
  intro l hflags _ _ p e ha hc hk s m args below hf hfit hheap happ hpre
  obtain ⟨k, o, h1, h2, h3, rfl, hF⟩ := lw_comes l hflags p e ha hc hk s m args below hf hfit hheap happ hpre
  exact ⟨k, _, h1, h2, h3, hL args s _, lw_frame hF⟩
theorem i_vc : Claimed_1_1 ∧ Claimed_1_2 := ⟨lw_limb limb_1_1 (fun args s t => by simp [limb_1_1, Cond.after, Cond.holds, Cond.value]), lw_limb limb_1_2 (fun args s t => Cond.after_iff.mpr (by
  first | (rw [show limb_1_2 = Cond.eq .result (.int 1) from rfl, Cond.eq_ints (x := 1) (y := 1) rfl rfl]; simp; done) | (simp [limb_1_2, Cond.value, Term.eval]; done)))⟩
