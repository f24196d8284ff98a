/-! THE CLAIM OUT OF ONE WALK OF THE LAW'S BODY. Your part is whole_start (and what it stands on); all else here is the same for every law, but numbers. -/
def R_law : String := "GritWatchLaw"
def lw_P (b : Addr) (xs : List Int32) (args : Array Value) (s : State) : Prop := args = #[.ref b] ∧ s.IntsAt b xs ∧ xs.length ≤ 260 ∧ (Jvm.Cond.and given_1 narrow_1).before args s = true
def lw_Q (_ : Array Value) (s : State) (o : Outcome) (t : State) : Prop := o = .returned (some (.int 1)) ∧ Framed s o t [] 600064 7301640
def lw_Z (below : List Frame) (a : Array Value) (s : State) : State → Prop := fun t => ∃ o, t.status = .running ∧ Ended t below o ∧ lw_Q a s o t
/-- the law's own end, with 1 on the stack, nothing written that was there before, its room as the claim has it -/
theorem lw_ret {p : Program} {l : Launch} {e : Env} {s : State} {m : MethodId} {below : List Frame} {meth : Method} {c : Code} {b : Nat} (hx : p.tables.exec = Jvm.exec) (hb : c.code = code) (hr : meth.sig.returnType = ret) (hlocks : meth.locks = false) {pc : Nat} {H : Heap} {ls : Array Slot} (hdg : decode code pc = .ok (.ireturn, 1)) : W p l e room_1 s m #[Value.ref b] below meth c H [] 600064 7301640 (lw_Z below #[Value.ref b] s) (F0 m pc ls [.int 1]) := by
  intro T hT X
  obtain ⟨fs, hret, hrun, hended, hW, hframe⟩ := X.leave (v := some (.int 1)) (hlocks := hlocks) (fun h => by rw [hr] at h; cases h)
  have hmeth' : T.vm.method? m = some meth := X.method'
  refine ⟨T.setFrames fs, ?_, .returned (some (.int 1)), hrun, hended, rfl, ⟨_, rfl⟩, hW, hframe⟩
  jvm_step X.here [X.here.top, hx, hb, hdg, hmeth', hr, ret, narrow_b1]
  (try refine ⟨rfl, ?_⟩); (try refine ⟨rfl, ?_⟩)
  first | (intro acts; rw [hret _ acts rfl rfl rfl]) | rw [hret _ _ rfl rfl rfl]
  exact Steps.refl _
/-- what holds at the law's entry: the machine, the code, the tables' words (any of lw_tbl by 'hts w (by decide +kernel)'), the script of L ints xs at the cell b, what the Statement gives of the start (any of its parts by flat_of_before) -/
def lw_At (p : Program) (s : State) (m : MethodId) (meth : Method) (c : Code) (b L : Nat) (xs : Nat → Int32) : Prop :=
  p.tables.exec = Jvm.exec ∧ c.code = code ∧ meth.sig.returnType = ret ∧ c.maxLocals = 20 ∧ s.vm.findClass R_law = some m.cls ∧ (∀ w ∈ lw_tbl, w.before #[Value.ref b] s = true) ∧ va_X b L xs s s.heap ∧ b < s.heap.size ∧ meth.locks = false ∧ (Jvm.Cond.and given_1 narrow_1).before #[Value.ref b] s = true
theorem W0_hts {s : State} {a : Array Value} (h : ∀ w ∈ lw_tbl, w.before a s = true) : ∀ w ∈ W0, w.before a s = true := fun w hw => h w (List.mem_filter.mp hw).1
theorem known_D {s : State} {a : Array Value} (hts : ∀ w ∈ W0, w.before a s = true) : ∃ D : va_G, ∀ (k : Nat) (q : vw_C), cls[k]? = some q → u_Kn s q.1 q.2.1 q.2.2 (D.1 k) (D.2 k) := by
  have h : ∀ k : Nat, ∃ d : ClassId × (Nat → Nat), ∀ q : vw_C, cls[k]? = some q → u_Kn s q.1 q.2.1 q.2.2 d.1 d.2 := by
    intro k
    match k with
    | 0 =>
      obtain ⟨cC, iS, h⟩ := u_known hts k_Surf.1 (hts _ n_Surf)
      exact ⟨(cC, iS), fun q hq => by cases hq; exact h⟩
    | 1 =>
      obtain ⟨cC, iS, h⟩ := u_known hts k_Wea.1 (hts _ n_Wea)
      exact ⟨(cC, iS), fun q hq => by cases hq; exact h⟩
    | 2 =>
      obtain ⟨cC, iS, h⟩ := u_known hts k_Road.1 (hts _ n_Road)
      exact ⟨(cC, iS), fun q hq => by cases hq; exact h⟩
    | 3 =>
      obtain ⟨cC, iS, h⟩ := u_known hts k_Lor.1 (hts _ n_Lor)
      exact ⟨(cC, iS), fun q hq => by cases hq; exact h⟩
    | 4 =>
      obtain ⟨cC, iS, h⟩ := u_known hts k_Rows.1 (hts _ n_Rows)
      exact ⟨(cC, iS), fun q hq => by cases hq; exact h⟩
    | 5 =>
      obtain ⟨cC, iS, h⟩ := u_known hts k_G.1 (hts _ n_G)
      exact ⟨(cC, iS), fun q hq => by cases hq; exact h⟩
    | 6 =>
      obtain ⟨cC, iS, h⟩ := u_known hts k_Told.1 (hts _ n_Told)
      exact ⟨(cC, iS), fun q hq => by cases hq; exact h⟩
    | k + 7 => exact ⟨(0, fun _ => 0), fun q hq => by simp [cls] at hq⟩
  exact ⟨(fun k => (Classical.choose (h k)).1, fun k => (Classical.choose (h k)).2), fun k q hq => Classical.choose_spec (h k) q hq⟩
theorem arr_p {s : State} {a : Array Value} {ty : FieldType} (h : (Cond.arrayClass ty).before a s = true) : ∃ c : ClassId, ArrOfT s c ty ∧ s.vm.findClass ("[" ++ ty.toString) = some c := by
  obtain ⟨c, k, comp, h1, h2, h3⟩ := Cond.arrayClass_spec h
  exact ⟨c, fun N z => ⟨(fun k h => by cases h), k, h2, comp, h3⟩, h1⟩
theorem arr_o {s : State} {a : Array Value} {C : String} (h : (Cond.arrayOver (.object C)).before a s = true) : ∃ c : ClassId, ArrOfT s c (.object C) ∧ va_RA s c (.object C) := by
  obtain ⟨comp, c, k, h1, h2, h3, h4, h5⟩ := Cond.arrayOver_spec h
  exact ⟨c, fun N z => ⟨(fun k h => by cases h), k, h3, comp, h4⟩, k, comp, h3, h4, h1, h5⟩
theorem arr_a {s : State} {a : Array Value} {t : FieldType} (h : (Cond.arrayOver (.array t)).before a s = true) : ∃ c : ClassId, ArrOfT s c (.array t) ∧ va_RA s c (.array t) := by
  obtain ⟨comp, c, k, h1, h2, h3, h4, h5⟩ := Stand.arrayOver_specB h
  exact ⟨c, fun N z => ⟨(fun k h => by cases h), k, h3, comp, h4⟩, h5⟩
theorem start_A {s : State} {a : Array Value} (hts : ∀ w ∈ lw_tbl, w.before a s = true) : ∀ w ∈ rAW, w.before #[] s = true := by
  have hm : ∀ w ∈ rAW, w ∈ lw_tbl := by decide +kernel
  intro w hw
  have h := hts w (hm w hw)
  simp only [rAW, List.mem_cons, List.not_mem_nil, or_false] at hw
  rcases hw with rfl | rfl <;> exact h
theorem start_N {s : State} {a : Array Value} (hts : ∀ w ∈ lw_tbl, w.before a s = true) : rN NW s := by
  refine ⟨⟨by decide, start_A hts⟩, fun w hw => ?_⟩
  have hm : ∀ w ∈ NW, w ∈ lw_tbl := by decide +kernel
  have h := hts w (hm w hw)
  have hk : ∀ w ∈ NW, rNk w = true := by decide
  have hk := hk w hw
  cases w <;> first | exact absurd (show (false = true) from hk) (by decide) | exact va_Nw.of rfl h | exact h
theorem known_cy {s : State} {a : Array Value} (hts : ∀ w ∈ lw_tbl, w.before a s = true) : ∃ cy : Nat → ClassId, ∀ (k : Nat) (q : ClassId × FieldType), (TY cy)[k]? = some q → ArrOfT s q.1 q.2 ∧ va_RA s q.1 q.2 := by
  have hW := W0_hts hts
  have hN := start_N hts
  obtain ⟨c0, h0⟩ := arr_p (hW _ a_int)
  obtain ⟨c1, h1⟩ := arr_p (hW _ a_boolean)
  obtain ⟨c2, h2⟩ := arr_o (hN.2 _ o_Road)
  obtain ⟨c3, h3⟩ := arr_o (hN.2 _ o_Lor)
  obtain ⟨c4, h4⟩ := arr_o (hN.2 _ o_Fc)
  obtain ⟨c5, h5⟩ := arr_o (hN.2 _ o_Del)
  obtain ⟨c6, h6⟩ := arr_a (hN.1.2 _ List.mem_cons_self)
  obtain ⟨c7, h7⟩ := arr_a (hN.1.2 _ (List.mem_cons_of_mem _ List.mem_cons_self))
  refine ⟨fun k => match k with | 0 => c0 | 1 => c1 | 2 => c2 | 3 => c3 | 4 => c4 | 5 => c5 | 6 => c6 | _ => c7, fun k q hq => ?_⟩
  match k, hq with
  | 0, hq => cases hq; exact h0
  | 1, hq => cases hq; exact h1
  | 2, hq => cases hq; exact h2
  | 3, hq => cases hq; exact h3
  | 4, hq => cases hq; exact h4
  | 5, hq => cases hq; exact h5
  | 6, hq => cases hq; exact h6
  | 7, hq => cases hq; exact h7
  | k + 8, hq => simp [TY] at hq
theorem law_exit {p : Program} {l : Launch} {e : Env} {s : State} {m : MethodId} {below : List Frame} {meth : Method} {cd : Code} {b9 L9 : Nat} {xs9 : Nat → Int32} {D : va_G} {cy : Nat → ClassId} (X : rX p s m #[Value.ref b9] cd b_Law_law 20 R_Law W0 D cls (TY cy) (fun q => s.heap.size ≤ q)) (hN : rN NW s) (hE : rE b9 L9 xs9 (fun q => s.heap.size ≤ q) s s.heap) (hL9 : L9 < 2 ^ 31) (hr : meth.sig.returnType = ret) (hlk : meth.locks = false) {cells slots : Nat} (hc : cells ≤ 600064) (hs : slots ≤ 7301640) {ad : Nat → Nat} {c : rC} {lv : List (Nat × Value)} : rW p l e room_1 s m #[Value.ref b9] below meth cd 20 D cls (fun q => s.heap.size ≤ q) cells slots (lw_Z below #[Value.ref b9] s) ad c 424 lv [] := by
  refine r_iconst X 1 d_Law_law_424 (by decide) ?_
  intro H locs ls hP hS hl
  refine va_forget (fun q hq => hS.2.2 q hq) ?_
  refine W.widen hc hs ?_
  exact lw_ret X.1 X.2.1 hr hlk d_Law_law_425
set_option maxRecDepth 100000 in
set_option maxHeartbeats 4000000 in
theorem law_t3 {p : Program} {l : Launch} {e : Env} {s : State} {m : MethodId} {below : List Frame} {meth : Method} {cd : Code} {b9 L9 : Nat} {xs9 : Nat → Int32} {D : va_G} {cy : Nat → ClassId} (X : rX p s m #[Value.ref b9] cd b_Law_law 20 R_Law W0 D cls (TY cy) (fun q => s.heap.size ≤ q)) (hN : rN NW s) (hE : rE b9 L9 xs9 (fun q => s.heap.size ≤ q) s s.heap) (hL9 : L9 < 2 ^ 31) (hr : meth.sig.returnType = ret) (hlk : meth.locks = false) {ad : Nat → Nat} {c : rC} : rW p l e room_1 s m #[Value.ref b9] below meth cd 20 D cls (fun q => s.heap.size ≤ q) 600 60000 (lw_Z below #[Value.ref b9] s) ad c 2 [(1, .int 3), (0, .ref b9)] [] := by
  refine r_drop ad (fun _ => none) (fun n9 x9 h9 => by cases h9) ?_
  refine r_iload_n X 0 d_Law_law_2 rfl rfl ?_
  refine r_iconst X 3 d_Law_law_3 (by decide) ?_
  refine r_icmp_ge X 424 d_Law_law_4 (by decide) (fun _ => ?_) (fun h9 => absurd h9 (by decide))
  exact law_exit X hN hE hL9 hr hlk (by decide) (by decide)
set_option maxRecDepth 100000 in
set_option maxHeartbeats 4000000 in
theorem law_t2 {p : Program} {l : Launch} {e : Env} {s : State} {m : MethodId} {below : List Frame} {meth : Method} {cd : Code} {b9 L9 : Nat} {xs9 : Nat → Int32} {D : va_G} {cy : Nat → ClassId} (X : rX p s m #[Value.ref b9] cd b_Law_law 20 R_Law W0 D cls (TY cy) (fun q => s.heap.size ≤ q)) (hN : rN NW s) (hE : rE b9 L9 xs9 (fun q => s.heap.size ≤ q) s s.heap) (hL9 : L9 < 2 ^ 31) (hr : meth.sig.returnType = ret) (hlk : meth.locks = false) {ad : Nat → Nat} {c : rC} : rW p l e room_1 s m #[Value.ref b9] below meth cd 20 D cls (fun q => s.heap.size ≤ q) 400 40000 (lw_Z below #[Value.ref b9] s) ad c 2 [(1, .int 2), (0, .ref b9)] [] := by
  refine r_drop ad (fun _ => none) (fun n9 x9 h9 => by cases h9) ?_
  refine r_iload_n X 0 d_Law_law_2 rfl rfl ?_
  refine r_iconst X 3 d_Law_law_3 (by decide) ?_
  refine r_icmp_ge X 424 d_Law_law_4 (by decide) (fun h9 => absurd h9 (by decide)) (fun _ => ?_)
  refine r_new X k_Told c_Law_9 n_Told i_Told (fs := [.null, .null, .int 0, .null, .null, .null, .null, .null, .int 0, .int 0, .int 0, .int 0, .int 0, .int 0, .int 0, .int 0, .int 0, .int 0, .int 0, .int 0, .int 0]) (by intro j hj; obtain rfl | rfl | rfl | rfl | rfl | rfl | rfl | rfl | rfl | rfl | rfl | rfl | rfl | rfl | rfl | rfl | rfl | rfl | rfl | rfl | rfl : j = 0 ∨ j = 1 ∨ j = 2 ∨ j = 3 ∨ j = 4 ∨ j = 5 ∨ j = 6 ∨ j = 7 ∨ j = 8 ∨ j = 9 ∨ j = 10 ∨ j = 11 ∨ j = 12 ∨ j = 13 ∨ j = 14 ∨ j = 15 ∨ j = 16 ∨ j = 17 ∨ j = 18 ∨ j = 19 ∨ j = 20 := (by omega); all_goals rfl) (Nat.le_of_ble_eq_true rfl) (Nat.le_of_ble_eq_true rfl) d_Law_law_7 128 rfl (fun a9 => [(1, .int 2), (0, .ref b9)]) (fun a9 => []) (fun _ _ => rfl) (fun _ _ => rfl) (fun a_1 ha_1 => ?_)
  refine r_dup X d_Law_law_10 rfl ?_
  refine r_aload_n X 1 d_Law_law_11 rfl rfl ?_
  refine r_bipush X 31 d_Law_law_12 (by decide) ?_
  refine r_iload_n X 0 d_Law_law_14 rfl rfl ?_
  refine r_imul X d_Law_law_15 ?_
  refine r_top (y := 62) (by decide) ?_
  refine r_bipush X 7 d_Law_law_16 (by decide) ?_
  refine r_iadd X d_Law_law_18 ?_
  refine r_top (y := 69) (by decide) ?_
  refine r_top (y := nI 69) (by decide) ?_
  refine r_Iv X W0_good hN (As := [.ref b9, .int (nI 69)]) (tb_v 128 (S' := S00) (by decide) (by decide) (d' := nI 69) (c_Told_init l D cy b9 (s2A 128 a_1) (s2C 128 (va_up (fun _ => none : rC) 128 (some (.inr (6, [.null, .null, .int 0, .null, .null, .null, .null, .null, .int 0, .int 0, .int 0, .int 0, .int 0, .int 0, .int 0, .int 0, .int 0, .int 0, .int 0, .int 0, .int 0]))))) (nI 69) ((if_pos (by decide)).trans rup_self) (fun k k1 k2 => (if_pos k2).trans ((va_up_ne _ _ (by omega)).trans rfl)))) yi_Told_init m_Law_11 rfl rfl ⟨by decide, by decide⟩ (Nat.le_of_ble_eq_true rfl) ⟨by decide, by decide⟩ d_Law_law_19 (fun ad9 c9 hp9 => ?_)
  obtain ⟨had0, hf0, hT0⟩ := hp9
  have hz1 : ∀ k, (k < 128 ∨ 256 ≤ k) → c9 k = none := fun k hk => ((hf0 k hk).2).trans (va_up_ne _ _ (by omega))
  refine r_show c9 [(1, .int 2), (0, .ref b9)] [.ref (ad9 128)] rfl rfl (by rw [had0]) ?_
  refine r_astore_n X [(2, .ref (ad9 128)), (1, .int 2), (0, .ref b9)] d_Law_law_22 rfl (by decide) rfl ?_
  refine r_new X k_Told c_Law_9 n_Told i_Told (fs := [.null, .null, .int 0, .null, .null, .null, .null, .null, .int 0, .int 0, .int 0, .int 0, .int 0, .int 0, .int 0, .int 0, .int 0, .int 0, .int 0, .int 0, .int 0]) (by intro j hj; obtain rfl | rfl | rfl | rfl | rfl | rfl | rfl | rfl | rfl | rfl | rfl | rfl | rfl | rfl | rfl | rfl | rfl | rfl | rfl | rfl | rfl : j = 0 ∨ j = 1 ∨ j = 2 ∨ j = 3 ∨ j = 4 ∨ j = 5 ∨ j = 6 ∨ j = 7 ∨ j = 8 ∨ j = 9 ∨ j = 10 ∨ j = 11 ∨ j = 12 ∨ j = 13 ∨ j = 14 ∨ j = 15 ∨ j = 16 ∨ j = 17 ∨ j = 18 ∨ j = 19 ∨ j = 20 := (by omega); all_goals rfl) (Nat.le_of_ble_eq_true rfl) (Nat.le_of_ble_eq_true rfl) d_Law_law_23 256 (hz1 256 (Or.inr (by decide))) (fun a9 => [(2, .ref (a9 128)), (1, .int 2), (0, .ref b9)]) (fun a9 => []) (fun a9 h9 => by rw [h9 128 (by decide)]) (fun _ _ => rfl) (fun a_2 ha_2 => ?_)
  refine r_dup X d_Law_law_26 rfl ?_
  refine r_aload_n X 2 d_Law_law_27 rfl rfl ?_
  refine r_bipush X 31 d_Law_law_28 (by decide) ?_
  refine r_iload_n X 1 d_Law_law_30 rfl rfl ?_
  refine r_imul X d_Law_law_31 ?_
  refine r_top (y := 62) (by decide) ?_
  refine r_bipush X 7 d_Law_law_32 (by decide) ?_
  refine r_iadd X d_Law_law_34 ?_
  refine r_top (y := 69) (by decide) ?_
  refine r_top (y := nI 69) (by decide) ?_
  refine r_Iv X W0_good hN (As := [.ref b9, .int (nI 69)]) (tb_v 256 (S' := S00) (by decide) (by decide) (d' := nI 69) (c_Told_init l D cy b9 (s2A 256 a_2) (s2C 256 (va_up c9 256 (some (.inr (6, [.null, .null, .int 0, .null, .null, .null, .null, .null, .int 0, .int 0, .int 0, .int 0, .int 0, .int 0, .int 0, .int 0, .int 0, .int 0, .int 0, .int 0, .int 0]))))) (nI 69) ((if_pos (by decide)).trans rup_self) (fun k k1 k2 => (if_pos k2).trans ((va_up_ne _ _ (by omega)).trans (hz1 _ (Or.inr (by omega))))))) yi_Told_init m_Law_11 rfl rfl ⟨by decide, by decide⟩ (Nat.le_of_ble_eq_true rfl) ⟨by decide, by decide⟩ d_Law_law_35 (fun ad8 c8 hp9 => ?_)
  obtain ⟨had1, hf1, hT1⟩ := hp9
  have hL : LB cy b9 (fun _ => none) S00 S00 (nI 69) (nI 69) ad8 c8 := ⟨TB_congr (by decide) (by decide) hT0 (fun k k1 k2 => ⟨((hf1 k (Or.inl k2)).1).trans (ha_2 k (by omega)), ((hf1 k (Or.inl k2)).2).trans (va_up_ne _ _ (by omega))⟩), hT1, fun k hk => ((hf1 k (Or.inl (by omega))).2).trans ((va_up_ne _ _ (by omega)).trans (hz1 k (Or.inl hk)))⟩
  refine r_show c8 [(2, .ref (ad8 128)), (1, .int 2), (0, .ref b9)] [.ref (ad8 256)] rfl (by rw [(hf1 128 (Or.inl (by decide))).1]) (by rw [had1]) ?_
  obtain ⟨⟨w4_t0, w5_t0, w7_t0, hb_t0⟩, -⟩ := id hL.1
  have hb_t0 : c8 128 = some (.inr (6, [.ref (ad8 192), .ref b9, .int (nI 69), .ref (ad8 129), w4_t0, w5_t0, .ref (ad8 130), w7_t0, .int (nI (sNr S00)), .int (nI (sNl S00)), .int 0, .int ((sWe S00).1), .int ((sWe S00).2.1), .int ((sWe S00).2.2.1), .int ((sWe S00).2.2.2.1), .int ((sWe S00).2.2.2.2), .int 100, .int 0, .int 0, .int 0, .int 0])) := hb_t0
  obtain ⟨⟨w4_o0, w5_o0, w7_o0, hb_o0⟩, -⟩ := id hL.2.1
  have hb_o0 : c8 256 = some (.inr (6, [.ref (ad8 320), .ref b9, .int (nI 69), .ref (ad8 257), w4_o0, w5_o0, .ref (ad8 258), w7_o0, .int (nI (sNr S00)), .int (nI (sNl S00)), .int 0, .int ((sWe S00).1), .int ((sWe S00).2.1), .int ((sWe S00).2.2.1), .int ((sWe S00).2.2.2.1), .int ((sWe S00).2.2.2.2), .int 100, .int 0, .int 0, .int 0, .int 0])) := hb_o0
  refine r_astore_n X [(3, .ref (ad8 256)), (2, .ref (ad8 128)), (1, .int 2), (0, .ref b9)] d_Law_law_38 rfl (by decide) rfl ?_
  refine r_aload_n X 1 d_Law_law_39 rfl rfl ?_
  refine r_get X k_Told 0 (by decide) f_Law_14 rfl hb_t0 rfl d_Law_law_40 ?_
  refine r_astore X [(4, .ref (ad8 192)), (3, .ref (ad8 256)), (2, .ref (ad8 128)), (1, .int 2), (0, .ref b9)] d_Law_law_43 (by decide) rfl ?_
  refine r_aload_n X 2 d_Law_law_45 rfl rfl ?_
  refine r_iconst X 5 d_Law_law_46 (by decide) ?_
  refine x_Vi X W0_good hN hE (As := [.int 5]) (tb_x 128 (S' := fdS xs9 L9 69 5) (wf_2 (fd_wf (xs := xs9) (L := L9) (d := 69) 5 (by decide))).1 (wf_2 (fd_wf (xs := xs9) (L := L9) (d := 69) 5 (by decide))).2 (v := 1) (d' := nI 104) (c_Told_found l D cy b9 L9 xs9 (s2A 128 ad8) (s2C 128 c8) 69 (by decide) hL9 (TB_dn hL.1)) (fun r a c' h => h)) yv_Told_found m_Law_18 (hb_t0) k_Told.2.1 rfl rfl rfl ⟨by decide, by decide⟩ (Nat.le_of_ble_eq_true rfl) ⟨by decide, by decide⟩ d_Law_law_47 (fun r9_1 ad_1 c_1 hp9 => ?_)
  obtain ⟨hr_1, hm_1, hf_1, hT_1⟩ := hp9
  subst hr_1
  have hL_1 := LB_mt hL (wf_2 wf_00) hf_1 hT_1
  have h128_1 : ad_1 128 = ad8 128 := hm_1.1
  have h192_1 : ad_1 192 = ad8 192 := hm_1.2
  have h256_1 : ad_1 256 = ad8 256 := (hf_1 256 (Or.inr (by decide))).1
  refine r_show c_1 [(4, .ref (ad_1 192)), (3, .ref (ad_1 256)), (2, .ref (ad_1 128)), (1, .int 2), (0, .ref b9)] [.int 1] rfl (by rw [h128_1, h192_1, h256_1]) rfl ?_
  obtain ⟨⟨w4_t2, w5_t2, w7_t2, hb_t2⟩, -⟩ := id hL_1.1
  have hb_t2 : c_1 128 = some (.inr (6, [.ref (ad_1 192), .ref b9, .int (nI 104), .ref (ad_1 129), w4_t2, w5_t2, .ref (ad_1 130), w7_t2, .int (nI (sNr (fdS xs9 L9 69 5))), .int (nI (sNl (fdS xs9 L9 69 5))), .int 0, .int ((sWe (fdS xs9 L9 69 5)).1), .int ((sWe (fdS xs9 L9 69 5)).2.1), .int ((sWe (fdS xs9 L9 69 5)).2.2.1), .int ((sWe (fdS xs9 L9 69 5)).2.2.2.1), .int ((sWe (fdS xs9 L9 69 5)).2.2.2.2), .int 100, .int 0, .int 0, .int 0, .int 0])) := hb_t2
  obtain ⟨⟨w4_o2, w5_o2, w7_o2, hb_o2⟩, -⟩ := id hL_1.2.1
  have hb_o2 : c_1 256 = some (.inr (6, [.ref (ad_1 320), .ref b9, .int (nI 69), .ref (ad_1 257), w4_o2, w5_o2, .ref (ad_1 258), w7_o2, .int (nI (sNr S00)), .int (nI (sNl S00)), .int 0, .int ((sWe S00).1), .int ((sWe S00).2.1), .int ((sWe S00).2.2.1), .int ((sWe S00).2.2.2.1), .int ((sWe S00).2.2.2.2), .int 100, .int 0, .int 0, .int 0, .int 0])) := hb_o2
  refine r_if_eq X 77 d_Law_law_50 (by decide) (fun h9 => absurd h9 (by decide)) (fun _ => ?_)
  refine r_aload_n X 1 d_Law_law_53 rfl rfl ?_
  refine r_iconst X 5 d_Law_law_54 (by decide) ?_
  refine x_Vi X W0_good hN hE (As := [.int 5]) (tb_x 256 (S' := fdS xs9 L9 69 5) (wf_2 (fd_wf (xs := xs9) (L := L9) (d := 69) 5 (by decide))).1 (wf_2 (fd_wf (xs := xs9) (L := L9) (d := 69) 5 (by decide))).2 (v := 1) (d' := nI 104) (c_Told_found l D cy b9 L9 xs9 (s2A 256 ad_1) (s2C 256 c_1) 69 (by decide) hL9 (TB_dn hL_1.2.1)) (fun r a c' h => h)) yv_Told_found m_Law_18 (hb_o2) k_Told.2.1 rfl rfl rfl ⟨by decide, by decide⟩ (Nat.le_of_ble_eq_true rfl) ⟨by decide, by decide⟩ d_Law_law_55 (fun r9_3 ad_3 c_3 hp9 => ?_)
  obtain ⟨hr_3, hm_3, hf_3, hT_3⟩ := hp9
  subst hr_3
  have hL_3 := LB_mo hL_1 (wf_2 (fd_wf (xs := xs9) (L := L9) (d := 69) 5 (by decide))) hf_3 hT_3
  have h128_3 : ad_3 128 = ad_1 128 := (hf_3 128 (Or.inl (by decide))).1
  have h192_3 : ad_3 192 = ad_1 192 := (hf_3 192 (Or.inl (by decide))).1
  have h256_3 : ad_3 256 = ad_1 256 := hm_3.1
  refine r_show c_3 [(4, .ref (ad_3 192)), (3, .ref (ad_3 256)), (2, .ref (ad_3 128)), (1, .int 2), (0, .ref b9)] [.int 1] rfl (by rw [h128_3, h192_3, h256_3]) rfl ?_
  obtain ⟨⟨w4_t4, w5_t4, w7_t4, hb_t4⟩, -⟩ := id hL_3.1
  have hb_t4 : c_3 128 = some (.inr (6, [.ref (ad_3 192), .ref b9, .int (nI 104), .ref (ad_3 129), w4_t4, w5_t4, .ref (ad_3 130), w7_t4, .int (nI (sNr (fdS xs9 L9 69 5))), .int (nI (sNl (fdS xs9 L9 69 5))), .int 0, .int ((sWe (fdS xs9 L9 69 5)).1), .int ((sWe (fdS xs9 L9 69 5)).2.1), .int ((sWe (fdS xs9 L9 69 5)).2.2.1), .int ((sWe (fdS xs9 L9 69 5)).2.2.2.1), .int ((sWe (fdS xs9 L9 69 5)).2.2.2.2), .int 100, .int 0, .int 0, .int 0, .int 0])) := hb_t4
  obtain ⟨⟨w4_o4, w5_o4, w7_o4, hb_o4⟩, -⟩ := id hL_3.2.1
  have hb_o4 : c_3 256 = some (.inr (6, [.ref (ad_3 320), .ref b9, .int (nI 104), .ref (ad_3 257), w4_o4, w5_o4, .ref (ad_3 258), w7_o4, .int (nI (sNr (fdS xs9 L9 69 5))), .int (nI (sNl (fdS xs9 L9 69 5))), .int 0, .int ((sWe (fdS xs9 L9 69 5)).1), .int ((sWe (fdS xs9 L9 69 5)).2.1), .int ((sWe (fdS xs9 L9 69 5)).2.2.1), .int ((sWe (fdS xs9 L9 69 5)).2.2.2.1), .int ((sWe (fdS xs9 L9 69 5)).2.2.2.2), .int 100, .int 0, .int 0, .int 0, .int 0])) := hb_o4
  refine r_if_eq X 77 d_Law_law_58 (by decide) (fun h9 => absurd h9 (by decide)) (fun _ => ?_)
  refine r_aload_n X 2 d_Law_law_61 rfl rfl ?_
  refine r_iconst X 1 d_Law_law_62 (by decide) ?_
  refine r_Vi X W0_good hN (As := [.int 1]) (tb_i 128 (S' := fdT xs9 L9 69) (wf_2 ((GS.start (xs := xs9) (L := L9) (d := 69)).wf (by decide))).1 (wf_2 ((GS.start (xs := xs9) (L := L9) (d := 69)).wf (by decide))).2 (v := 1) (d' := nI 104) (c_Told_lorry l D cy b9 (s2A 128 ad_3) (s2C 128 c_3) (fdS xs9 L9 69 5) 104 (fd_wf 5 (by decide)) (by rw [fd_nl]; decide) (TB_dn hL_3.1)) (fun r a c' h => h)) yv_Told_lorry m_Law_22 (hb_t4) k_Told.2.1 rfl rfl rfl ⟨by decide, by decide⟩ (Nat.le_of_ble_eq_true rfl) ⟨by decide, by decide⟩ d_Law_law_63 (fun r9_5 ad_5 c_5 hp9 => ?_)
  obtain ⟨hr_5, hm_5, hf_5, hT_5⟩ := hp9
  subst hr_5
  have hL_5 := LB_mt hL_3 (wf_2 (fd_wf (xs := xs9) (L := L9) (d := 69) 5 (by decide))) hf_5 hT_5
  have h128_5 : ad_5 128 = ad_3 128 := hm_5.1
  have h192_5 : ad_5 192 = ad_3 192 := hm_5.2
  have h256_5 : ad_5 256 = ad_3 256 := (hf_5 256 (Or.inr (by decide))).1
  refine r_show c_5 [(4, .ref (ad_5 192)), (3, .ref (ad_5 256)), (2, .ref (ad_5 128)), (1, .int 2), (0, .ref b9)] [.int 1] rfl (by rw [h128_5, h192_5, h256_5]) rfl ?_
  obtain ⟨⟨w4_t6, w5_t6, w7_t6, hb_t6⟩, -⟩ := id hL_5.1
  have hb_t6 : c_5 128 = some (.inr (6, [.ref (ad_5 192), .ref b9, .int (nI 104), .ref (ad_5 129), w4_t6, w5_t6, .ref (ad_5 130), w7_t6, .int (nI (sNr (fdT xs9 L9 69))), .int (nI (sNl (fdT xs9 L9 69))), .int 0, .int ((sWe (fdT xs9 L9 69)).1), .int ((sWe (fdT xs9 L9 69)).2.1), .int ((sWe (fdT xs9 L9 69)).2.2.1), .int ((sWe (fdT xs9 L9 69)).2.2.2.1), .int ((sWe (fdT xs9 L9 69)).2.2.2.2), .int 100, .int 0, .int 0, .int 0, .int 0])) := hb_t6
  obtain ⟨⟨w4_o6, w5_o6, w7_o6, hb_o6⟩, -⟩ := id hL_5.2.1
  have hb_o6 : c_5 256 = some (.inr (6, [.ref (ad_5 320), .ref b9, .int (nI 104), .ref (ad_5 257), w4_o6, w5_o6, .ref (ad_5 258), w7_o6, .int (nI (sNr (fdS xs9 L9 69 5))), .int (nI (sNl (fdS xs9 L9 69 5))), .int 0, .int ((sWe (fdS xs9 L9 69 5)).1), .int ((sWe (fdS xs9 L9 69 5)).2.1), .int ((sWe (fdS xs9 L9 69 5)).2.2.1), .int ((sWe (fdS xs9 L9 69 5)).2.2.2.1), .int ((sWe (fdS xs9 L9 69 5)).2.2.2.2), .int 100, .int 0, .int 0, .int 0, .int 0])) := hb_o6
  refine r_if_eq X 77 d_Law_law_66 (by decide) (fun h9 => absurd h9 (by decide)) (fun _ => ?_)
  refine r_aload_n X 1 d_Law_law_69 rfl rfl ?_
  refine r_iconst X 1 d_Law_law_70 (by decide) ?_
  refine r_Vi X W0_good hN (As := [.int 1]) (tb_i 256 (S' := fdT xs9 L9 69) (wf_2 ((GS.start (xs := xs9) (L := L9) (d := 69)).wf (by decide))).1 (wf_2 ((GS.start (xs := xs9) (L := L9) (d := 69)).wf (by decide))).2 (v := 1) (d' := nI 104) (c_Told_lorry l D cy b9 (s2A 256 ad_5) (s2C 256 c_5) (fdS xs9 L9 69 5) 104 (fd_wf 5 (by decide)) (by rw [fd_nl]; decide) (TB_dn hL_5.2.1)) (fun r a c' h => h)) yv_Told_lorry m_Law_22 (hb_o6) k_Told.2.1 rfl rfl rfl ⟨by decide, by decide⟩ (Nat.le_of_ble_eq_true rfl) ⟨by decide, by decide⟩ d_Law_law_71 (fun r9_7 ad_7 c_7 hp9 => ?_)
  obtain ⟨hr_7, hm_7, hf_7, hT_7⟩ := hp9
  subst hr_7
  have hL_7 := LB_mo hL_5 (wf_2 ((GS.start (xs := xs9) (L := L9) (d := 69)).wf (by decide))) hf_7 hT_7
  have h128_7 : ad_7 128 = ad_5 128 := (hf_7 128 (Or.inl (by decide))).1
  have h192_7 : ad_7 192 = ad_5 192 := (hf_7 192 (Or.inl (by decide))).1
  have h256_7 : ad_7 256 = ad_5 256 := hm_7.1
  refine r_show c_7 [(4, .ref (ad_7 192)), (3, .ref (ad_7 256)), (2, .ref (ad_7 128)), (1, .int 2), (0, .ref b9)] [.int 1] rfl (by rw [h128_7, h192_7, h256_7]) rfl ?_
  obtain ⟨⟨w4_t8, w5_t8, w7_t8, hb_t8⟩, -⟩ := id hL_7.1
  have hb_t8 : c_7 128 = some (.inr (6, [.ref (ad_7 192), .ref b9, .int (nI 104), .ref (ad_7 129), w4_t8, w5_t8, .ref (ad_7 130), w7_t8, .int (nI (sNr (fdT xs9 L9 69))), .int (nI (sNl (fdT xs9 L9 69))), .int 0, .int ((sWe (fdT xs9 L9 69)).1), .int ((sWe (fdT xs9 L9 69)).2.1), .int ((sWe (fdT xs9 L9 69)).2.2.1), .int ((sWe (fdT xs9 L9 69)).2.2.2.1), .int ((sWe (fdT xs9 L9 69)).2.2.2.2), .int 100, .int 0, .int 0, .int 0, .int 0])) := hb_t8
  obtain ⟨⟨w4_o8, w5_o8, w7_o8, hb_o8⟩, -⟩ := id hL_7.2.1
  have hb_o8 : c_7 256 = some (.inr (6, [.ref (ad_7 320), .ref b9, .int (nI 104), .ref (ad_7 257), w4_o8, w5_o8, .ref (ad_7 258), w7_o8, .int (nI (sNr (fdT xs9 L9 69))), .int (nI (sNl (fdT xs9 L9 69))), .int 0, .int ((sWe (fdT xs9 L9 69)).1), .int ((sWe (fdT xs9 L9 69)).2.1), .int ((sWe (fdT xs9 L9 69)).2.2.1), .int ((sWe (fdT xs9 L9 69)).2.2.2.1), .int ((sWe (fdT xs9 L9 69)).2.2.2.2), .int 100, .int 0, .int 0, .int 0, .int 0])) := hb_o8
  refine r_if_ne X 79 d_Law_law_74 (by decide) (fun _ => ?_) (fun h9 => absurd h9 (by decide))
  refine r_iconst X 0 d_Law_law_79 (by decide) ?_
  refine r_istore X [(5, .int 0), (4, .ref (ad_7 192)), (3, .ref (ad_7 256)), (2, .ref (ad_7 128)), (1, .int 2), (0, .ref b9)] d_Law_law_80 (by decide) rfl ?_
  refine r_lv [0, 1, 2, 3, 4, 5] [(5, .int 0), (4, .ref (ad_7 192)), (3, .ref (ad_7 256)), (2, .ref (ad_7 128)), (1, .int 2), (0, .ref b9)] rfl ?_
  refine r_show c_7 [(5, .int (nI 0)), (4, .ref (ad_7 192)), (3, .ref (ad_7 256)), (2, .ref (ad_7 128)), (1, .int (nI 2)), (0, .ref b9)] [] rfl rfl rfl ?_
  refine r_wide 580 59000 (by decide) (by decide) ?_
  refine law_k X hN hE hL9 (C0 := 580) (L0 := 59000) (D0 := 104) (tm := 2) (dz := 104) (by decide) (by decide) (by decide) (fun ad5 c5 => ?_) 10 0 _ _ (fdT xs9 L9 69) 0 0 0 104 (by decide) GS.start (by decide) (by decide) hL_7
  refine r_wide 600 60000 (by decide) (by decide) ?_
  refine r_iinc X 0 [(1, .int 3), (0, .ref b9)] d_Law_law_418 rfl (by decide) (by decide) rfl ?_
  refine r_goto X 2 d_Law_law_421 (by decide) ?_
  refine r_lv [0, 1] [(1, .int 3), (0, .ref b9)] rfl ?_
  exact law_t3 X hN hE hL9 hr hlk
set_option maxRecDepth 100000 in
set_option maxHeartbeats 4000000 in
theorem law_t1 {p : Program} {l : Launch} {e : Env} {s : State} {m : MethodId} {below : List Frame} {meth : Method} {cd : Code} {b9 L9 : Nat} {xs9 : Nat → Int32} {D : va_G} {cy : Nat → ClassId} (X : rX p s m #[Value.ref b9] cd b_Law_law 20 R_Law W0 D cls (TY cy) (fun q => s.heap.size ≤ q)) (hN : rN NW s) (hE : rE b9 L9 xs9 (fun q => s.heap.size ≤ q) s s.heap) (hL9 : L9 < 2 ^ 31) (hr : meth.sig.returnType = ret) (hlk : meth.locks = false) {ad : Nat → Nat} {c : rC} : rW p l e room_1 s m #[Value.ref b9] below meth cd 20 D cls (fun q => s.heap.size ≤ q) 200 20000 (lw_Z below #[Value.ref b9] s) ad c 2 [(1, .int 1), (0, .ref b9)] [] := by
  refine r_drop ad (fun _ => none) (fun n9 x9 h9 => by cases h9) ?_
  refine r_iload_n X 0 d_Law_law_2 rfl rfl ?_
  refine r_iconst X 3 d_Law_law_3 (by decide) ?_
  refine r_icmp_ge X 424 d_Law_law_4 (by decide) (fun h9 => absurd h9 (by decide)) (fun _ => ?_)
  refine r_new X k_Told c_Law_9 n_Told i_Told (fs := [.null, .null, .int 0, .null, .null, .null, .null, .null, .int 0, .int 0, .int 0, .int 0, .int 0, .int 0, .int 0, .int 0, .int 0, .int 0, .int 0, .int 0, .int 0]) (by intro j hj; obtain rfl | rfl | rfl | rfl | rfl | rfl | rfl | rfl | rfl | rfl | rfl | rfl | rfl | rfl | rfl | rfl | rfl | rfl | rfl | rfl | rfl : j = 0 ∨ j = 1 ∨ j = 2 ∨ j = 3 ∨ j = 4 ∨ j = 5 ∨ j = 6 ∨ j = 7 ∨ j = 8 ∨ j = 9 ∨ j = 10 ∨ j = 11 ∨ j = 12 ∨ j = 13 ∨ j = 14 ∨ j = 15 ∨ j = 16 ∨ j = 17 ∨ j = 18 ∨ j = 19 ∨ j = 20 := (by omega); all_goals rfl) (Nat.le_of_ble_eq_true rfl) (Nat.le_of_ble_eq_true rfl) d_Law_law_7 128 rfl (fun a9 => [(1, .int 1), (0, .ref b9)]) (fun a9 => []) (fun _ _ => rfl) (fun _ _ => rfl) (fun a_1 ha_1 => ?_)
  refine r_dup X d_Law_law_10 rfl ?_
  refine r_aload_n X 1 d_Law_law_11 rfl rfl ?_
  refine r_bipush X 31 d_Law_law_12 (by decide) ?_
  refine r_iload_n X 0 d_Law_law_14 rfl rfl ?_
  refine r_imul X d_Law_law_15 ?_
  refine r_top (y := 31) (by decide) ?_
  refine r_bipush X 7 d_Law_law_16 (by decide) ?_
  refine r_iadd X d_Law_law_18 ?_
  refine r_top (y := 38) (by decide) ?_
  refine r_top (y := nI 38) (by decide) ?_
  refine r_Iv X W0_good hN (As := [.ref b9, .int (nI 38)]) (tb_v 128 (S' := S00) (by decide) (by decide) (d' := nI 38) (c_Told_init l D cy b9 (s2A 128 a_1) (s2C 128 (va_up (fun _ => none : rC) 128 (some (.inr (6, [.null, .null, .int 0, .null, .null, .null, .null, .null, .int 0, .int 0, .int 0, .int 0, .int 0, .int 0, .int 0, .int 0, .int 0, .int 0, .int 0, .int 0, .int 0]))))) (nI 38) ((if_pos (by decide)).trans rup_self) (fun k k1 k2 => (if_pos k2).trans ((va_up_ne _ _ (by omega)).trans rfl)))) yi_Told_init m_Law_11 rfl rfl ⟨by decide, by decide⟩ (Nat.le_of_ble_eq_true rfl) ⟨by decide, by decide⟩ d_Law_law_19 (fun ad9 c9 hp9 => ?_)
  obtain ⟨had0, hf0, hT0⟩ := hp9
  have hz1 : ∀ k, (k < 128 ∨ 256 ≤ k) → c9 k = none := fun k hk => ((hf0 k hk).2).trans (va_up_ne _ _ (by omega))
  refine r_show c9 [(1, .int 1), (0, .ref b9)] [.ref (ad9 128)] rfl rfl (by rw [had0]) ?_
  refine r_astore_n X [(2, .ref (ad9 128)), (1, .int 1), (0, .ref b9)] d_Law_law_22 rfl (by decide) rfl ?_
  refine r_new X k_Told c_Law_9 n_Told i_Told (fs := [.null, .null, .int 0, .null, .null, .null, .null, .null, .int 0, .int 0, .int 0, .int 0, .int 0, .int 0, .int 0, .int 0, .int 0, .int 0, .int 0, .int 0, .int 0]) (by intro j hj; obtain rfl | rfl | rfl | rfl | rfl | rfl | rfl | rfl | rfl | rfl | rfl | rfl | rfl | rfl | rfl | rfl | rfl | rfl | rfl | rfl | rfl : j = 0 ∨ j = 1 ∨ j = 2 ∨ j = 3 ∨ j = 4 ∨ j = 5 ∨ j = 6 ∨ j = 7 ∨ j = 8 ∨ j = 9 ∨ j = 10 ∨ j = 11 ∨ j = 12 ∨ j = 13 ∨ j = 14 ∨ j = 15 ∨ j = 16 ∨ j = 17 ∨ j = 18 ∨ j = 19 ∨ j = 20 := (by omega); all_goals rfl) (Nat.le_of_ble_eq_true rfl) (Nat.le_of_ble_eq_true rfl) d_Law_law_23 256 (hz1 256 (Or.inr (by decide))) (fun a9 => [(2, .ref (a9 128)), (1, .int 1), (0, .ref b9)]) (fun a9 => []) (fun a9 h9 => by rw [h9 128 (by decide)]) (fun _ _ => rfl) (fun a_2 ha_2 => ?_)
  refine r_dup X d_Law_law_26 rfl ?_
  refine r_aload_n X 2 d_Law_law_27 rfl rfl ?_
  refine r_bipush X 31 d_Law_law_28 (by decide) ?_
  refine r_iload_n X 1 d_Law_law_30 rfl rfl ?_
  refine r_imul X d_Law_law_31 ?_
  refine r_top (y := 31) (by decide) ?_
  refine r_bipush X 7 d_Law_law_32 (by decide) ?_
  refine r_iadd X d_Law_law_34 ?_
  refine r_top (y := 38) (by decide) ?_
  refine r_top (y := nI 38) (by decide) ?_
  refine r_Iv X W0_good hN (As := [.ref b9, .int (nI 38)]) (tb_v 256 (S' := S00) (by decide) (by decide) (d' := nI 38) (c_Told_init l D cy b9 (s2A 256 a_2) (s2C 256 (va_up c9 256 (some (.inr (6, [.null, .null, .int 0, .null, .null, .null, .null, .null, .int 0, .int 0, .int 0, .int 0, .int 0, .int 0, .int 0, .int 0, .int 0, .int 0, .int 0, .int 0, .int 0]))))) (nI 38) ((if_pos (by decide)).trans rup_self) (fun k k1 k2 => (if_pos k2).trans ((va_up_ne _ _ (by omega)).trans (hz1 _ (Or.inr (by omega))))))) yi_Told_init m_Law_11 rfl rfl ⟨by decide, by decide⟩ (Nat.le_of_ble_eq_true rfl) ⟨by decide, by decide⟩ d_Law_law_35 (fun ad8 c8 hp9 => ?_)
  obtain ⟨had1, hf1, hT1⟩ := hp9
  have hL : LB cy b9 (fun _ => none) S00 S00 (nI 38) (nI 38) ad8 c8 := ⟨TB_congr (by decide) (by decide) hT0 (fun k k1 k2 => ⟨((hf1 k (Or.inl k2)).1).trans (ha_2 k (by omega)), ((hf1 k (Or.inl k2)).2).trans (va_up_ne _ _ (by omega))⟩), hT1, fun k hk => ((hf1 k (Or.inl (by omega))).2).trans ((va_up_ne _ _ (by omega)).trans (hz1 k (Or.inl hk)))⟩
  refine r_show c8 [(2, .ref (ad8 128)), (1, .int 1), (0, .ref b9)] [.ref (ad8 256)] rfl (by rw [(hf1 128 (Or.inl (by decide))).1]) (by rw [had1]) ?_
  obtain ⟨⟨w4_t0, w5_t0, w7_t0, hb_t0⟩, -⟩ := id hL.1
  have hb_t0 : c8 128 = some (.inr (6, [.ref (ad8 192), .ref b9, .int (nI 38), .ref (ad8 129), w4_t0, w5_t0, .ref (ad8 130), w7_t0, .int (nI (sNr S00)), .int (nI (sNl S00)), .int 0, .int ((sWe S00).1), .int ((sWe S00).2.1), .int ((sWe S00).2.2.1), .int ((sWe S00).2.2.2.1), .int ((sWe S00).2.2.2.2), .int 100, .int 0, .int 0, .int 0, .int 0])) := hb_t0
  obtain ⟨⟨w4_o0, w5_o0, w7_o0, hb_o0⟩, -⟩ := id hL.2.1
  have hb_o0 : c8 256 = some (.inr (6, [.ref (ad8 320), .ref b9, .int (nI 38), .ref (ad8 257), w4_o0, w5_o0, .ref (ad8 258), w7_o0, .int (nI (sNr S00)), .int (nI (sNl S00)), .int 0, .int ((sWe S00).1), .int ((sWe S00).2.1), .int ((sWe S00).2.2.1), .int ((sWe S00).2.2.2.1), .int ((sWe S00).2.2.2.2), .int 100, .int 0, .int 0, .int 0, .int 0])) := hb_o0
  refine r_astore_n X [(3, .ref (ad8 256)), (2, .ref (ad8 128)), (1, .int 1), (0, .ref b9)] d_Law_law_38 rfl (by decide) rfl ?_
  refine r_aload_n X 1 d_Law_law_39 rfl rfl ?_
  refine r_get X k_Told 0 (by decide) f_Law_14 rfl hb_t0 rfl d_Law_law_40 ?_
  refine r_astore X [(4, .ref (ad8 192)), (3, .ref (ad8 256)), (2, .ref (ad8 128)), (1, .int 1), (0, .ref b9)] d_Law_law_43 (by decide) rfl ?_
  refine r_aload_n X 2 d_Law_law_45 rfl rfl ?_
  refine r_iconst X 5 d_Law_law_46 (by decide) ?_
  refine x_Vi X W0_good hN hE (As := [.int 5]) (tb_x 128 (S' := fdS xs9 L9 38 5) (wf_2 (fd_wf (xs := xs9) (L := L9) (d := 38) 5 (by decide))).1 (wf_2 (fd_wf (xs := xs9) (L := L9) (d := 38) 5 (by decide))).2 (v := 1) (d' := nI 73) (c_Told_found l D cy b9 L9 xs9 (s2A 128 ad8) (s2C 128 c8) 38 (by decide) hL9 (TB_dn hL.1)) (fun r a c' h => h)) yv_Told_found m_Law_18 (hb_t0) k_Told.2.1 rfl rfl rfl ⟨by decide, by decide⟩ (Nat.le_of_ble_eq_true rfl) ⟨by decide, by decide⟩ d_Law_law_47 (fun r9_1 ad_1 c_1 hp9 => ?_)
  obtain ⟨hr_1, hm_1, hf_1, hT_1⟩ := hp9
  subst hr_1
  have hL_1 := LB_mt hL (wf_2 wf_00) hf_1 hT_1
  have h128_1 : ad_1 128 = ad8 128 := hm_1.1
  have h192_1 : ad_1 192 = ad8 192 := hm_1.2
  have h256_1 : ad_1 256 = ad8 256 := (hf_1 256 (Or.inr (by decide))).1
  refine r_show c_1 [(4, .ref (ad_1 192)), (3, .ref (ad_1 256)), (2, .ref (ad_1 128)), (1, .int 1), (0, .ref b9)] [.int 1] rfl (by rw [h128_1, h192_1, h256_1]) rfl ?_
  obtain ⟨⟨w4_t2, w5_t2, w7_t2, hb_t2⟩, -⟩ := id hL_1.1
  have hb_t2 : c_1 128 = some (.inr (6, [.ref (ad_1 192), .ref b9, .int (nI 73), .ref (ad_1 129), w4_t2, w5_t2, .ref (ad_1 130), w7_t2, .int (nI (sNr (fdS xs9 L9 38 5))), .int (nI (sNl (fdS xs9 L9 38 5))), .int 0, .int ((sWe (fdS xs9 L9 38 5)).1), .int ((sWe (fdS xs9 L9 38 5)).2.1), .int ((sWe (fdS xs9 L9 38 5)).2.2.1), .int ((sWe (fdS xs9 L9 38 5)).2.2.2.1), .int ((sWe (fdS xs9 L9 38 5)).2.2.2.2), .int 100, .int 0, .int 0, .int 0, .int 0])) := hb_t2
  obtain ⟨⟨w4_o2, w5_o2, w7_o2, hb_o2⟩, -⟩ := id hL_1.2.1
  have hb_o2 : c_1 256 = some (.inr (6, [.ref (ad_1 320), .ref b9, .int (nI 38), .ref (ad_1 257), w4_o2, w5_o2, .ref (ad_1 258), w7_o2, .int (nI (sNr S00)), .int (nI (sNl S00)), .int 0, .int ((sWe S00).1), .int ((sWe S00).2.1), .int ((sWe S00).2.2.1), .int ((sWe S00).2.2.2.1), .int ((sWe S00).2.2.2.2), .int 100, .int 0, .int 0, .int 0, .int 0])) := hb_o2
  refine r_if_eq X 77 d_Law_law_50 (by decide) (fun h9 => absurd h9 (by decide)) (fun _ => ?_)
  refine r_aload_n X 1 d_Law_law_53 rfl rfl ?_
  refine r_iconst X 5 d_Law_law_54 (by decide) ?_
  refine x_Vi X W0_good hN hE (As := [.int 5]) (tb_x 256 (S' := fdS xs9 L9 38 5) (wf_2 (fd_wf (xs := xs9) (L := L9) (d := 38) 5 (by decide))).1 (wf_2 (fd_wf (xs := xs9) (L := L9) (d := 38) 5 (by decide))).2 (v := 1) (d' := nI 73) (c_Told_found l D cy b9 L9 xs9 (s2A 256 ad_1) (s2C 256 c_1) 38 (by decide) hL9 (TB_dn hL_1.2.1)) (fun r a c' h => h)) yv_Told_found m_Law_18 (hb_o2) k_Told.2.1 rfl rfl rfl ⟨by decide, by decide⟩ (Nat.le_of_ble_eq_true rfl) ⟨by decide, by decide⟩ d_Law_law_55 (fun r9_3 ad_3 c_3 hp9 => ?_)
  obtain ⟨hr_3, hm_3, hf_3, hT_3⟩ := hp9
  subst hr_3
  have hL_3 := LB_mo hL_1 (wf_2 (fd_wf (xs := xs9) (L := L9) (d := 38) 5 (by decide))) hf_3 hT_3
  have h128_3 : ad_3 128 = ad_1 128 := (hf_3 128 (Or.inl (by decide))).1
  have h192_3 : ad_3 192 = ad_1 192 := (hf_3 192 (Or.inl (by decide))).1
  have h256_3 : ad_3 256 = ad_1 256 := hm_3.1
  refine r_show c_3 [(4, .ref (ad_3 192)), (3, .ref (ad_3 256)), (2, .ref (ad_3 128)), (1, .int 1), (0, .ref b9)] [.int 1] rfl (by rw [h128_3, h192_3, h256_3]) rfl ?_
  obtain ⟨⟨w4_t4, w5_t4, w7_t4, hb_t4⟩, -⟩ := id hL_3.1
  have hb_t4 : c_3 128 = some (.inr (6, [.ref (ad_3 192), .ref b9, .int (nI 73), .ref (ad_3 129), w4_t4, w5_t4, .ref (ad_3 130), w7_t4, .int (nI (sNr (fdS xs9 L9 38 5))), .int (nI (sNl (fdS xs9 L9 38 5))), .int 0, .int ((sWe (fdS xs9 L9 38 5)).1), .int ((sWe (fdS xs9 L9 38 5)).2.1), .int ((sWe (fdS xs9 L9 38 5)).2.2.1), .int ((sWe (fdS xs9 L9 38 5)).2.2.2.1), .int ((sWe (fdS xs9 L9 38 5)).2.2.2.2), .int 100, .int 0, .int 0, .int 0, .int 0])) := hb_t4
  obtain ⟨⟨w4_o4, w5_o4, w7_o4, hb_o4⟩, -⟩ := id hL_3.2.1
  have hb_o4 : c_3 256 = some (.inr (6, [.ref (ad_3 320), .ref b9, .int (nI 73), .ref (ad_3 257), w4_o4, w5_o4, .ref (ad_3 258), w7_o4, .int (nI (sNr (fdS xs9 L9 38 5))), .int (nI (sNl (fdS xs9 L9 38 5))), .int 0, .int ((sWe (fdS xs9 L9 38 5)).1), .int ((sWe (fdS xs9 L9 38 5)).2.1), .int ((sWe (fdS xs9 L9 38 5)).2.2.1), .int ((sWe (fdS xs9 L9 38 5)).2.2.2.1), .int ((sWe (fdS xs9 L9 38 5)).2.2.2.2), .int 100, .int 0, .int 0, .int 0, .int 0])) := hb_o4
  refine r_if_eq X 77 d_Law_law_58 (by decide) (fun h9 => absurd h9 (by decide)) (fun _ => ?_)
  refine r_aload_n X 2 d_Law_law_61 rfl rfl ?_
  refine r_iconst X 1 d_Law_law_62 (by decide) ?_
  refine r_Vi X W0_good hN (As := [.int 1]) (tb_i 128 (S' := fdT xs9 L9 38) (wf_2 ((GS.start (xs := xs9) (L := L9) (d := 38)).wf (by decide))).1 (wf_2 ((GS.start (xs := xs9) (L := L9) (d := 38)).wf (by decide))).2 (v := 1) (d' := nI 73) (c_Told_lorry l D cy b9 (s2A 128 ad_3) (s2C 128 c_3) (fdS xs9 L9 38 5) 73 (fd_wf 5 (by decide)) (by rw [fd_nl]; decide) (TB_dn hL_3.1)) (fun r a c' h => h)) yv_Told_lorry m_Law_22 (hb_t4) k_Told.2.1 rfl rfl rfl ⟨by decide, by decide⟩ (Nat.le_of_ble_eq_true rfl) ⟨by decide, by decide⟩ d_Law_law_63 (fun r9_5 ad_5 c_5 hp9 => ?_)
  obtain ⟨hr_5, hm_5, hf_5, hT_5⟩ := hp9
  subst hr_5
  have hL_5 := LB_mt hL_3 (wf_2 (fd_wf (xs := xs9) (L := L9) (d := 38) 5 (by decide))) hf_5 hT_5
  have h128_5 : ad_5 128 = ad_3 128 := hm_5.1
  have h192_5 : ad_5 192 = ad_3 192 := hm_5.2
  have h256_5 : ad_5 256 = ad_3 256 := (hf_5 256 (Or.inr (by decide))).1
  refine r_show c_5 [(4, .ref (ad_5 192)), (3, .ref (ad_5 256)), (2, .ref (ad_5 128)), (1, .int 1), (0, .ref b9)] [.int 1] rfl (by rw [h128_5, h192_5, h256_5]) rfl ?_
  obtain ⟨⟨w4_t6, w5_t6, w7_t6, hb_t6⟩, -⟩ := id hL_5.1
  have hb_t6 : c_5 128 = some (.inr (6, [.ref (ad_5 192), .ref b9, .int (nI 73), .ref (ad_5 129), w4_t6, w5_t6, .ref (ad_5 130), w7_t6, .int (nI (sNr (fdT xs9 L9 38))), .int (nI (sNl (fdT xs9 L9 38))), .int 0, .int ((sWe (fdT xs9 L9 38)).1), .int ((sWe (fdT xs9 L9 38)).2.1), .int ((sWe (fdT xs9 L9 38)).2.2.1), .int ((sWe (fdT xs9 L9 38)).2.2.2.1), .int ((sWe (fdT xs9 L9 38)).2.2.2.2), .int 100, .int 0, .int 0, .int 0, .int 0])) := hb_t6
  obtain ⟨⟨w4_o6, w5_o6, w7_o6, hb_o6⟩, -⟩ := id hL_5.2.1
  have hb_o6 : c_5 256 = some (.inr (6, [.ref (ad_5 320), .ref b9, .int (nI 73), .ref (ad_5 257), w4_o6, w5_o6, .ref (ad_5 258), w7_o6, .int (nI (sNr (fdS xs9 L9 38 5))), .int (nI (sNl (fdS xs9 L9 38 5))), .int 0, .int ((sWe (fdS xs9 L9 38 5)).1), .int ((sWe (fdS xs9 L9 38 5)).2.1), .int ((sWe (fdS xs9 L9 38 5)).2.2.1), .int ((sWe (fdS xs9 L9 38 5)).2.2.2.1), .int ((sWe (fdS xs9 L9 38 5)).2.2.2.2), .int 100, .int 0, .int 0, .int 0, .int 0])) := hb_o6
  refine r_if_eq X 77 d_Law_law_66 (by decide) (fun h9 => absurd h9 (by decide)) (fun _ => ?_)
  refine r_aload_n X 1 d_Law_law_69 rfl rfl ?_
  refine r_iconst X 1 d_Law_law_70 (by decide) ?_
  refine r_Vi X W0_good hN (As := [.int 1]) (tb_i 256 (S' := fdT xs9 L9 38) (wf_2 ((GS.start (xs := xs9) (L := L9) (d := 38)).wf (by decide))).1 (wf_2 ((GS.start (xs := xs9) (L := L9) (d := 38)).wf (by decide))).2 (v := 1) (d' := nI 73) (c_Told_lorry l D cy b9 (s2A 256 ad_5) (s2C 256 c_5) (fdS xs9 L9 38 5) 73 (fd_wf 5 (by decide)) (by rw [fd_nl]; decide) (TB_dn hL_5.2.1)) (fun r a c' h => h)) yv_Told_lorry m_Law_22 (hb_o6) k_Told.2.1 rfl rfl rfl ⟨by decide, by decide⟩ (Nat.le_of_ble_eq_true rfl) ⟨by decide, by decide⟩ d_Law_law_71 (fun r9_7 ad_7 c_7 hp9 => ?_)
  obtain ⟨hr_7, hm_7, hf_7, hT_7⟩ := hp9
  subst hr_7
  have hL_7 := LB_mo hL_5 (wf_2 ((GS.start (xs := xs9) (L := L9) (d := 38)).wf (by decide))) hf_7 hT_7
  have h128_7 : ad_7 128 = ad_5 128 := (hf_7 128 (Or.inl (by decide))).1
  have h192_7 : ad_7 192 = ad_5 192 := (hf_7 192 (Or.inl (by decide))).1
  have h256_7 : ad_7 256 = ad_5 256 := hm_7.1
  refine r_show c_7 [(4, .ref (ad_7 192)), (3, .ref (ad_7 256)), (2, .ref (ad_7 128)), (1, .int 1), (0, .ref b9)] [.int 1] rfl (by rw [h128_7, h192_7, h256_7]) rfl ?_
  obtain ⟨⟨w4_t8, w5_t8, w7_t8, hb_t8⟩, -⟩ := id hL_7.1
  have hb_t8 : c_7 128 = some (.inr (6, [.ref (ad_7 192), .ref b9, .int (nI 73), .ref (ad_7 129), w4_t8, w5_t8, .ref (ad_7 130), w7_t8, .int (nI (sNr (fdT xs9 L9 38))), .int (nI (sNl (fdT xs9 L9 38))), .int 0, .int ((sWe (fdT xs9 L9 38)).1), .int ((sWe (fdT xs9 L9 38)).2.1), .int ((sWe (fdT xs9 L9 38)).2.2.1), .int ((sWe (fdT xs9 L9 38)).2.2.2.1), .int ((sWe (fdT xs9 L9 38)).2.2.2.2), .int 100, .int 0, .int 0, .int 0, .int 0])) := hb_t8
  obtain ⟨⟨w4_o8, w5_o8, w7_o8, hb_o8⟩, -⟩ := id hL_7.2.1
  have hb_o8 : c_7 256 = some (.inr (6, [.ref (ad_7 320), .ref b9, .int (nI 73), .ref (ad_7 257), w4_o8, w5_o8, .ref (ad_7 258), w7_o8, .int (nI (sNr (fdT xs9 L9 38))), .int (nI (sNl (fdT xs9 L9 38))), .int 0, .int ((sWe (fdT xs9 L9 38)).1), .int ((sWe (fdT xs9 L9 38)).2.1), .int ((sWe (fdT xs9 L9 38)).2.2.1), .int ((sWe (fdT xs9 L9 38)).2.2.2.1), .int ((sWe (fdT xs9 L9 38)).2.2.2.2), .int 100, .int 0, .int 0, .int 0, .int 0])) := hb_o8
  refine r_if_ne X 79 d_Law_law_74 (by decide) (fun _ => ?_) (fun h9 => absurd h9 (by decide))
  refine r_iconst X 0 d_Law_law_79 (by decide) ?_
  refine r_istore X [(5, .int 0), (4, .ref (ad_7 192)), (3, .ref (ad_7 256)), (2, .ref (ad_7 128)), (1, .int 1), (0, .ref b9)] d_Law_law_80 (by decide) rfl ?_
  refine r_lv [0, 1, 2, 3, 4, 5] [(5, .int 0), (4, .ref (ad_7 192)), (3, .ref (ad_7 256)), (2, .ref (ad_7 128)), (1, .int 1), (0, .ref b9)] rfl ?_
  refine r_show c_7 [(5, .int (nI 0)), (4, .ref (ad_7 192)), (3, .ref (ad_7 256)), (2, .ref (ad_7 128)), (1, .int (nI 1)), (0, .ref b9)] [] rfl rfl rfl ?_
  refine r_wide 380 39000 (by decide) (by decide) ?_
  refine law_k X hN hE hL9 (C0 := 380) (L0 := 39000) (D0 := 73) (tm := 1) (dz := 73) (by decide) (by decide) (by decide) (fun ad5 c5 => ?_) 10 0 _ _ (fdT xs9 L9 38) 0 0 0 73 (by decide) GS.start (by decide) (by decide) hL_7
  refine r_wide 400 40000 (by decide) (by decide) ?_
  refine r_iinc X 0 [(1, .int 2), (0, .ref b9)] d_Law_law_418 rfl (by decide) (by decide) rfl ?_
  refine r_goto X 2 d_Law_law_421 (by decide) ?_
  refine r_lv [0, 1] [(1, .int 2), (0, .ref b9)] rfl ?_
  exact law_t2 X hN hE hL9 hr hlk
set_option maxRecDepth 100000 in
set_option maxHeartbeats 4000000 in
theorem law_t0 {p : Program} {l : Launch} {e : Env} {s : State} {m : MethodId} {below : List Frame} {meth : Method} {cd : Code} {b9 L9 : Nat} {xs9 : Nat → Int32} {D : va_G} {cy : Nat → ClassId} (X : rX p s m #[Value.ref b9] cd b_Law_law 20 R_Law W0 D cls (TY cy) (fun q => s.heap.size ≤ q)) (hN : rN NW s) (hE : rE b9 L9 xs9 (fun q => s.heap.size ≤ q) s s.heap) (hL9 : L9 < 2 ^ 31) (hr : meth.sig.returnType = ret) (hlk : meth.locks = false) {ad : Nat → Nat} {c : rC} : rW p l e room_1 s m #[Value.ref b9] below meth cd 20 D cls (fun q => s.heap.size ≤ q) 0 0 (lw_Z below #[Value.ref b9] s) ad c 2 [(1, .int 0), (0, .ref b9)] [] := by
  refine r_drop ad (fun _ => none) (fun n9 x9 h9 => by cases h9) ?_
  refine r_iload_n X 0 d_Law_law_2 rfl rfl ?_
  refine r_iconst X 3 d_Law_law_3 (by decide) ?_
  refine r_icmp_ge X 424 d_Law_law_4 (by decide) (fun h9 => absurd h9 (by decide)) (fun _ => ?_)
  refine r_new X k_Told c_Law_9 n_Told i_Told (fs := [.null, .null, .int 0, .null, .null, .null, .null, .null, .int 0, .int 0, .int 0, .int 0, .int 0, .int 0, .int 0, .int 0, .int 0, .int 0, .int 0, .int 0, .int 0]) (by intro j hj; obtain rfl | rfl | rfl | rfl | rfl | rfl | rfl | rfl | rfl | rfl | rfl | rfl | rfl | rfl | rfl | rfl | rfl | rfl | rfl | rfl | rfl : j = 0 ∨ j = 1 ∨ j = 2 ∨ j = 3 ∨ j = 4 ∨ j = 5 ∨ j = 6 ∨ j = 7 ∨ j = 8 ∨ j = 9 ∨ j = 10 ∨ j = 11 ∨ j = 12 ∨ j = 13 ∨ j = 14 ∨ j = 15 ∨ j = 16 ∨ j = 17 ∨ j = 18 ∨ j = 19 ∨ j = 20 := (by omega); all_goals rfl) (Nat.le_of_ble_eq_true rfl) (Nat.le_of_ble_eq_true rfl) d_Law_law_7 128 rfl (fun a9 => [(1, .int 0), (0, .ref b9)]) (fun a9 => []) (fun _ _ => rfl) (fun _ _ => rfl) (fun a_1 ha_1 => ?_)
  refine r_dup X d_Law_law_10 rfl ?_
  refine r_aload_n X 1 d_Law_law_11 rfl rfl ?_
  refine r_bipush X 31 d_Law_law_12 (by decide) ?_
  refine r_iload_n X 0 d_Law_law_14 rfl rfl ?_
  refine r_imul X d_Law_law_15 ?_
  refine r_top (y := 0) (by decide) ?_
  refine r_bipush X 7 d_Law_law_16 (by decide) ?_
  refine r_iadd X d_Law_law_18 ?_
  refine r_top (y := 7) (by decide) ?_
  refine r_top (y := nI 7) (by decide) ?_
  refine r_Iv X W0_good hN (As := [.ref b9, .int (nI 7)]) (tb_v 128 (S' := S00) (by decide) (by decide) (d' := nI 7) (c_Told_init l D cy b9 (s2A 128 a_1) (s2C 128 (va_up (fun _ => none : rC) 128 (some (.inr (6, [.null, .null, .int 0, .null, .null, .null, .null, .null, .int 0, .int 0, .int 0, .int 0, .int 0, .int 0, .int 0, .int 0, .int 0, .int 0, .int 0, .int 0, .int 0]))))) (nI 7) ((if_pos (by decide)).trans rup_self) (fun k k1 k2 => (if_pos k2).trans ((va_up_ne _ _ (by omega)).trans rfl)))) yi_Told_init m_Law_11 rfl rfl ⟨by decide, by decide⟩ (Nat.le_of_ble_eq_true rfl) ⟨by decide, by decide⟩ d_Law_law_19 (fun ad9 c9 hp9 => ?_)
  obtain ⟨had0, hf0, hT0⟩ := hp9
  have hz1 : ∀ k, (k < 128 ∨ 256 ≤ k) → c9 k = none := fun k hk => ((hf0 k hk).2).trans (va_up_ne _ _ (by omega))
  refine r_show c9 [(1, .int 0), (0, .ref b9)] [.ref (ad9 128)] rfl rfl (by rw [had0]) ?_
  refine r_astore_n X [(2, .ref (ad9 128)), (1, .int 0), (0, .ref b9)] d_Law_law_22 rfl (by decide) rfl ?_
  refine r_new X k_Told c_Law_9 n_Told i_Told (fs := [.null, .null, .int 0, .null, .null, .null, .null, .null, .int 0, .int 0, .int 0, .int 0, .int 0, .int 0, .int 0, .int 0, .int 0, .int 0, .int 0, .int 0, .int 0]) (by intro j hj; obtain rfl | rfl | rfl | rfl | rfl | rfl | rfl | rfl | rfl | rfl | rfl | rfl | rfl | rfl | rfl | rfl | rfl | rfl | rfl | rfl | rfl : j = 0 ∨ j = 1 ∨ j = 2 ∨ j = 3 ∨ j = 4 ∨ j = 5 ∨ j = 6 ∨ j = 7 ∨ j = 8 ∨ j = 9 ∨ j = 10 ∨ j = 11 ∨ j = 12 ∨ j = 13 ∨ j = 14 ∨ j = 15 ∨ j = 16 ∨ j = 17 ∨ j = 18 ∨ j = 19 ∨ j = 20 := (by omega); all_goals rfl) (Nat.le_of_ble_eq_true rfl) (Nat.le_of_ble_eq_true rfl) d_Law_law_23 256 (hz1 256 (Or.inr (by decide))) (fun a9 => [(2, .ref (a9 128)), (1, .int 0), (0, .ref b9)]) (fun a9 => []) (fun a9 h9 => by rw [h9 128 (by decide)]) (fun _ _ => rfl) (fun a_2 ha_2 => ?_)
  refine r_dup X d_Law_law_26 rfl ?_
  refine r_aload_n X 2 d_Law_law_27 rfl rfl ?_
  refine r_bipush X 31 d_Law_law_28 (by decide) ?_
  refine r_iload_n X 1 d_Law_law_30 rfl rfl ?_
  refine r_imul X d_Law_law_31 ?_
  refine r_top (y := 0) (by decide) ?_
  refine r_bipush X 7 d_Law_law_32 (by decide) ?_
  refine r_iadd X d_Law_law_34 ?_
  refine r_top (y := 7) (by decide) ?_
  refine r_top (y := nI 7) (by decide) ?_
  refine r_Iv X W0_good hN (As := [.ref b9, .int (nI 7)]) (tb_v 256 (S' := S00) (by decide) (by decide) (d' := nI 7) (c_Told_init l D cy b9 (s2A 256 a_2) (s2C 256 (va_up c9 256 (some (.inr (6, [.null, .null, .int 0, .null, .null, .null, .null, .null, .int 0, .int 0, .int 0, .int 0, .int 0, .int 0, .int 0, .int 0, .int 0, .int 0, .int 0, .int 0, .int 0]))))) (nI 7) ((if_pos (by decide)).trans rup_self) (fun k k1 k2 => (if_pos k2).trans ((va_up_ne _ _ (by omega)).trans (hz1 _ (Or.inr (by omega))))))) yi_Told_init m_Law_11 rfl rfl ⟨by decide, by decide⟩ (Nat.le_of_ble_eq_true rfl) ⟨by decide, by decide⟩ d_Law_law_35 (fun ad8 c8 hp9 => ?_)
  obtain ⟨had1, hf1, hT1⟩ := hp9
  have hL : LB cy b9 (fun _ => none) S00 S00 (nI 7) (nI 7) ad8 c8 := ⟨TB_congr (by decide) (by decide) hT0 (fun k k1 k2 => ⟨((hf1 k (Or.inl k2)).1).trans (ha_2 k (by omega)), ((hf1 k (Or.inl k2)).2).trans (va_up_ne _ _ (by omega))⟩), hT1, fun k hk => ((hf1 k (Or.inl (by omega))).2).trans ((va_up_ne _ _ (by omega)).trans (hz1 k (Or.inl hk)))⟩
  refine r_show c8 [(2, .ref (ad8 128)), (1, .int 0), (0, .ref b9)] [.ref (ad8 256)] rfl (by rw [(hf1 128 (Or.inl (by decide))).1]) (by rw [had1]) ?_
  obtain ⟨⟨w4_t0, w5_t0, w7_t0, hb_t0⟩, -⟩ := id hL.1
  have hb_t0 : c8 128 = some (.inr (6, [.ref (ad8 192), .ref b9, .int (nI 7), .ref (ad8 129), w4_t0, w5_t0, .ref (ad8 130), w7_t0, .int (nI (sNr S00)), .int (nI (sNl S00)), .int 0, .int ((sWe S00).1), .int ((sWe S00).2.1), .int ((sWe S00).2.2.1), .int ((sWe S00).2.2.2.1), .int ((sWe S00).2.2.2.2), .int 100, .int 0, .int 0, .int 0, .int 0])) := hb_t0
  obtain ⟨⟨w4_o0, w5_o0, w7_o0, hb_o0⟩, -⟩ := id hL.2.1
  have hb_o0 : c8 256 = some (.inr (6, [.ref (ad8 320), .ref b9, .int (nI 7), .ref (ad8 257), w4_o0, w5_o0, .ref (ad8 258), w7_o0, .int (nI (sNr S00)), .int (nI (sNl S00)), .int 0, .int ((sWe S00).1), .int ((sWe S00).2.1), .int ((sWe S00).2.2.1), .int ((sWe S00).2.2.2.1), .int ((sWe S00).2.2.2.2), .int 100, .int 0, .int 0, .int 0, .int 0])) := hb_o0
  refine r_astore_n X [(3, .ref (ad8 256)), (2, .ref (ad8 128)), (1, .int 0), (0, .ref b9)] d_Law_law_38 rfl (by decide) rfl ?_
  refine r_aload_n X 1 d_Law_law_39 rfl rfl ?_
  refine r_get X k_Told 0 (by decide) f_Law_14 rfl hb_t0 rfl d_Law_law_40 ?_
  refine r_astore X [(4, .ref (ad8 192)), (3, .ref (ad8 256)), (2, .ref (ad8 128)), (1, .int 0), (0, .ref b9)] d_Law_law_43 (by decide) rfl ?_
  refine r_aload_n X 2 d_Law_law_45 rfl rfl ?_
  refine r_iconst X 5 d_Law_law_46 (by decide) ?_
  refine x_Vi X W0_good hN hE (As := [.int 5]) (tb_x 128 (S' := fdS xs9 L9 7 5) (wf_2 (fd_wf (xs := xs9) (L := L9) (d := 7) 5 (by decide))).1 (wf_2 (fd_wf (xs := xs9) (L := L9) (d := 7) 5 (by decide))).2 (v := 1) (d' := nI 42) (c_Told_found l D cy b9 L9 xs9 (s2A 128 ad8) (s2C 128 c8) 7 (by decide) hL9 (TB_dn hL.1)) (fun r a c' h => h)) yv_Told_found m_Law_18 (hb_t0) k_Told.2.1 rfl rfl rfl ⟨by decide, by decide⟩ (Nat.le_of_ble_eq_true rfl) ⟨by decide, by decide⟩ d_Law_law_47 (fun r9_1 ad_1 c_1 hp9 => ?_)
  obtain ⟨hr_1, hm_1, hf_1, hT_1⟩ := hp9
  subst hr_1
  have hL_1 := LB_mt hL (wf_2 wf_00) hf_1 hT_1
  have h128_1 : ad_1 128 = ad8 128 := hm_1.1
  have h192_1 : ad_1 192 = ad8 192 := hm_1.2
  have h256_1 : ad_1 256 = ad8 256 := (hf_1 256 (Or.inr (by decide))).1
  refine r_show c_1 [(4, .ref (ad_1 192)), (3, .ref (ad_1 256)), (2, .ref (ad_1 128)), (1, .int 0), (0, .ref b9)] [.int 1] rfl (by rw [h128_1, h192_1, h256_1]) rfl ?_
  obtain ⟨⟨w4_t2, w5_t2, w7_t2, hb_t2⟩, -⟩ := id hL_1.1
  have hb_t2 : c_1 128 = some (.inr (6, [.ref (ad_1 192), .ref b9, .int (nI 42), .ref (ad_1 129), w4_t2, w5_t2, .ref (ad_1 130), w7_t2, .int (nI (sNr (fdS xs9 L9 7 5))), .int (nI (sNl (fdS xs9 L9 7 5))), .int 0, .int ((sWe (fdS xs9 L9 7 5)).1), .int ((sWe (fdS xs9 L9 7 5)).2.1), .int ((sWe (fdS xs9 L9 7 5)).2.2.1), .int ((sWe (fdS xs9 L9 7 5)).2.2.2.1), .int ((sWe (fdS xs9 L9 7 5)).2.2.2.2), .int 100, .int 0, .int 0, .int 0, .int 0])) := hb_t2
  obtain ⟨⟨w4_o2, w5_o2, w7_o2, hb_o2⟩, -⟩ := id hL_1.2.1
  have hb_o2 : c_1 256 = some (.inr (6, [.ref (ad_1 320), .ref b9, .int (nI 7), .ref (ad_1 257), w4_o2, w5_o2, .ref (ad_1 258), w7_o2, .int (nI (sNr S00)), .int (nI (sNl S00)), .int 0, .int ((sWe S00).1), .int ((sWe S00).2.1), .int ((sWe S00).2.2.1), .int ((sWe S00).2.2.2.1), .int ((sWe S00).2.2.2.2), .int 100, .int 0, .int 0, .int 0, .int 0])) := hb_o2
  refine r_if_eq X 77 d_Law_law_50 (by decide) (fun h9 => absurd h9 (by decide)) (fun _ => ?_)
  refine r_aload_n X 1 d_Law_law_53 rfl rfl ?_
  refine r_iconst X 5 d_Law_law_54 (by decide) ?_
  refine x_Vi X W0_good hN hE (As := [.int 5]) (tb_x 256 (S' := fdS xs9 L9 7 5) (wf_2 (fd_wf (xs := xs9) (L := L9) (d := 7) 5 (by decide))).1 (wf_2 (fd_wf (xs := xs9) (L := L9) (d := 7) 5 (by decide))).2 (v := 1) (d' := nI 42) (c_Told_found l D cy b9 L9 xs9 (s2A 256 ad_1) (s2C 256 c_1) 7 (by decide) hL9 (TB_dn hL_1.2.1)) (fun r a c' h => h)) yv_Told_found m_Law_18 (hb_o2) k_Told.2.1 rfl rfl rfl ⟨by decide, by decide⟩ (Nat.le_of_ble_eq_true rfl) ⟨by decide, by decide⟩ d_Law_law_55 (fun r9_3 ad_3 c_3 hp9 => ?_)
  obtain ⟨hr_3, hm_3, hf_3, hT_3⟩ := hp9
  subst hr_3
  have hL_3 := LB_mo hL_1 (wf_2 (fd_wf (xs := xs9) (L := L9) (d := 7) 5 (by decide))) hf_3 hT_3
  have h128_3 : ad_3 128 = ad_1 128 := (hf_3 128 (Or.inl (by decide))).1
  have h192_3 : ad_3 192 = ad_1 192 := (hf_3 192 (Or.inl (by decide))).1
  have h256_3 : ad_3 256 = ad_1 256 := hm_3.1
  refine r_show c_3 [(4, .ref (ad_3 192)), (3, .ref (ad_3 256)), (2, .ref (ad_3 128)), (1, .int 0), (0, .ref b9)] [.int 1] rfl (by rw [h128_3, h192_3, h256_3]) rfl ?_
  obtain ⟨⟨w4_t4, w5_t4, w7_t4, hb_t4⟩, -⟩ := id hL_3.1
  have hb_t4 : c_3 128 = some (.inr (6, [.ref (ad_3 192), .ref b9, .int (nI 42), .ref (ad_3 129), w4_t4, w5_t4, .ref (ad_3 130), w7_t4, .int (nI (sNr (fdS xs9 L9 7 5))), .int (nI (sNl (fdS xs9 L9 7 5))), .int 0, .int ((sWe (fdS xs9 L9 7 5)).1), .int ((sWe (fdS xs9 L9 7 5)).2.1), .int ((sWe (fdS xs9 L9 7 5)).2.2.1), .int ((sWe (fdS xs9 L9 7 5)).2.2.2.1), .int ((sWe (fdS xs9 L9 7 5)).2.2.2.2), .int 100, .int 0, .int 0, .int 0, .int 0])) := hb_t4
  obtain ⟨⟨w4_o4, w5_o4, w7_o4, hb_o4⟩, -⟩ := id hL_3.2.1
  have hb_o4 : c_3 256 = some (.inr (6, [.ref (ad_3 320), .ref b9, .int (nI 42), .ref (ad_3 257), w4_o4, w5_o4, .ref (ad_3 258), w7_o4, .int (nI (sNr (fdS xs9 L9 7 5))), .int (nI (sNl (fdS xs9 L9 7 5))), .int 0, .int ((sWe (fdS xs9 L9 7 5)).1), .int ((sWe (fdS xs9 L9 7 5)).2.1), .int ((sWe (fdS xs9 L9 7 5)).2.2.1), .int ((sWe (fdS xs9 L9 7 5)).2.2.2.1), .int ((sWe (fdS xs9 L9 7 5)).2.2.2.2), .int 100, .int 0, .int 0, .int 0, .int 0])) := hb_o4
  refine r_if_eq X 77 d_Law_law_58 (by decide) (fun h9 => absurd h9 (by decide)) (fun _ => ?_)
  refine r_aload_n X 2 d_Law_law_61 rfl rfl ?_
  refine r_iconst X 1 d_Law_law_62 (by decide) ?_
  refine r_Vi X W0_good hN (As := [.int 1]) (tb_i 128 (S' := fdT xs9 L9 7) (wf_2 ((GS.start (xs := xs9) (L := L9) (d := 7)).wf (by decide))).1 (wf_2 ((GS.start (xs := xs9) (L := L9) (d := 7)).wf (by decide))).2 (v := 1) (d' := nI 42) (c_Told_lorry l D cy b9 (s2A 128 ad_3) (s2C 128 c_3) (fdS xs9 L9 7 5) 42 (fd_wf 5 (by decide)) (by rw [fd_nl]; decide) (TB_dn hL_3.1)) (fun r a c' h => h)) yv_Told_lorry m_Law_22 (hb_t4) k_Told.2.1 rfl rfl rfl ⟨by decide, by decide⟩ (Nat.le_of_ble_eq_true rfl) ⟨by decide, by decide⟩ d_Law_law_63 (fun r9_5 ad_5 c_5 hp9 => ?_)
  obtain ⟨hr_5, hm_5, hf_5, hT_5⟩ := hp9
  subst hr_5
  have hL_5 := LB_mt hL_3 (wf_2 (fd_wf (xs := xs9) (L := L9) (d := 7) 5 (by decide))) hf_5 hT_5
  have h128_5 : ad_5 128 = ad_3 128 := hm_5.1
  have h192_5 : ad_5 192 = ad_3 192 := hm_5.2
  have h256_5 : ad_5 256 = ad_3 256 := (hf_5 256 (Or.inr (by decide))).1
  refine r_show c_5 [(4, .ref (ad_5 192)), (3, .ref (ad_5 256)), (2, .ref (ad_5 128)), (1, .int 0), (0, .ref b9)] [.int 1] rfl (by rw [h128_5, h192_5, h256_5]) rfl ?_
  obtain ⟨⟨w4_t6, w5_t6, w7_t6, hb_t6⟩, -⟩ := id hL_5.1
  have hb_t6 : c_5 128 = some (.inr (6, [.ref (ad_5 192), .ref b9, .int (nI 42), .ref (ad_5 129), w4_t6, w5_t6, .ref (ad_5 130), w7_t6, .int (nI (sNr (fdT xs9 L9 7))), .int (nI (sNl (fdT xs9 L9 7))), .int 0, .int ((sWe (fdT xs9 L9 7)).1), .int ((sWe (fdT xs9 L9 7)).2.1), .int ((sWe (fdT xs9 L9 7)).2.2.1), .int ((sWe (fdT xs9 L9 7)).2.2.2.1), .int ((sWe (fdT xs9 L9 7)).2.2.2.2), .int 100, .int 0, .int 0, .int 0, .int 0])) := hb_t6
  obtain ⟨⟨w4_o6, w5_o6, w7_o6, hb_o6⟩, -⟩ := id hL_5.2.1
  have hb_o6 : c_5 256 = some (.inr (6, [.ref (ad_5 320), .ref b9, .int (nI 42), .ref (ad_5 257), w4_o6, w5_o6, .ref (ad_5 258), w7_o6, .int (nI (sNr (fdS xs9 L9 7 5))), .int (nI (sNl (fdS xs9 L9 7 5))), .int 0, .int ((sWe (fdS xs9 L9 7 5)).1), .int ((sWe (fdS xs9 L9 7 5)).2.1), .int ((sWe (fdS xs9 L9 7 5)).2.2.1), .int ((sWe (fdS xs9 L9 7 5)).2.2.2.1), .int ((sWe (fdS xs9 L9 7 5)).2.2.2.2), .int 100, .int 0, .int 0, .int 0, .int 0])) := hb_o6
  refine r_if_eq X 77 d_Law_law_66 (by decide) (fun h9 => absurd h9 (by decide)) (fun _ => ?_)
  refine r_aload_n X 1 d_Law_law_69 rfl rfl ?_
  refine r_iconst X 1 d_Law_law_70 (by decide) ?_
  refine r_Vi X W0_good hN (As := [.int 1]) (tb_i 256 (S' := fdT xs9 L9 7) (wf_2 ((GS.start (xs := xs9) (L := L9) (d := 7)).wf (by decide))).1 (wf_2 ((GS.start (xs := xs9) (L := L9) (d := 7)).wf (by decide))).2 (v := 1) (d' := nI 42) (c_Told_lorry l D cy b9 (s2A 256 ad_5) (s2C 256 c_5) (fdS xs9 L9 7 5) 42 (fd_wf 5 (by decide)) (by rw [fd_nl]; decide) (TB_dn hL_5.2.1)) (fun r a c' h => h)) yv_Told_lorry m_Law_22 (hb_o6) k_Told.2.1 rfl rfl rfl ⟨by decide, by decide⟩ (Nat.le_of_ble_eq_true rfl) ⟨by decide, by decide⟩ d_Law_law_71 (fun r9_7 ad_7 c_7 hp9 => ?_)
  obtain ⟨hr_7, hm_7, hf_7, hT_7⟩ := hp9
  subst hr_7
  have hL_7 := LB_mo hL_5 (wf_2 ((GS.start (xs := xs9) (L := L9) (d := 7)).wf (by decide))) hf_7 hT_7
  have h128_7 : ad_7 128 = ad_5 128 := (hf_7 128 (Or.inl (by decide))).1
  have h192_7 : ad_7 192 = ad_5 192 := (hf_7 192 (Or.inl (by decide))).1
  have h256_7 : ad_7 256 = ad_5 256 := hm_7.1
  refine r_show c_7 [(4, .ref (ad_7 192)), (3, .ref (ad_7 256)), (2, .ref (ad_7 128)), (1, .int 0), (0, .ref b9)] [.int 1] rfl (by rw [h128_7, h192_7, h256_7]) rfl ?_
  obtain ⟨⟨w4_t8, w5_t8, w7_t8, hb_t8⟩, -⟩ := id hL_7.1
  have hb_t8 : c_7 128 = some (.inr (6, [.ref (ad_7 192), .ref b9, .int (nI 42), .ref (ad_7 129), w4_t8, w5_t8, .ref (ad_7 130), w7_t8, .int (nI (sNr (fdT xs9 L9 7))), .int (nI (sNl (fdT xs9 L9 7))), .int 0, .int ((sWe (fdT xs9 L9 7)).1), .int ((sWe (fdT xs9 L9 7)).2.1), .int ((sWe (fdT xs9 L9 7)).2.2.1), .int ((sWe (fdT xs9 L9 7)).2.2.2.1), .int ((sWe (fdT xs9 L9 7)).2.2.2.2), .int 100, .int 0, .int 0, .int 0, .int 0])) := hb_t8
  obtain ⟨⟨w4_o8, w5_o8, w7_o8, hb_o8⟩, -⟩ := id hL_7.2.1
  have hb_o8 : c_7 256 = some (.inr (6, [.ref (ad_7 320), .ref b9, .int (nI 42), .ref (ad_7 257), w4_o8, w5_o8, .ref (ad_7 258), w7_o8, .int (nI (sNr (fdT xs9 L9 7))), .int (nI (sNl (fdT xs9 L9 7))), .int 0, .int ((sWe (fdT xs9 L9 7)).1), .int ((sWe (fdT xs9 L9 7)).2.1), .int ((sWe (fdT xs9 L9 7)).2.2.1), .int ((sWe (fdT xs9 L9 7)).2.2.2.1), .int ((sWe (fdT xs9 L9 7)).2.2.2.2), .int 100, .int 0, .int 0, .int 0, .int 0])) := hb_o8
  refine r_if_ne X 79 d_Law_law_74 (by decide) (fun _ => ?_) (fun h9 => absurd h9 (by decide))
  refine r_iconst X 0 d_Law_law_79 (by decide) ?_
  refine r_istore X [(5, .int 0), (4, .ref (ad_7 192)), (3, .ref (ad_7 256)), (2, .ref (ad_7 128)), (1, .int 0), (0, .ref b9)] d_Law_law_80 (by decide) rfl ?_
  refine r_lv [0, 1, 2, 3, 4, 5] [(5, .int 0), (4, .ref (ad_7 192)), (3, .ref (ad_7 256)), (2, .ref (ad_7 128)), (1, .int 0), (0, .ref b9)] rfl ?_
  refine r_show c_7 [(5, .int (nI 0)), (4, .ref (ad_7 192)), (3, .ref (ad_7 256)), (2, .ref (ad_7 128)), (1, .int (nI 0)), (0, .ref b9)] [] rfl rfl rfl ?_
  refine r_wide 180 19000 (by decide) (by decide) ?_
  refine law_k X hN hE hL9 (C0 := 180) (L0 := 19000) (D0 := 42) (tm := 0) (dz := 42) (by decide) (by decide) (by decide) (fun ad5 c5 => ?_) 10 0 _ _ (fdT xs9 L9 7) 0 0 0 42 (by decide) GS.start (by decide) (by decide) hL_7
  refine r_wide 200 20000 (by decide) (by decide) ?_
  refine r_iinc X 0 [(1, .int 1), (0, .ref b9)] d_Law_law_418 rfl (by decide) (by decide) rfl ?_
  refine r_goto X 2 d_Law_law_421 (by decide) ?_
  refine r_lv [0, 1] [(1, .int 1), (0, .ref b9)] rfl ?_
  exact law_t1 X hN hE hL9 hr hlk
/-- from the entry, for every script of at most 260 ints, the law comes to its end with true -/
theorem whole_start {p : Program} {e : Env} {s : State} {m : MethodId} {below : List Frame} {meth : Method} {c : Code} (l : Launch) (hflags : l.flags = flags0) {b L : Nat} {xs : Nat → Int32} (hL : L ≤ 260) (C0 : lw_At p s m meth c b L xs) : W p l e room_1 s m #[Value.ref b] below meth c s.heap [] 0 0 (lw_Z below #[Value.ref b] s) (entryFrame m ([Value.ref b] : List Value).toArray 20) := by
  obtain ⟨hx, hb, hr, hml, hown, hts, hX, hbl, hlocks, hgv⟩ := id C0
  have hW := W0_hts hts
  obtain ⟨D, hD⟩ := known_D hW
  have hN := start_N hts
  obtain ⟨cy, hcy⟩ := known_cy hts
  have hE : rE b L xs (fun q => s.heap.size ≤ q) s s.heap := ⟨hX, hbl, Nat.not_le.mpr hbl⟩
  have X : rX p s m #[Value.ref b] c b_Law_law 20 R_Law W0 D cls (TY cy) (fun q => s.heap.size ≤ q) := ⟨hx, hb, hml, hown, hW, ⟨hD, hcy⟩, fun q h => h⟩
  have hl := lv_entry ([.ref b]) (n := 20) (Nat.le_of_ble_eq_true rfl)
  rw [lg_entry_eq]
  have K : rW p l e room_1 s m #[Value.ref b] below meth c 20 D cls (fun q => s.heap.size ≤ q) 0 0 (lw_Z below #[Value.ref b] s) (fun _ => 0) (fun _ => none) 0 [(0, .ref b)] [] := by
    refine r_iconst X 0 d_Law_law_0 (by decide) ?_
    refine r_istore_n X [(1, .int 0), (0, .ref b)] d_Law_law_1 rfl (by decide) rfl ?_
    exact law_t0 X hN hE (by omega) hr hlocks
  exact K s.heap [] _ ⟨fun n x h => (by cases h), fun n k h => absurd rfl h⟩ va_S.rf hl
-- ===== YOUR PART ENDS =====
set_option maxHeartbeats 4000000 in
theorem lw_walk (l : Launch) (hflags : l.flags = flags0) (b : Addr) (xs : List Int32) : MetFree l x (headSpec (Jvm.Cond.code x code maxLocals ret :: tables_1) room_1) (lw_P b xs) (fun _ _ _ _ _ => True) lw_Q := by
  refine MetFree.of_bodyS (code := code) (maxLocals := maxLocals) (ret := ret) (by decide) ?_ ?_
  · intro args s m h hn
    obtain ⟨meth, c, h1, h2, h3, h4, h5, h6, -, -⟩ := Cond.code_spec hn (atoms_spec (ws := Jvm.Cond.code x code maxLocals ret :: tables_1) h _ List.mem_cons_self)
    exact ⟨meth, c, h1, h2, h3, h4, h5, h6⟩
  · intro p e s m args below meth c s₁ B hml0 hP _
    obtain ⟨rfl, hx, hbd, hgv⟩ := hP
    obtain ⟨scr, harrAt, hlist, hof, hsmall⟩ := hx
    obtain ⟨hcb, hkn, -, -⟩ := State.arrayAt?_spec harrAt
    have hown : s.vm.findClass R_law = some m.cls := findClass_of_methodNamed B.named
    have hts0 : ∀ c ∈ (Jvm.Cond.code x code maxLocals ret :: tables_1), c.before #[Value.ref b] s = true := atoms_spec (ws := Jvm.Cond.code x code maxLocals ret :: tables_1) B.pre
    have hts : ∀ w ∈ lw_tbl, w.before #[Value.ref b] s = true := k2_hts_sels lw_privs (fun w hw => hts0 w (List.mem_cons_of_mem _ hw)) lw_privs_ok
    have hml : c.maxLocals = 20 := B.maxLocals_eq (hts0 _ List.mem_cons_self)
    have X₀ : Stand p l e room_1 s m #[Value.ref b] below meth c s₁ [] 0 0 := Stand.of_body B
    have hh0 : s₁.heap = s.heap := by rw [B.state]; rfl
    have hsz : scr.slots.size = xs.length := by rw [← Array.length_toList, hlist, List.length_map]
    have hval : ∀ j : Nat, j < xs.length → scr.slots[j]? = some (.int (xs.getD j 0)) := fun j hj => by
      rw [← Array.getElem?_toList, hlist]
      simp [hj]
    have hbl : b < s.heap.size := (Array.getElem?_eq_some_iff.mp hcb).1
    have hX : va_X b xs.length (fun j => xs.getD j 0) s s.heap := ⟨scr, hcb, hof, hkn, hsz, hval⟩
    have K : W p l e room_1 s m #[Value.ref b] below meth c s₁.heap [] 0 0 (lw_Z below #[Value.ref b] s) (entryFrame m ([Value.ref b] : List Value).toArray 20) := by
      rw [hh0]
      exact whole_start l hflags hbd ⟨B.exec, B.bytes, B.returns, hml, hown, hts, hX, hbl, B.notSynchronized, hgv⟩
    obtain ⟨t, a1, o, b1, b2, b3⟩ := K s₁ rfl X₀
    exact ⟨t, o, a1, b1, b2, b3⟩
theorem lw_pre_spec {args : Array Value} {s : State} (h : (Jvm.Cond.and given_1 narrow_1).before args s = true) (hr : rest_1_c.before args s = true) : ∃ (b : Addr) (xs : List Int32), lw_P b xs args s := by
  have hs := flat_of_before _ h
  have hq := flat_of_before _ hr
  have hc : (Cond.count 1).before args s = true := hs _ (by decide +kernel)
  have harr : (Cond.arrayOf (.arg 0) .int).before args s = true := hs _ (by decide +kernel)
  have hle : (Cond.le (.length (.arg 0)) (.int 260)).before args s = true := hs _ (by decide +kernel)
  have hlen : (Cond.isInt (.length (.arg 0))).before args s = true := hq _ (by decide +kernel)
  have hall : (Cond.all (.arg 0) (.isInt (.elem (.arg 0) (.index 0)))).before args s = true := hq _ (by decide +kernel)
  obtain ⟨b, xs, hb, hx⟩ := State.ints_of_pre rfl harr hlen hall
  have hsm : xs.length < 2 ^ 31 := hx.choose_spec.2.2.2
  have hev : (Term.length (.arg 0)).eval args s none [] s = some (.int xs.length.toInt32) := hx.length_eval hb
  have hv := Cond.le_ints hev (show (Term.int 260).eval args s none [] s = some (.int 260) from rfl)
  have hd : xs.length.toInt32 ≤ 260 := by
    simpa [Cond.before, Cond.holds, hv] using hle
  have hN : xs.length ≤ 260 := (Int32.ofNat_le_ofNat hsm (by decide)).mp (show Int32.ofNat xs.length ≤ Int32.ofNat 260 from hd)
  exact ⟨b, xs, Cond.one_arg hc (show args[0]? = some (.ref b) from hb), hx, hN, h⟩
theorem lw_comes (l : Launch) (hflags : l.flags = flags0) : Comes l x (Jvm.Cond.code x code maxLocals ret :: tables_1) room_1 (fun tb e args s => Calls_1 tb e args s ∧ rest_1 tb e args s ∧ Pre_1 tb e args s)
    (fun _ _ args s o t => lw_Q args s o t) := by
  intro p e ha hc hk s m args below hf hfit hheap happ hpre
  obtain ⟨b, xs, hP⟩ := lw_pre_spec hpre.2.2 hpre.2.1
  obtain ⟨k, o, h1, h2, h3, hQ⟩ := lw_walk l hflags b xs p e ha hc hk s m args below hf ((Spec.applies_iff_loose hf).mp happ).1 hP trivial
  exact ⟨k, o, h1, h2, h3, hQ⟩
theorem lw_frame {s t : State} {o : Outcome} {args : Array Value} (h : Framed s o t [] 600064 7301640) :
    Framed s o t (fieldLocs frame_1_writes args s ++ arrayLocs frame_1_arrays args s ++ staticLocs frame_1_statics s) 600064 7301640 := h
theorem lw_limb (L : Cond) (hL : ∀ (args : Array Value) (s t : State), L.after args s (.returned (some (.int 1))) t = true) :
    ArmFor flags0 classFile x code maxLocals ret World_1 tables_1 room_1 Calls_1 rest_1 Pre_1
      (fun tb e a s o t => postC L tb e a s o t ∧ Framed s o t (fieldLocs frame_1_writes a s ++ arrayLocs frame_1_arrays a s ++ staticLocs frame_1_statics s) 600064 7301640) := by
  intro l hflags _ _ p e ha hc hk s m args below hf hfit hheap happ hpre
  obtain ⟨k, o, h1, h2, h3, rfl, hF⟩ := lw_comes l hflags p e ha hc hk s m args below hf hfit hheap happ hpre
  exact ⟨k, _, h1, h2, h3, hL args s _, lw_frame hF⟩
theorem i_vc : Claimed_1_1 ∧ Claimed_1_2 := ⟨lw_limb limb_1_1 (fun args s t => by simp [limb_1_1, Cond.after, Cond.holds, Cond.value]), lw_limb limb_1_2 (fun args s t => Cond.after_iff.mpr (by
  first | (rw [show limb_1_2 = Cond.eq .result (.int 1) from rfl, Cond.eq_ints (x := 1) (y := 1) rfl rfl]; simp; done) | (simp [limb_1_2, Cond.value, Term.eval]; done)))⟩
