/-! THE CLAIM OUT OF ONE WALK OF THE LAW'S BODY. Your part is whole_start (and what it stands on); all else here is the same for every law, but numbers. -/
def R_law : String := "GritWatchLaw"
def lw_P (b : Addr) (xs : List Int32) (args : Array Value) (s : State) : Prop := args = #[.ref b] ∧ s.IntsAt b xs ∧ xs.length ≤ 8 ∧ (Jvm.Cond.and given_1 narrow_1).before args s = true
/-- what a walk over the start with the record d0 says of its end, said of the start itself -/
theorem lw_closed {s t : State} {o : Outcome} {d0 : Drawn} {L : List Loc} {k n : Nat} (hd0 : s.drawn.sameBut d0 lw_cs) (hv : ∃ v, o = .returned v) (hW : (s.setDrawn d0).WarmedH t.vm) (hs : (s.setDrawn d0).sameButNew ({ t with vm := s.vm } : State) L k n) : State.butDraws s t lw_cs (fun t1 => Framed s o t1 L k n) := by
  have h2 : t.drawn = d0 := congrArg State.drawn hs.1
  refine ⟨⟨hv, hW, State.sameButNew.setDrawn hs s.drawn⟩, ?_, by decide⟩
  rw [h2]
  exact hd0
def lw_Q (_ : Array Value) (s : State) (o : Outcome) (t : State) : Prop := o = .returned (some (.int 1)) ∧ State.butDraws s t lw_cs (fun t1 => Framed s o t1 [] 600002 7302232)
def lw_Z (below : List Frame) (a : Array Value) (s : State) : State → Prop := fun t => ∃ o, t.status = .running ∧ Ended t below o ∧ lw_Q a s o t
/-- the law's own end, with 1 on the stack, nothing written that was there before, its room as the claim has it; d0: the record of draws at this point (at the entry s.drawn: begin with 'refine W.base ?_' and 'have hd0 := Drawn.sameBut.refl s.drawn lw_cs') -/
theorem lw_ret {p : Program} {l : Launch} {e : Env} {s : State} {m : MethodId} {below : List Frame} {meth : Method} {c : Code} {b : Nat} {d0 : Drawn} (hd0 : s.drawn.sameBut d0 lw_cs) (hx : p.tables.exec = Jvm.exec) (hb : c.code = code) (hr : meth.sig.returnType = ret) (hlocks : meth.locks = false) {pc : Nat} {H : Heap} {ls : Array Slot} (hdg : decode code pc = .ok (.ireturn, 1)) : W p l e room_1 (s.setDrawn d0) m #[Value.ref b] below meth c H [] 600002 7302232 (lw_Z below #[Value.ref b] s) (F0 m pc ls [.int 1]) := by
  intro T hT X
  obtain ⟨fs, hret, hrun, hended, hW, hframe⟩ := X.leave (v := some (.int 1)) (hlocks := hlocks) (fun h => by rw [hr] at h; cases h)
  have hmeth' : T.vm.method? m = some meth := X.method'
  refine ⟨T.setFrames fs, ?_, .returned (some (.int 1)), hrun, hended, rfl, lw_closed hd0 ⟨_, rfl⟩ hW hframe⟩
  jvm_step X.here [X.here.top, hx, hb, hdg, hmeth', hr, ret, narrow_b1]
  (try refine ⟨rfl, ?_⟩); (try refine ⟨rfl, ?_⟩)
  first | (intro acts; rw [hret _ acts rfl rfl rfl]) | rw [hret _ _ rfl rfl rfl]
  exact Steps.refl _
/-- what holds at the law's entry: the machine, the code, the tables' words (any of lw_tbl by 'hts w (by decide +kernel)'), the script of L ints xs at the cell b, what the Statement gives of the start (any of its parts by flat_of_before) -/
def lw_At (p : Program) (s : State) (m : MethodId) (meth : Method) (c : Code) (b L : Nat) (xs : Nat → Int32) : Prop :=
  p.tables.exec = Jvm.exec ∧ c.code = code ∧ meth.sig.returnType = ret ∧ c.maxLocals = 9 ∧ s.vm.findClass R_law = some m.cls ∧ (∀ w ∈ lw_tbl, w.before #[Value.ref b] s = true) ∧ va_X b L xs s s.heap ∧ b < s.heap.size ∧ meth.locks = false ∧ (Jvm.Cond.and given_1 narrow_1).before #[Value.ref b] s = true
theorem x_dstore {p : Program} {l : Launch} {e : Env} {R : Room} {s : State} {m : MethodId} {args : Array Value} {below : List Frame} {meth : Method} {cd : Code} {cc : ByteArray} {nL : Nat} {own : String} {Ts : List Cond} {D : va_G} {cl : List vw_C} {tys : List (ClassId × FieldType)} {A : Nat → Prop} {cells slots : Nat} {Q : State → Prop} {ad : Nat → Nat} {c : rC} {pc : Nat} {lv : List (Nat × Value)} {st : List Value} (X : rX p s m args cd cc nL own Ts D cl tys A) {i : Nat} {x : UInt64} (lv' : List (Nat × Value)) (hd : decode cc pc = .ok (.dstore i, 2)) (hn : i + 1 < nL) (hl9 : (i, Value.double x) :: lv.filter (fun q => !(q.1 == i) && (!(q.1 == i + 1) && !(q.1 + 1 == i && q.2.category == 2))) = lv') (kk : rW p l e R s m args below meth cd nL D cl A cells slots Q ad c (pc + 2) lv' st) : rW p l e R s m args below meth cd nL D cl A cells slots Q ad c pc lv (.double x :: st) := fun H locs ls hP hS hl => lv_dstore X.1 X.2.1 hd hl hn hl9 (fun ls hl => kk H locs ls hP hS hl)
theorem sub_d {l : Launch} {D : va_G} {cl : List vw_C} {tys : List (ClassId × FieldType)} {NW : List Cond} {y : MethodName} {ws : List Cond} {rm : Room} {args : List Value} {ad : Nat → Nat} {c : rC} (off : Nat) {post : UInt64 → (Nat → Nat) → rC → Prop} (h : rMd l D cl tys NW y ws rm args (shA off ad) (shC off c) post) : rMd l D cl tys NW y ws rm args ad c (fun r ad' c' => ∃ a1 c1, post r a1 c1 ∧ ad' = jnA off ad a1 ∧ c' = jnC off c c1) := by
  intro sz
  refine met_lift (h sz) (fun a U hU => ⟨hU.1, rP_sh hU.2⟩) (fun a st o t hU hq => ?_) (fun q hq => rA_sh hq)
  obtain ⟨⟨r, u, q1, q2, q3⟩, qF⟩ := hq
  exact ⟨⟨r, (jnA off ad u.1, jnC off c u.2), q1, ⟨u.1, u.2, q2, rfl, rfl⟩, rp_jn_of hU.2 qF q3⟩, vaF_sh qF⟩
theorem mC_frame {t0 : Nat} {f1 f2 : Nat → Option Nat} {cy : Nat → ClassId} {ad ad' : Nat → Nat} {c c' : rC} (h : mC t0 f1 f2 cy ad c) (hf : ∀ n, 128 ≤ n → ad' n = ad n ∧ c' n = c n) : mC t0 f1 f2 cy ad' c' := by
  have a : ∀ n, 128 ≤ n → ad' n = ad n := fun n hn => (hf n hn).1
  have e : ∀ n, 128 ≤ n → c' n = c n := fun n hn => (hf n hn).2
  obtain ⟨h1, h2, h3, h4, h5, h6, h7, h8, h9, h10, h11⟩ := h
  refine ⟨?_, ?_, ?_, ?_, ?_, ?_, ?_, ?_, ?_, ?_, fun k hk => (e k (by omega)).trans (h11 k hk)⟩
  · rw [e 128 (by decide), a 129 (by decide), a 130 (by decide), a 131 (by decide), a 152 (by decide), a 158 (by decide)]; exact h1
  · rw [e 129 (by decide)]; exact h2
  · rw [e 130 (by decide)]; exact h3
  · rw [e 131 (by decide)]; exact h4
  · rw [e 132 (by decide)]; exact h5
  · rw [e 152 (by decide)]; exact h6
  · rw [e 153 (by decide)]; exact h7
  · rw [e 158 (by decide)]; exact h8
  · rw [a 132 (by decide)]; exact h9
  · rw [a 153 (by decide)]; exact h10
theorem hC_frame {cy : Nat → ClassId} {ad ad' : Nat → Nat} {c c' : rC} (h : shC 64 c = cont cy (shA 64 ad) S00 J00) (h1 : ∀ n, 64 ≤ n → n < 128 → c' n = c n) (h2 : ∀ n, 64 ≤ n → n < 128 → ad' n = ad n) : shC 64 c' = cont cy (shA 64 ad') S00 J00 := by
  have e1 : shC 64 c' = shC 64 c := by
    funext k
    unfold shC
    by_cases hk : k < 64
    · rw [if_pos hk, if_pos hk, h1 (64 + k) (by omega) (by omega)]
    · rw [if_neg hk, if_neg hk]
  rw [e1, h]
  exact (cont_ad (fun n hn => h2 (64 + n) (by omega) (by have h9 : n < 16 ∨ n < 16 + 4 * 0 ∨ (48 ≤ n ∧ n < 48 + 2 * 0) := hn; omega))).symm
theorem lg_self (x : Int64) : lg_cmp x x = 0 := by
  unfold lg_cmp
  rw [if_neg (by simp), if_pos rfl]
theorem bz_or (q : Prop) [Decidable q] : (if q then (0 : Int32) else 1) = 0 ∨ (if q then (0 : Int32) else 1) = 1 := by
  by_cases h : q
  · exact Or.inl (if_pos h)
  · exact Or.inr (if_neg h)
theorem r_wide {p : Program} {l : Launch} {e : Env} {R : Room} {s : State} {m : MethodId} {args : Array Value} {below : List Frame} {meth : Method} {cd : Code} {nL : Nat} {D : va_G} {cl : List vw_C} {A : Nat → Prop} {cells slots : Nat} {Q : State → Prop} {ad : Nat → Nat} {c : rC} {pc : Nat} {lv : List (Nat × Value)} {st : List Value} (k n : Nat) (h1 : cells ≤ k) (h2 : slots ≤ n) (kk : rW p l e R s m args below meth cd nL D cl A k n Q ad c pc lv st) : rW p l e R s m args below meth cd nL D cl A cells slots Q ad c pc lv st := fun H locs ls hP hS hl => W.widen h1 h2 (kk H locs ls hP hS hl)
/-- from the loop's end to the law's -/
theorem law_exit {p : Program} {l : Launch} {e : Env} {s : State} {m : MethodId} {below : List Frame} {meth : Method} {cd : Code} {b : Nat} {D : va_G} {cy : Nat → ClassId} (X : rX p s m #[Value.ref b] cd b_Law_law 9 R_Law W0 D cls (TY cy) (fun q => s.heap.size ≤ q)) (hr : meth.sig.returnType = ret) (hlk : meth.locks = false) {cells slots : Nat} (hc : cells ≤ 600002) (hs : slots ≤ 7302232) {ad : Nat → Nat} {c : rC} {lv : List (Nat × Value)} : rW p l e room_1 s m #[Value.ref b] below meth cd 9 D cls (fun q => s.heap.size ≤ q) cells slots (lw_Z below #[Value.ref b] s) ad c 1609 lv [] := by
  refine r_iconst X 1 d_Law_law_1609 (by decide) ?_
  intro H locs ls hP hS hl
  refine va_forget (fun q hq => hS.2.2 q hq) ?_
  refine W.widen hc hs ?_
  refine W.base ?_
  exact lw_ret (Drawn.sameBut.refl s.drawn lw_cs) X.1 X.2.1 hr hlk d_Law_law_1610
set_option maxRecDepth 100000 in
set_option maxHeartbeats 4000000 in
theorem law_next {p : Program} {l : Launch} {e : Env} {s : State} {m : MethodId} {below : List Frame} {meth : Method} {cd : Code} {b : Nat} {xs : Nat → Int32} {D : va_G} {cy : Nat → ClassId} (X : rX p s m #[Value.ref b] cd b_Law_law 9 R_Law W0 D cls (TY cy) (fun q => s.heap.size ≤ q)) (hr : meth.sig.returnType = ret) (hlk : meth.locks = false) (hX : va_X b 8 xs s s.heap) (hbl : b < s.heap.size) {cells slots : Nat} (hc : cells ≤ 600002) (hs : slots ≤ 7302232) {ad : Nat → Nat} {c : rC} : rW p l e room_1 s m #[Value.ref b] below meth cd 9 D cls (fun q => s.heap.size ≤ q) cells slots (lw_Z below #[Value.ref b] s) ad c 1603 [(4, .int 0), (0, .ref b)] [] := by
  refine r_iinc X 0 [(4, .int 8), (0, .ref b)] d_Law_law_1603 rfl (by decide) (by decide) rfl ?_
  refine r_goto X 23 d_Law_law_1606 (by decide) ?_
  refine r_iload X 0 d_Law_law_23 rfl ?_
  refine r_aload_n X 1 d_Law_law_25 rfl rfl ?_
  refine x_slen X hX hbl (Nat.not_le.mpr hbl) d_Law_law_26 ?_
  refine r_top (y := 8) rfl ?_
  refine r_bipush X 8 d_Law_law_27 (by decide) ?_
  refine r_isub X d_Law_law_29 ?_
  refine r_top (y := 0) (by decide) ?_
  refine r_icmp_gt X 1609 d_Law_law_30 (by decide) (fun _ => ?_) (fun h9 => absurd h9 (by decide))
  exact law_exit X hr hlk hc hs
set_option maxRecDepth 100000 in
set_option maxHeartbeats 4000000 in
theorem lc_road {p : Program} {l : Launch} {e : Env} {s : State} {m : MethodId} {below : List Frame} {meth : Method} {cd : Code} {b : Nat} {xs : Nat → Int32} {D : va_G} {cy : Nat → ClassId} {t0 : Nat} (hst9 : l.stackTraces = false) (X : rX p s m #[Value.ref b] cd b_Law_law 9 R_Law W0 D cls (TY cy) (fun q => s.heap.size ≤ q)) (hr : meth.sig.returnType = ret) (hlk : meth.locks = false) (hN : rN NW s) (hE : rE t0 (fun q => s.heap.size ≤ q) s s.heap) (hX : va_X b 8 xs s s.heap) (hbl : b < s.heap.size) {ad : Nat → Nat} {c : rC} (hC : shC 64 c = cont cy (shA 64 ad) S00 J00) {f : Nat → Int64} (hO : c 0 = some (.inl (cy 7, 1, .inr (.inl f)))) {f1 f2 : Nat → Option Nat} (hm : mC t0 f1 f2 cy ad c) : rW p l e room_1 s m #[Value.ref b] below meth cd 9 D cls (fun q => s.heap.size ≤ q) 1000 10000 (lw_Z below #[Value.ref b] s) ad c 140 [(4, .int 0), (3, .ref (ad 0)), (2, .ref (ad 128)), (1, .ref (ad 64)), (0, .ref b)] [] := by
  have h64 := (h64_of hC).trans (ct_lo (by decide))
  refine r_aload_n X 3 d_Law_law_140 rfl rfl ?_
  refine r_aload_n X 4 d_Law_law_141 rfl rfl ?_
  refine r_iload X 0 d_Law_law_142 rfl ?_
  refine r_iconst X 1 d_Law_law_144 (by decide) ?_
  refine r_iadd X d_Law_law_145 ?_
  refine r_top (y := 1) (by decide) ?_
  refine x_sld X hX hbl (Nat.not_le.mpr hbl) (v := xs 1) (by unfold vp_in; decide +kernel) (congrArg xs (by decide +kernel : (1 : Int32).toNatClampNeg = 1)) d_Law_law_146 ?_
  refine r_aload_n X 4 d_Law_law_147 rfl rfl ?_
  refine r_iload X 0 d_Law_law_148 rfl ?_
  refine r_iconst X 2 d_Law_law_150 (by decide) ?_
  refine r_iadd X d_Law_law_151 ?_
  refine r_top (y := 2) (by decide) ?_
  refine x_sld X hX hbl (Nat.not_le.mpr hbl) (v := xs 2) (by unfold vp_in; decide +kernel) (congrArg xs (by decide +kernel : (2 : Int32).toNatClampNeg = 2)) d_Law_law_152 ?_
  refine r_aload_n X 4 d_Law_law_153 rfl rfl ?_
  refine r_iload X 0 d_Law_law_154 rfl ?_
  refine r_iconst X 3 d_Law_law_156 (by decide) ?_
  refine r_iadd X d_Law_law_157 ?_
  refine r_top (y := 3) (by decide) ?_
  refine x_sld X hX hbl (Nat.not_le.mpr hbl) (v := xs 3) (by unfold vp_in; decide +kernel) (congrArg xs (by decide +kernel : (3 : Int32).toNatClampNeg = 3)) d_Law_law_158 ?_
  refine r_aload_n X 4 d_Law_law_159 rfl rfl ?_
  refine r_iload X 0 d_Law_law_160 rfl ?_
  refine r_iconst X 4 d_Law_law_162 (by decide) ?_
  refine r_iadd X d_Law_law_163 ?_
  refine r_top (y := 4) (by decide) ?_
  refine x_sld X hX hbl (Nat.not_le.mpr hbl) (v := xs 4) (by unfold vp_in; decide +kernel) (congrArg xs (by decide +kernel : (4 : Int32).toNatClampNeg = 4)) d_Law_law_164 ?_
  refine r_aload_n X 4 d_Law_law_165 rfl rfl ?_
  refine r_iload X 0 d_Law_law_166 rfl ?_
  refine r_iconst X 5 d_Law_law_168 (by decide) ?_
  refine r_iadd X d_Law_law_169 ?_
  refine r_top (y := 5) (by decide) ?_
  refine x_sld X hX hbl (Nat.not_le.mpr hbl) (v := xs 5) (by unfold vp_in; decide +kernel) (congrArg xs (by decide +kernel : (5 : Int32).toNatClampNeg = 5)) d_Law_law_170 ?_
  refine r_aload_n X 4 d_Law_law_171 rfl rfl ?_
  refine r_iload X 0 d_Law_law_172 rfl ?_
  refine r_bipush X 6 d_Law_law_174 (by decide) ?_
  refine r_iadd X d_Law_law_176 ?_
  refine r_top (y := 6) (by decide) ?_
  refine x_sld X hX hbl (Nat.not_le.mpr hbl) (v := xs 6) (by unfold vp_in; decide +kernel) (congrArg xs (by decide +kernel : (6 : Int32).toNatClampNeg = 6)) d_Law_law_177 ?_
  refine r_aload_n X 4 d_Law_law_178 rfl rfl ?_
  refine r_iload X 0 d_Law_law_179 rfl ?_
  refine r_bipush X 7 d_Law_law_181 (by decide) ?_
  refine r_iadd X d_Law_law_183 ?_
  refine r_top (y := 7) (by decide) ?_
  refine x_sld X hX hbl (Nat.not_le.mpr hbl) (v := xs 7) (by unfold vp_in; decide +kernel) (congrArg xs (by decide +kernel : (7 : Int32).toNatClampNeg = 7)) d_Law_law_184 ?_
  refine r_cut (fun u9 : Int32 => u9 = (if (xs 7) = 0 then 0 else 1)) (fun _ => c) 193 (fun _ => [(4, .int 0), (3, .ref (ad 0)), (2, .ref (ad 128)), (1, .ref (ad 64)), (0, .ref b)]) (fun u9 => [.int u9, .int (xs 6), .int (xs 5), .int (xs 4), .int (xs 3), .int (xs 2), .int (xs 1), .ref (ad 64)]) (fun J9 => ?_) (fun t_1 ht_1 => ?_)
  · refine r_if_eq X 192 d_Law_law_185 (by decide) (fun h9 => ?_) (fun h9 => ?_)
    · refine r_iconst X 0 d_Law_law_192 (by decide) ?_
      exact J9 _ (if_pos h9).symm
    · refine r_iconst X 1 d_Law_law_188 (by decide) ?_
      refine r_goto X 193 d_Law_law_189 (by decide) ?_
      exact J9 _ (if_neg h9).symm
  subst ht_1
  refine r_aload_n X 1 d_Law_law_193 rfl rfl ?_
  refine x_Sh X W0_good hN hE (w_road l hst9 D cy t0 ad c hC f hO (xs 1) (xs 2) (xs 3) (xs 4) (xs 5) (xs 6) (if (xs 7) = 0 then 0 else 1) (bz_or ((xs 7) = 0))) yh_road m_Law_83 rfl rfl ⟨by decide, by decide⟩ (Nat.le_of_ble_eq_true rfl) ⟨by decide, by decide⟩ d_Law_law_194 (fun r9 ad9 c9 hp9 => ?_)
  obtain ⟨hk9, hv9, ha0, hfr⟩ := hp9
  subst hk9
  have hm9 := mC_frame hm hfr
  refine r_lv [0, 1, 2, 4] [(4, .int 0), (3, .ref (ad 0)), (2, .ref (ad 128)), (0, .ref b)] rfl ?_
  refine r_show c9 [(4, .int 0), (3, .ref (ad9 0)), (2, .ref (ad9 128)), (0, .ref b)] [.int (kF_road (xs 1) (xs 2) (xs 3) (xs 4) (xs 5) (xs 6) (if (xs 7) = 0 then 0 else 1))] rfl (by rw [ha0, (hfr 128 (by decide)).1]) rfl ?_
  refine r_istore X [(5, .int (kF_road (xs 1) (xs 2) (xs 3) (xs 4) (xs 5) (xs 6) (if (xs 7) = 0 then 0 else 1))), (4, .int 0), (3, .ref (ad9 0)), (2, .ref (ad9 128)), (0, .ref b)] d_Law_law_197 (by decide) rfl ?_
  refine r_aload_n X 3 d_Law_law_199 rfl rfl ?_
  refine r_aload_n X 4 d_Law_law_200 rfl rfl ?_
  refine r_iload X 1 d_Law_law_201 rfl ?_
  refine r_iconst X 1 d_Law_law_203 (by decide) ?_
  refine r_iadd X d_Law_law_204 ?_
  refine r_top (y := 1) (by decide) ?_
  refine x_sld X hX hbl (Nat.not_le.mpr hbl) (v := xs 1) (by unfold vp_in; decide +kernel) (congrArg xs (by decide +kernel : (1 : Int32).toNatClampNeg = 1)) d_Law_law_205 ?_
  refine r_aload_n X 4 d_Law_law_206 rfl rfl ?_
  refine r_iload X 1 d_Law_law_207 rfl ?_
  refine r_iconst X 2 d_Law_law_209 (by decide) ?_
  refine r_iadd X d_Law_law_210 ?_
  refine r_top (y := 2) (by decide) ?_
  refine x_sld X hX hbl (Nat.not_le.mpr hbl) (v := xs 2) (by unfold vp_in; decide +kernel) (congrArg xs (by decide +kernel : (2 : Int32).toNatClampNeg = 2)) d_Law_law_211 ?_
  refine r_aload_n X 4 d_Law_law_212 rfl rfl ?_
  refine r_iload X 1 d_Law_law_213 rfl ?_
  refine r_iconst X 3 d_Law_law_215 (by decide) ?_
  refine r_iadd X d_Law_law_216 ?_
  refine r_top (y := 3) (by decide) ?_
  refine x_sld X hX hbl (Nat.not_le.mpr hbl) (v := xs 3) (by unfold vp_in; decide +kernel) (congrArg xs (by decide +kernel : (3 : Int32).toNatClampNeg = 3)) d_Law_law_217 ?_
  refine r_aload_n X 4 d_Law_law_218 rfl rfl ?_
  refine r_iload X 1 d_Law_law_219 rfl ?_
  refine r_iconst X 4 d_Law_law_221 (by decide) ?_
  refine r_iadd X d_Law_law_222 ?_
  refine r_top (y := 4) (by decide) ?_
  refine x_sld X hX hbl (Nat.not_le.mpr hbl) (v := xs 4) (by unfold vp_in; decide +kernel) (congrArg xs (by decide +kernel : (4 : Int32).toNatClampNeg = 4)) d_Law_law_223 ?_
  refine r_aload_n X 4 d_Law_law_224 rfl rfl ?_
  refine r_iload X 1 d_Law_law_225 rfl ?_
  refine r_iconst X 5 d_Law_law_227 (by decide) ?_
  refine r_iadd X d_Law_law_228 ?_
  refine r_top (y := 5) (by decide) ?_
  refine x_sld X hX hbl (Nat.not_le.mpr hbl) (v := xs 5) (by unfold vp_in; decide +kernel) (congrArg xs (by decide +kernel : (5 : Int32).toNatClampNeg = 5)) d_Law_law_229 ?_
  refine r_aload_n X 4 d_Law_law_230 rfl rfl ?_
  refine r_iload X 1 d_Law_law_231 rfl ?_
  refine r_bipush X 6 d_Law_law_233 (by decide) ?_
  refine r_iadd X d_Law_law_235 ?_
  refine r_top (y := 6) (by decide) ?_
  refine x_sld X hX hbl (Nat.not_le.mpr hbl) (v := xs 6) (by unfold vp_in; decide +kernel) (congrArg xs (by decide +kernel : (6 : Int32).toNatClampNeg = 6)) d_Law_law_236 ?_
  refine r_aload_n X 4 d_Law_law_237 rfl rfl ?_
  refine r_iload X 1 d_Law_law_238 rfl ?_
  refine r_bipush X 7 d_Law_law_240 (by decide) ?_
  refine r_iadd X d_Law_law_242 ?_
  refine r_top (y := 7) (by decide) ?_
  refine x_sld X hX hbl (Nat.not_le.mpr hbl) (v := xs 7) (by unfold vp_in; decide +kernel) (congrArg xs (by decide +kernel : (7 : Int32).toNatClampNeg = 7)) d_Law_law_243 ?_
  refine r_cut (fun u9 : Int32 => u9 = (if (xs 7) = 0 then 0 else 1)) (fun _ => c9) 252 (fun _ => [(5, .int (kF_road (xs 1) (xs 2) (xs 3) (xs 4) (xs 5) (xs 6) (if (xs 7) = 0 then 0 else 1))), (4, .int 0), (3, .ref (ad9 0)), (2, .ref (ad9 128)), (0, .ref b)]) (fun u9 => [.int u9, .int (xs 6), .int (xs 5), .int (xs 4), .int (xs 3), .int (xs 2), .int (xs 1), .ref (ad9 128)]) (fun J9 => ?_) (fun t_2 ht_2 => ?_)
  · refine r_if_eq X 251 d_Law_law_244 (by decide) (fun h9 => ?_) (fun h9 => ?_)
    · refine r_iconst X 0 d_Law_law_251 (by decide) ?_
      exact J9 _ (if_pos h9).symm
    · refine r_iconst X 1 d_Law_law_247 (by decide) ?_
      refine r_goto X 252 d_Law_law_248 (by decide) ?_
      exact J9 _ (if_neg h9).symm
  subst ht_2
  refine x_Vi X W0_good hN hE (As := [.int (xs 1), .int (xs 2), .int (xs 3), .int (xs 4), .int (xs 5), .int (xs 6), .int (if (xs 7) = 0 then 0 else 1)]) (c_M_road l D cy t0 ad9 c9 f1 f2 hm9 (xs 1) (xs 2) (xs 3) (xs 4) (xs 5) (xs 6) (if (xs 7) = 0 then 0 else 1) (bz_or ((xs 7) = 0))) yv_M_road m_Law_88 (hm9.1) k_M.2.1 rfl rfl rfl ⟨by decide, by decide⟩ (Nat.le_of_ble_eq_true rfl) ⟨by decide, by decide⟩ d_Law_law_252 (fun r8 ad8 c8 hp8 => ?_)
  obtain ⟨hv8, hd8, he8, fs8, ht8⟩ := hp8
  refine r_show c8 [(5, .int (kF_road (xs 1) (xs 2) (xs 3) (xs 4) (xs 5) (xs 6) (if (xs 7) = 0 then 0 else 1))), (4, .int 0), (3, .ref (ad8 0)), (2, .ref (ad8 128)), (0, .ref b)] [.int r8] rfl (by rw [hd8 0 (by decide), hd8 128 (by decide)]) rfl ?_
  refine r_istore X [(6, .int r8), (5, .int (kF_road (xs 1) (xs 2) (xs 3) (xs 4) (xs 5) (xs 6) (if (xs 7) = 0 then 0 else 1))), (4, .int 0), (3, .ref (ad8 0)), (2, .ref (ad8 128)), (0, .ref b)] d_Law_law_255 (by decide) rfl ?_
  refine r_aload_n X 4 d_Law_law_257 rfl rfl ?_
  refine r_Vi X W0_good hN (As := []) (c_M_thrown l D cy ad8 c8 (kF_road (xs 1) (xs 2) (xs 3) (xs 4) (xs 5) (xs 6) (if (xs 7) = 0 then 0 else 1)) fs8 ht8) yv_M_thrown m_Law_89 ht8 k_M.2.1 rfl rfl rfl ⟨by decide, by decide⟩ (Nat.le_of_ble_eq_true rfl) ⟨by decide, by decide⟩ d_Law_law_258 (fun r7 ad7 c7 hp7 => ?_)
  obtain ⟨rfl, rfl, rfl⟩ := hp7
  refine r_iload X 1 d_Law_law_261 rfl ?_
  refine r_icmp_eq X 268 d_Law_law_263 (by decide) (fun _ => ?_) (fun h9 => absurd rfl h9)
  refine r_iload X 1 d_Law_law_268 rfl ?_
  refine r_if_ne X 285 d_Law_law_270 (by decide) (fun hz0 => ?_) (fun hz0 => ?_)
  · refine r_goto X 1603 d_Law_law_285 (by decide) ?_
    refine r_lv [2, 5] [(4, .int 0), (0, .ref b)] rfl ?_
    exact law_next X hr hlk hX hbl (by decide) (by decide)
  · obtain ⟨f9, hf9, hg9⟩ := hv9 hz0
    have hq8 := hv8 hz0
    have ho8 := (he8 0 (by decide)).trans hf9
    refine r_aload_n X 3 d_Law_law_273 rfl rfl ?_
    refine r_iconst X 0 d_Law_law_274 (by decide) ?_
    refine x_lald X 7 ho8 rfl (by unfold vp_in; decide +kernel) (v := (0 : Int32).toInt64) hg9 d_Law_law_275 ?_
    refine r_iload X 0 d_Law_law_276 rfl ?_
    refine r_top (y := 0) hq8 ?_
    refine r_i2l X d_Law_law_278 ?_
    refine r_lcmp X d_Law_law_279 ?_
    refine r_top (y := 0) (lg_self _) ?_
    refine r_if_eq X 285 d_Law_law_280 (by decide) (fun _ => ?_) (fun h9 => absurd h9 (by decide))
    refine r_goto X 1603 d_Law_law_285 (by decide) ?_
    refine r_lv [2, 5] [(4, .int 0), (0, .ref b)] rfl ?_
    exact law_next X hr hlk hX hbl (by decide) (by decide)
set_option maxRecDepth 100000 in
set_option maxHeartbeats 4000000 in
theorem lc_air {p : Program} {l : Launch} {e : Env} {s : State} {m : MethodId} {below : List Frame} {meth : Method} {cd : Code} {b : Nat} {xs : Nat → Int32} {D : va_G} {cy : Nat → ClassId} {t0 : Nat} (hst9 : l.stackTraces = false) (X : rX p s m #[Value.ref b] cd b_Law_law 9 R_Law W0 D cls (TY cy) (fun q => s.heap.size ≤ q)) (hr : meth.sig.returnType = ret) (hlk : meth.locks = false) (hN : rN NW s) (hE : rE t0 (fun q => s.heap.size ≤ q) s s.heap) (hX : va_X b 8 xs s s.heap) (hbl : b < s.heap.size) {ad : Nat → Nat} {c : rC} (hC : shC 64 c = cont cy (shA 64 ad) S00 J00) {f : Nat → Int64} (hO : c 0 = some (.inl (cy 7, 1, .inr (.inl f)))) {f1 f2 : Nat → Option Nat} (hm : mC t0 f1 f2 cy ad c) : rW p l e room_1 s m #[Value.ref b] below meth cd 9 D cls (fun q => s.heap.size ≤ q) 1000 10000 (lw_Z below #[Value.ref b] s) ad c 288 [(4, .int 0), (3, .ref (ad 0)), (2, .ref (ad 128)), (1, .ref (ad 64)), (0, .ref b)] [] := by
  have h64 := (h64_of hC).trans (ct_lo (by decide))
  refine r_aload_n X 3 d_Law_law_288 rfl rfl ?_
  refine r_aload_n X 4 d_Law_law_289 rfl rfl ?_
  refine r_iload X 0 d_Law_law_290 rfl ?_
  refine r_iconst X 1 d_Law_law_292 (by decide) ?_
  refine r_iadd X d_Law_law_293 ?_
  refine r_top (y := 1) (by decide) ?_
  refine x_sld X hX hbl (Nat.not_le.mpr hbl) (v := xs 1) (by unfold vp_in; decide +kernel) (congrArg xs (by decide +kernel : (1 : Int32).toNatClampNeg = 1)) d_Law_law_294 ?_
  refine r_aload_n X 4 d_Law_law_295 rfl rfl ?_
  refine r_iload X 0 d_Law_law_296 rfl ?_
  refine r_iconst X 2 d_Law_law_298 (by decide) ?_
  refine r_iadd X d_Law_law_299 ?_
  refine r_top (y := 2) (by decide) ?_
  refine x_sld X hX hbl (Nat.not_le.mpr hbl) (v := xs 2) (by unfold vp_in; decide +kernel) (congrArg xs (by decide +kernel : (2 : Int32).toNatClampNeg = 2)) d_Law_law_300 ?_
  refine r_cut (fun u9 : Int32 => u9 = (if (xs 2) = 0 then 0 else 1)) (fun _ => c) 309 (fun _ => [(4, .int 0), (3, .ref (ad 0)), (2, .ref (ad 128)), (1, .ref (ad 64)), (0, .ref b)]) (fun u9 => [.int u9, .int (xs 1), .ref (ad 64)]) (fun J9 => ?_) (fun t_1 ht_1 => ?_)
  · refine r_if_eq X 308 d_Law_law_301 (by decide) (fun h9 => ?_) (fun h9 => ?_)
    · refine r_iconst X 0 d_Law_law_308 (by decide) ?_
      exact J9 _ (if_pos h9).symm
    · refine r_iconst X 1 d_Law_law_304 (by decide) ?_
      refine r_goto X 309 d_Law_law_305 (by decide) ?_
      exact J9 _ (if_neg h9).symm
  subst ht_1
  refine r_aload_n X 1 d_Law_law_309 rfl rfl ?_
  refine x_Sh X W0_good hN hE (w_air l hst9 D cy t0 ad c hC f hO (xs 1) (if (xs 2) = 0 then 0 else 1) (bz_or ((xs 2) = 0))) yh_air m_Law_93 rfl rfl ⟨by decide, by decide⟩ (Nat.le_of_ble_eq_true rfl) ⟨by decide, by decide⟩ d_Law_law_310 (fun r9 ad9 c9 hp9 => ?_)
  obtain ⟨hk9, hv9, ha0, hfr⟩ := hp9
  subst hk9
  have hm9 := mC_frame hm hfr
  refine r_lv [0, 1, 2, 4] [(4, .int 0), (3, .ref (ad 0)), (2, .ref (ad 128)), (0, .ref b)] rfl ?_
  refine r_show c9 [(4, .int 0), (3, .ref (ad9 0)), (2, .ref (ad9 128)), (0, .ref b)] [.int (kF_air (xs 1) (if (xs 2) = 0 then 0 else 1))] rfl (by rw [ha0, (hfr 128 (by decide)).1]) rfl ?_
  refine r_istore X [(5, .int (kF_air (xs 1) (if (xs 2) = 0 then 0 else 1))), (4, .int 0), (3, .ref (ad9 0)), (2, .ref (ad9 128)), (0, .ref b)] d_Law_law_313 (by decide) rfl ?_
  refine r_aload_n X 3 d_Law_law_315 rfl rfl ?_
  refine r_aload_n X 4 d_Law_law_316 rfl rfl ?_
  refine r_iload X 1 d_Law_law_317 rfl ?_
  refine r_iconst X 1 d_Law_law_319 (by decide) ?_
  refine r_iadd X d_Law_law_320 ?_
  refine r_top (y := 1) (by decide) ?_
  refine x_sld X hX hbl (Nat.not_le.mpr hbl) (v := xs 1) (by unfold vp_in; decide +kernel) (congrArg xs (by decide +kernel : (1 : Int32).toNatClampNeg = 1)) d_Law_law_321 ?_
  refine r_aload_n X 4 d_Law_law_322 rfl rfl ?_
  refine r_iload X 1 d_Law_law_323 rfl ?_
  refine r_iconst X 2 d_Law_law_325 (by decide) ?_
  refine r_iadd X d_Law_law_326 ?_
  refine r_top (y := 2) (by decide) ?_
  refine x_sld X hX hbl (Nat.not_le.mpr hbl) (v := xs 2) (by unfold vp_in; decide +kernel) (congrArg xs (by decide +kernel : (2 : Int32).toNatClampNeg = 2)) d_Law_law_327 ?_
  refine r_cut (fun u9 : Int32 => u9 = (if (xs 2) = 0 then 0 else 1)) (fun _ => c9) 336 (fun _ => [(5, .int (kF_air (xs 1) (if (xs 2) = 0 then 0 else 1))), (4, .int 0), (3, .ref (ad9 0)), (2, .ref (ad9 128)), (0, .ref b)]) (fun u9 => [.int u9, .int (xs 1), .ref (ad9 128)]) (fun J9 => ?_) (fun t_2 ht_2 => ?_)
  · refine r_if_eq X 335 d_Law_law_328 (by decide) (fun h9 => ?_) (fun h9 => ?_)
    · refine r_iconst X 0 d_Law_law_335 (by decide) ?_
      exact J9 _ (if_pos h9).symm
    · refine r_iconst X 1 d_Law_law_331 (by decide) ?_
      refine r_goto X 336 d_Law_law_332 (by decide) ?_
      exact J9 _ (if_neg h9).symm
  subst ht_2
  refine x_Vi X W0_good hN hE (As := [.int (xs 1), .int (if (xs 2) = 0 then 0 else 1)]) (c_M_air l D cy t0 ad9 c9 f1 f2 hm9 (xs 1) (if (xs 2) = 0 then 0 else 1) (bz_or ((xs 2) = 0))) yv_M_air m_Law_96 (hm9.1) k_M.2.1 rfl rfl rfl ⟨by decide, by decide⟩ (Nat.le_of_ble_eq_true rfl) ⟨by decide, by decide⟩ d_Law_law_336 (fun r8 ad8 c8 hp8 => ?_)
  obtain ⟨hv8, hd8, he8, fs8, ht8⟩ := hp8
  refine r_show c8 [(5, .int (kF_air (xs 1) (if (xs 2) = 0 then 0 else 1))), (4, .int 0), (3, .ref (ad8 0)), (2, .ref (ad8 128)), (0, .ref b)] [.int r8] rfl (by rw [hd8 0 (by decide), hd8 128 (by decide)]) rfl ?_
  refine r_istore X [(6, .int r8), (5, .int (kF_air (xs 1) (if (xs 2) = 0 then 0 else 1))), (4, .int 0), (3, .ref (ad8 0)), (2, .ref (ad8 128)), (0, .ref b)] d_Law_law_339 (by decide) rfl ?_
  refine r_aload_n X 4 d_Law_law_341 rfl rfl ?_
  refine r_Vi X W0_good hN (As := []) (c_M_thrown l D cy ad8 c8 (kF_air (xs 1) (if (xs 2) = 0 then 0 else 1)) fs8 ht8) yv_M_thrown m_Law_89 ht8 k_M.2.1 rfl rfl rfl ⟨by decide, by decide⟩ (Nat.le_of_ble_eq_true rfl) ⟨by decide, by decide⟩ d_Law_law_342 (fun r7 ad7 c7 hp7 => ?_)
  obtain ⟨rfl, rfl, rfl⟩ := hp7
  refine r_iload X 1 d_Law_law_345 rfl ?_
  refine r_icmp_eq X 352 d_Law_law_347 (by decide) (fun _ => ?_) (fun h9 => absurd rfl h9)
  refine r_iload X 1 d_Law_law_352 rfl ?_
  refine r_if_ne X 369 d_Law_law_354 (by decide) (fun hz0 => ?_) (fun hz0 => ?_)
  · refine r_goto X 1603 d_Law_law_369 (by decide) ?_
    refine r_lv [2, 5] [(4, .int 0), (0, .ref b)] rfl ?_
    exact law_next X hr hlk hX hbl (by decide) (by decide)
  · obtain ⟨f9, hf9, hg9⟩ := hv9 hz0
    have hq8 := hv8 hz0
    have ho8 := (he8 0 (by decide)).trans hf9
    refine r_aload_n X 3 d_Law_law_357 rfl rfl ?_
    refine r_iconst X 0 d_Law_law_358 (by decide) ?_
    refine x_lald X 7 ho8 rfl (by unfold vp_in; decide +kernel) (v := (5 : Int32).toInt64) hg9 d_Law_law_359 ?_
    refine r_iload X 0 d_Law_law_360 rfl ?_
    refine r_top (y := 5) hq8 ?_
    refine r_i2l X d_Law_law_362 ?_
    refine r_lcmp X d_Law_law_363 ?_
    refine r_top (y := 0) (lg_self _) ?_
    refine r_if_eq X 369 d_Law_law_364 (by decide) (fun _ => ?_) (fun h9 => absurd h9 (by decide))
    refine r_goto X 1603 d_Law_law_369 (by decide) ?_
    refine r_lv [2, 5] [(4, .int 0), (0, .ref b)] rfl ?_
    exact law_next X hr hlk hX hbl (by decide) (by decide)
set_option maxRecDepth 100000 in
set_option maxHeartbeats 4000000 in
theorem lc_fall {p : Program} {l : Launch} {e : Env} {s : State} {m : MethodId} {below : List Frame} {meth : Method} {cd : Code} {b : Nat} {xs : Nat → Int32} {D : va_G} {cy : Nat → ClassId} {t0 : Nat} (hst9 : l.stackTraces = false) (X : rX p s m #[Value.ref b] cd b_Law_law 9 R_Law W0 D cls (TY cy) (fun q => s.heap.size ≤ q)) (hr : meth.sig.returnType = ret) (hlk : meth.locks = false) (hN : rN NW s) (hE : rE t0 (fun q => s.heap.size ≤ q) s s.heap) (hX : va_X b 8 xs s s.heap) (hbl : b < s.heap.size) {ad : Nat → Nat} {c : rC} (hC : shC 64 c = cont cy (shA 64 ad) S00 J00) {f : Nat → Int64} (hO : c 0 = some (.inl (cy 7, 1, .inr (.inl f)))) {f1 f2 : Nat → Option Nat} (hm : mC t0 f1 f2 cy ad c) : rW p l e room_1 s m #[Value.ref b] below meth cd 9 D cls (fun q => s.heap.size ≤ q) 1000 10000 (lw_Z below #[Value.ref b] s) ad c 372 [(4, .int 0), (3, .ref (ad 0)), (2, .ref (ad 128)), (1, .ref (ad 64)), (0, .ref b)] [] := by
  have h64 := (h64_of hC).trans (ct_lo (by decide))
  refine r_aload_n X 3 d_Law_law_372 rfl rfl ?_
  refine r_aload_n X 4 d_Law_law_373 rfl rfl ?_
  refine r_iload X 0 d_Law_law_374 rfl ?_
  refine r_iconst X 1 d_Law_law_376 (by decide) ?_
  refine r_iadd X d_Law_law_377 ?_
  refine r_top (y := 1) (by decide) ?_
  refine x_sld X hX hbl (Nat.not_le.mpr hbl) (v := xs 1) (by unfold vp_in; decide +kernel) (congrArg xs (by decide +kernel : (1 : Int32).toNatClampNeg = 1)) d_Law_law_378 ?_
  refine r_aload_n X 4 d_Law_law_379 rfl rfl ?_
  refine r_iload X 0 d_Law_law_380 rfl ?_
  refine r_iconst X 2 d_Law_law_382 (by decide) ?_
  refine r_iadd X d_Law_law_383 ?_
  refine r_top (y := 2) (by decide) ?_
  refine x_sld X hX hbl (Nat.not_le.mpr hbl) (v := xs 2) (by unfold vp_in; decide +kernel) (congrArg xs (by decide +kernel : (2 : Int32).toNatClampNeg = 2)) d_Law_law_384 ?_
  refine r_aload_n X 4 d_Law_law_385 rfl rfl ?_
  refine r_iload X 0 d_Law_law_386 rfl ?_
  refine r_iconst X 3 d_Law_law_388 (by decide) ?_
  refine r_iadd X d_Law_law_389 ?_
  refine r_top (y := 3) (by decide) ?_
  refine x_sld X hX hbl (Nat.not_le.mpr hbl) (v := xs 3) (by unfold vp_in; decide +kernel) (congrArg xs (by decide +kernel : (3 : Int32).toNatClampNeg = 3)) d_Law_law_390 ?_
  refine r_aload_n X 1 d_Law_law_391 rfl rfl ?_
  refine x_Sh X W0_good hN hE (w_fall l hst9 D cy t0 ad c hC f hO (xs 1) (xs 2) (xs 3)) yh_fall m_Law_97 rfl rfl ⟨by decide, by decide⟩ (Nat.le_of_ble_eq_true rfl) ⟨by decide, by decide⟩ d_Law_law_392 (fun r9 ad9 c9 hp9 => ?_)
  obtain ⟨hk9, hv9, ha0, hfr⟩ := hp9
  subst hk9
  have hm9 := mC_frame hm hfr
  refine r_lv [0, 1, 2, 4] [(4, .int 0), (3, .ref (ad 0)), (2, .ref (ad 128)), (0, .ref b)] rfl ?_
  refine r_show c9 [(4, .int 0), (3, .ref (ad9 0)), (2, .ref (ad9 128)), (0, .ref b)] [.int (kF_fall (xs 1) (xs 2) (xs 3))] rfl (by rw [ha0, (hfr 128 (by decide)).1]) rfl ?_
  refine r_istore X [(5, .int (kF_fall (xs 1) (xs 2) (xs 3))), (4, .int 0), (3, .ref (ad9 0)), (2, .ref (ad9 128)), (0, .ref b)] d_Law_law_395 (by decide) rfl ?_
  refine r_aload_n X 3 d_Law_law_397 rfl rfl ?_
  refine r_aload_n X 4 d_Law_law_398 rfl rfl ?_
  refine r_iload X 1 d_Law_law_399 rfl ?_
  refine r_iconst X 1 d_Law_law_401 (by decide) ?_
  refine r_iadd X d_Law_law_402 ?_
  refine r_top (y := 1) (by decide) ?_
  refine x_sld X hX hbl (Nat.not_le.mpr hbl) (v := xs 1) (by unfold vp_in; decide +kernel) (congrArg xs (by decide +kernel : (1 : Int32).toNatClampNeg = 1)) d_Law_law_403 ?_
  refine r_aload_n X 4 d_Law_law_404 rfl rfl ?_
  refine r_iload X 1 d_Law_law_405 rfl ?_
  refine r_iconst X 2 d_Law_law_407 (by decide) ?_
  refine r_iadd X d_Law_law_408 ?_
  refine r_top (y := 2) (by decide) ?_
  refine x_sld X hX hbl (Nat.not_le.mpr hbl) (v := xs 2) (by unfold vp_in; decide +kernel) (congrArg xs (by decide +kernel : (2 : Int32).toNatClampNeg = 2)) d_Law_law_409 ?_
  refine r_aload_n X 4 d_Law_law_410 rfl rfl ?_
  refine r_iload X 1 d_Law_law_411 rfl ?_
  refine r_iconst X 3 d_Law_law_413 (by decide) ?_
  refine r_iadd X d_Law_law_414 ?_
  refine r_top (y := 3) (by decide) ?_
  refine x_sld X hX hbl (Nat.not_le.mpr hbl) (v := xs 3) (by unfold vp_in; decide +kernel) (congrArg xs (by decide +kernel : (3 : Int32).toNatClampNeg = 3)) d_Law_law_415 ?_
  refine x_Vi X W0_good hN hE (As := [.int (xs 1), .int (xs 2), .int (xs 3)]) (c_M_fall l D cy t0 ad9 c9 f1 f2 hm9 (xs 1) (xs 2) (xs 3)) yv_M_fall m_Law_100 (hm9.1) k_M.2.1 rfl rfl rfl ⟨by decide, by decide⟩ (Nat.le_of_ble_eq_true rfl) ⟨by decide, by decide⟩ d_Law_law_416 (fun r8 ad8 c8 hp8 => ?_)
  obtain ⟨hv8, hd8, he8, fs8, ht8⟩ := hp8
  refine r_show c8 [(5, .int (kF_fall (xs 1) (xs 2) (xs 3))), (4, .int 0), (3, .ref (ad8 0)), (2, .ref (ad8 128)), (0, .ref b)] [.int r8] rfl (by rw [hd8 0 (by decide), hd8 128 (by decide)]) rfl ?_
  refine r_istore X [(6, .int r8), (5, .int (kF_fall (xs 1) (xs 2) (xs 3))), (4, .int 0), (3, .ref (ad8 0)), (2, .ref (ad8 128)), (0, .ref b)] d_Law_law_419 (by decide) rfl ?_
  refine r_aload_n X 4 d_Law_law_421 rfl rfl ?_
  refine r_Vi X W0_good hN (As := []) (c_M_thrown l D cy ad8 c8 (kF_fall (xs 1) (xs 2) (xs 3)) fs8 ht8) yv_M_thrown m_Law_89 ht8 k_M.2.1 rfl rfl rfl ⟨by decide, by decide⟩ (Nat.le_of_ble_eq_true rfl) ⟨by decide, by decide⟩ d_Law_law_422 (fun r7 ad7 c7 hp7 => ?_)
  obtain ⟨rfl, rfl, rfl⟩ := hp7
  refine r_iload X 1 d_Law_law_425 rfl ?_
  refine r_icmp_eq X 432 d_Law_law_427 (by decide) (fun _ => ?_) (fun h9 => absurd rfl h9)
  refine r_iload X 1 d_Law_law_432 rfl ?_
  refine r_if_ne X 449 d_Law_law_434 (by decide) (fun hz0 => ?_) (fun hz0 => ?_)
  · refine r_goto X 1603 d_Law_law_449 (by decide) ?_
    refine r_lv [2, 5] [(4, .int 0), (0, .ref b)] rfl ?_
    exact law_next X hr hlk hX hbl (by decide) (by decide)
  · obtain ⟨f9, hf9, hg9⟩ := hv9 hz0
    have hq8 := hv8 hz0
    have ho8 := (he8 0 (by decide)).trans hf9
    refine r_aload_n X 3 d_Law_law_437 rfl rfl ?_
    refine r_iconst X 0 d_Law_law_438 (by decide) ?_
    refine x_lald X 7 ho8 rfl (by unfold vp_in; decide +kernel) (v := (0 : Int32).toInt64) hg9 d_Law_law_439 ?_
    refine r_iload X 0 d_Law_law_440 rfl ?_
    refine r_top (y := 0) hq8 ?_
    refine r_i2l X d_Law_law_442 ?_
    refine r_lcmp X d_Law_law_443 ?_
    refine r_top (y := 0) (lg_self _) ?_
    refine r_if_eq X 449 d_Law_law_444 (by decide) (fun _ => ?_) (fun h9 => absurd h9 (by decide))
    refine r_goto X 1603 d_Law_law_449 (by decide) ?_
    refine r_lv [2, 5] [(4, .int 0), (0, .ref b)] rfl ?_
    exact law_next X hr hlk hX hbl (by decide) (by decide)
set_option maxRecDepth 100000 in
set_option maxHeartbeats 4000000 in
theorem lc_forecast {p : Program} {l : Launch} {e : Env} {s : State} {m : MethodId} {below : List Frame} {meth : Method} {cd : Code} {b : Nat} {xs : Nat → Int32} {D : va_G} {cy : Nat → ClassId} {t0 : Nat} (hst9 : l.stackTraces = false) (X : rX p s m #[Value.ref b] cd b_Law_law 9 R_Law W0 D cls (TY cy) (fun q => s.heap.size ≤ q)) (hr : meth.sig.returnType = ret) (hlk : meth.locks = false) (hN : rN NW s) (hE : rE t0 (fun q => s.heap.size ≤ q) s s.heap) (hX : va_X b 8 xs s s.heap) (hbl : b < s.heap.size) {ad : Nat → Nat} {c : rC} (hC : shC 64 c = cont cy (shA 64 ad) S00 J00) {f : Nat → Int64} (hO : c 0 = some (.inl (cy 7, 1, .inr (.inl f)))) {f1 f2 : Nat → Option Nat} (hm : mC t0 f1 f2 cy ad c) : rW p l e room_1 s m #[Value.ref b] below meth cd 9 D cls (fun q => s.heap.size ≤ q) 1000 10000 (lw_Z below #[Value.ref b] s) ad c 452 [(4, .int 0), (3, .ref (ad 0)), (2, .ref (ad 128)), (1, .ref (ad 64)), (0, .ref b)] [] := by
  have h64 := (h64_of hC).trans (ct_lo (by decide))
  refine r_aload_n X 3 d_Law_law_452 rfl rfl ?_
  refine r_aload_n X 4 d_Law_law_453 rfl rfl ?_
  refine r_iload X 0 d_Law_law_454 rfl ?_
  refine r_iconst X 1 d_Law_law_456 (by decide) ?_
  refine r_iadd X d_Law_law_457 ?_
  refine r_top (y := 1) (by decide) ?_
  refine x_sld X hX hbl (Nat.not_le.mpr hbl) (v := xs 1) (by unfold vp_in; decide +kernel) (congrArg xs (by decide +kernel : (1 : Int32).toNatClampNeg = 1)) d_Law_law_458 ?_
  refine r_aload_n X 4 d_Law_law_459 rfl rfl ?_
  refine r_iload X 0 d_Law_law_460 rfl ?_
  refine r_iconst X 2 d_Law_law_462 (by decide) ?_
  refine r_iadd X d_Law_law_463 ?_
  refine r_top (y := 2) (by decide) ?_
  refine x_sld X hX hbl (Nat.not_le.mpr hbl) (v := xs 2) (by unfold vp_in; decide +kernel) (congrArg xs (by decide +kernel : (2 : Int32).toNatClampNeg = 2)) d_Law_law_464 ?_
  refine r_aload_n X 4 d_Law_law_465 rfl rfl ?_
  refine r_iload X 0 d_Law_law_466 rfl ?_
  refine r_iconst X 3 d_Law_law_468 (by decide) ?_
  refine r_iadd X d_Law_law_469 ?_
  refine r_top (y := 3) (by decide) ?_
  refine x_sld X hX hbl (Nat.not_le.mpr hbl) (v := xs 3) (by unfold vp_in; decide +kernel) (congrArg xs (by decide +kernel : (3 : Int32).toNatClampNeg = 3)) d_Law_law_470 ?_
  refine r_aload_n X 4 d_Law_law_471 rfl rfl ?_
  refine r_iload X 0 d_Law_law_472 rfl ?_
  refine r_iconst X 4 d_Law_law_474 (by decide) ?_
  refine r_iadd X d_Law_law_475 ?_
  refine r_top (y := 4) (by decide) ?_
  refine x_sld X hX hbl (Nat.not_le.mpr hbl) (v := xs 4) (by unfold vp_in; decide +kernel) (congrArg xs (by decide +kernel : (4 : Int32).toNatClampNeg = 4)) d_Law_law_476 ?_
  refine r_aload_n X 4 d_Law_law_477 rfl rfl ?_
  refine r_iload X 0 d_Law_law_478 rfl ?_
  refine r_iconst X 5 d_Law_law_480 (by decide) ?_
  refine r_iadd X d_Law_law_481 ?_
  refine r_top (y := 5) (by decide) ?_
  refine x_sld X hX hbl (Nat.not_le.mpr hbl) (v := xs 5) (by unfold vp_in; decide +kernel) (congrArg xs (by decide +kernel : (5 : Int32).toNatClampNeg = 5)) d_Law_law_482 ?_
  refine r_cut (fun u9 : Int32 => u9 = (if (xs 5) = 0 then 0 else 1)) (fun _ => c) 491 (fun _ => [(4, .int 0), (3, .ref (ad 0)), (2, .ref (ad 128)), (1, .ref (ad 64)), (0, .ref b)]) (fun u9 => [.int u9, .int (xs 4), .int (xs 3), .int (xs 2), .int (xs 1), .ref (ad 64)]) (fun J9 => ?_) (fun t_1 ht_1 => ?_)
  · refine r_if_eq X 490 d_Law_law_483 (by decide) (fun h9 => ?_) (fun h9 => ?_)
    · refine r_iconst X 0 d_Law_law_490 (by decide) ?_
      exact J9 _ (if_pos h9).symm
    · refine r_iconst X 1 d_Law_law_486 (by decide) ?_
      refine r_goto X 491 d_Law_law_487 (by decide) ?_
      exact J9 _ (if_neg h9).symm
  subst ht_1
  refine r_aload_n X 1 d_Law_law_491 rfl rfl ?_
  refine x_Sh X W0_good hN hE (w_forecast l hst9 D cy t0 ad c hC f hO (xs 1) (xs 2) (xs 3) (xs 4) (if (xs 5) = 0 then 0 else 1) (bz_or ((xs 5) = 0))) yh_forecast m_Law_101 rfl rfl ⟨by decide, by decide⟩ (Nat.le_of_ble_eq_true rfl) ⟨by decide, by decide⟩ d_Law_law_492 (fun r9 ad9 c9 hp9 => ?_)
  obtain ⟨hk9, hv9, ha0, hfr⟩ := hp9
  subst hk9
  have hm9 := mC_frame hm hfr
  refine r_lv [0, 1, 2, 4] [(4, .int 0), (3, .ref (ad 0)), (2, .ref (ad 128)), (0, .ref b)] rfl ?_
  refine r_show c9 [(4, .int 0), (3, .ref (ad9 0)), (2, .ref (ad9 128)), (0, .ref b)] [.int (kF_forecast (xs 1) (xs 2) (xs 3) (xs 4) (if (xs 5) = 0 then 0 else 1))] rfl (by rw [ha0, (hfr 128 (by decide)).1]) rfl ?_
  refine r_istore X [(5, .int (kF_forecast (xs 1) (xs 2) (xs 3) (xs 4) (if (xs 5) = 0 then 0 else 1))), (4, .int 0), (3, .ref (ad9 0)), (2, .ref (ad9 128)), (0, .ref b)] d_Law_law_495 (by decide) rfl ?_
  refine r_aload_n X 3 d_Law_law_497 rfl rfl ?_
  refine r_aload_n X 4 d_Law_law_498 rfl rfl ?_
  refine r_iload X 1 d_Law_law_499 rfl ?_
  refine r_iconst X 1 d_Law_law_501 (by decide) ?_
  refine r_iadd X d_Law_law_502 ?_
  refine r_top (y := 1) (by decide) ?_
  refine x_sld X hX hbl (Nat.not_le.mpr hbl) (v := xs 1) (by unfold vp_in; decide +kernel) (congrArg xs (by decide +kernel : (1 : Int32).toNatClampNeg = 1)) d_Law_law_503 ?_
  refine r_aload_n X 4 d_Law_law_504 rfl rfl ?_
  refine r_iload X 1 d_Law_law_505 rfl ?_
  refine r_iconst X 2 d_Law_law_507 (by decide) ?_
  refine r_iadd X d_Law_law_508 ?_
  refine r_top (y := 2) (by decide) ?_
  refine x_sld X hX hbl (Nat.not_le.mpr hbl) (v := xs 2) (by unfold vp_in; decide +kernel) (congrArg xs (by decide +kernel : (2 : Int32).toNatClampNeg = 2)) d_Law_law_509 ?_
  refine r_aload_n X 4 d_Law_law_510 rfl rfl ?_
  refine r_iload X 1 d_Law_law_511 rfl ?_
  refine r_iconst X 3 d_Law_law_513 (by decide) ?_
  refine r_iadd X d_Law_law_514 ?_
  refine r_top (y := 3) (by decide) ?_
  refine x_sld X hX hbl (Nat.not_le.mpr hbl) (v := xs 3) (by unfold vp_in; decide +kernel) (congrArg xs (by decide +kernel : (3 : Int32).toNatClampNeg = 3)) d_Law_law_515 ?_
  refine r_aload_n X 4 d_Law_law_516 rfl rfl ?_
  refine r_iload X 1 d_Law_law_517 rfl ?_
  refine r_iconst X 4 d_Law_law_519 (by decide) ?_
  refine r_iadd X d_Law_law_520 ?_
  refine r_top (y := 4) (by decide) ?_
  refine x_sld X hX hbl (Nat.not_le.mpr hbl) (v := xs 4) (by unfold vp_in; decide +kernel) (congrArg xs (by decide +kernel : (4 : Int32).toNatClampNeg = 4)) d_Law_law_521 ?_
  refine r_aload_n X 4 d_Law_law_522 rfl rfl ?_
  refine r_iload X 1 d_Law_law_523 rfl ?_
  refine r_iconst X 5 d_Law_law_525 (by decide) ?_
  refine r_iadd X d_Law_law_526 ?_
  refine r_top (y := 5) (by decide) ?_
  refine x_sld X hX hbl (Nat.not_le.mpr hbl) (v := xs 5) (by unfold vp_in; decide +kernel) (congrArg xs (by decide +kernel : (5 : Int32).toNatClampNeg = 5)) d_Law_law_527 ?_
  refine r_cut (fun u9 : Int32 => u9 = (if (xs 5) = 0 then 0 else 1)) (fun _ => c9) 536 (fun _ => [(5, .int (kF_forecast (xs 1) (xs 2) (xs 3) (xs 4) (if (xs 5) = 0 then 0 else 1))), (4, .int 0), (3, .ref (ad9 0)), (2, .ref (ad9 128)), (0, .ref b)]) (fun u9 => [.int u9, .int (xs 4), .int (xs 3), .int (xs 2), .int (xs 1), .ref (ad9 128)]) (fun J9 => ?_) (fun t_2 ht_2 => ?_)
  · refine r_if_eq X 535 d_Law_law_528 (by decide) (fun h9 => ?_) (fun h9 => ?_)
    · refine r_iconst X 0 d_Law_law_535 (by decide) ?_
      exact J9 _ (if_pos h9).symm
    · refine r_iconst X 1 d_Law_law_531 (by decide) ?_
      refine r_goto X 536 d_Law_law_532 (by decide) ?_
      exact J9 _ (if_neg h9).symm
  subst ht_2
  refine x_Vi X W0_good hN hE (As := [.int (xs 1), .int (xs 2), .int (xs 3), .int (xs 4), .int (if (xs 5) = 0 then 0 else 1)]) (c_M_forecast l D cy t0 ad9 c9 f1 f2 hm9 (xs 1) (xs 2) (xs 3) (xs 4) (if (xs 5) = 0 then 0 else 1) (bz_or ((xs 5) = 0))) yv_M_forecast m_Law_104 (hm9.1) k_M.2.1 rfl rfl rfl ⟨by decide, by decide⟩ (Nat.le_of_ble_eq_true rfl) ⟨by decide, by decide⟩ d_Law_law_536 (fun r8 ad8 c8 hp8 => ?_)
  obtain ⟨hv8, hd8, he8, fs8, ht8⟩ := hp8
  refine r_show c8 [(5, .int (kF_forecast (xs 1) (xs 2) (xs 3) (xs 4) (if (xs 5) = 0 then 0 else 1))), (4, .int 0), (3, .ref (ad8 0)), (2, .ref (ad8 128)), (0, .ref b)] [.int r8] rfl (by rw [hd8 0 (by decide), hd8 128 (by decide)]) rfl ?_
  refine r_istore X [(6, .int r8), (5, .int (kF_forecast (xs 1) (xs 2) (xs 3) (xs 4) (if (xs 5) = 0 then 0 else 1))), (4, .int 0), (3, .ref (ad8 0)), (2, .ref (ad8 128)), (0, .ref b)] d_Law_law_539 (by decide) rfl ?_
  refine r_aload_n X 4 d_Law_law_541 rfl rfl ?_
  refine r_Vi X W0_good hN (As := []) (c_M_thrown l D cy ad8 c8 (kF_forecast (xs 1) (xs 2) (xs 3) (xs 4) (if (xs 5) = 0 then 0 else 1)) fs8 ht8) yv_M_thrown m_Law_89 ht8 k_M.2.1 rfl rfl rfl ⟨by decide, by decide⟩ (Nat.le_of_ble_eq_true rfl) ⟨by decide, by decide⟩ d_Law_law_542 (fun r7 ad7 c7 hp7 => ?_)
  obtain ⟨rfl, rfl, rfl⟩ := hp7
  refine r_iload X 1 d_Law_law_545 rfl ?_
  refine r_icmp_eq X 552 d_Law_law_547 (by decide) (fun _ => ?_) (fun h9 => absurd rfl h9)
  refine r_iload X 1 d_Law_law_552 rfl ?_
  refine r_if_ne X 569 d_Law_law_554 (by decide) (fun hz0 => ?_) (fun hz0 => ?_)
  · refine r_goto X 1603 d_Law_law_569 (by decide) ?_
    refine r_lv [2, 5] [(4, .int 0), (0, .ref b)] rfl ?_
    exact law_next X hr hlk hX hbl (by decide) (by decide)
  · obtain ⟨f9, hf9, hg9⟩ := hv9 hz0
    have hq8 := hv8 hz0
    have ho8 := (he8 0 (by decide)).trans hf9
    refine r_aload_n X 3 d_Law_law_557 rfl rfl ?_
    refine r_iconst X 0 d_Law_law_558 (by decide) ?_
    refine x_lald X 7 ho8 rfl (by unfold vp_in; decide +kernel) (v := (0 : Int32).toInt64) hg9 d_Law_law_559 ?_
    refine r_iload X 0 d_Law_law_560 rfl ?_
    refine r_top (y := 0) hq8 ?_
    refine r_i2l X d_Law_law_562 ?_
    refine r_lcmp X d_Law_law_563 ?_
    refine r_top (y := 0) (lg_self _) ?_
    refine r_if_eq X 569 d_Law_law_564 (by decide) (fun _ => ?_) (fun h9 => absurd h9 (by decide))
    refine r_goto X 1603 d_Law_law_569 (by decide) ?_
    refine r_lv [2, 5] [(4, .int 0), (0, .ref b)] rfl ?_
    exact law_next X hr hlk hX hbl (by decide) (by decide)
set_option maxRecDepth 100000 in
set_option maxHeartbeats 4000000 in
theorem lc_pass {p : Program} {l : Launch} {e : Env} {s : State} {m : MethodId} {below : List Frame} {meth : Method} {cd : Code} {b : Nat} {xs : Nat → Int32} {D : va_G} {cy : Nat → ClassId} {t0 : Nat} (hst9 : l.stackTraces = false) (X : rX p s m #[Value.ref b] cd b_Law_law 9 R_Law W0 D cls (TY cy) (fun q => s.heap.size ≤ q)) (hr : meth.sig.returnType = ret) (hlk : meth.locks = false) (hN : rN NW s) (hE : rE t0 (fun q => s.heap.size ≤ q) s s.heap) (hX : va_X b 8 xs s s.heap) (hbl : b < s.heap.size) {ad : Nat → Nat} {c : rC} (hC : shC 64 c = cont cy (shA 64 ad) S00 J00) {f : Nat → Int64} (hO : c 0 = some (.inl (cy 7, 1, .inr (.inl f)))) {f1 f2 : Nat → Option Nat} (hm : mC t0 f1 f2 cy ad c) : rW p l e room_1 s m #[Value.ref b] below meth cd 9 D cls (fun q => s.heap.size ≤ q) 1000 10000 (lw_Z below #[Value.ref b] s) ad c 572 [(4, .int 0), (3, .ref (ad 0)), (2, .ref (ad 128)), (1, .ref (ad 64)), (0, .ref b)] [] := by
  have h64 := (h64_of hC).trans (ct_lo (by decide))
  refine r_aload_n X 3 d_Law_law_572 rfl rfl ?_
  refine r_aload_n X 4 d_Law_law_573 rfl rfl ?_
  refine r_iload X 0 d_Law_law_574 rfl ?_
  refine r_iconst X 1 d_Law_law_576 (by decide) ?_
  refine r_iadd X d_Law_law_577 ?_
  refine r_top (y := 1) (by decide) ?_
  refine x_sld X hX hbl (Nat.not_le.mpr hbl) (v := xs 1) (by unfold vp_in; decide +kernel) (congrArg xs (by decide +kernel : (1 : Int32).toNatClampNeg = 1)) d_Law_law_578 ?_
  refine r_aload_n X 1 d_Law_law_579 rfl rfl ?_
  refine x_Sh X W0_good hN hE (w_pass l hst9 D cy t0 ad c hC f hO (xs 1)) yh_pass m_Law_105 rfl rfl ⟨by decide, by decide⟩ (Nat.le_of_ble_eq_true rfl) ⟨by decide, by decide⟩ d_Law_law_580 (fun r9 ad9 c9 hp9 => ?_)
  obtain ⟨hk9, hv9, ha0, hfr⟩ := hp9
  subst hk9
  have hm9 := mC_frame hm hfr
  refine r_lv [0, 1, 2, 4] [(4, .int 0), (3, .ref (ad 0)), (2, .ref (ad 128)), (0, .ref b)] rfl ?_
  refine r_show c9 [(4, .int 0), (3, .ref (ad9 0)), (2, .ref (ad9 128)), (0, .ref b)] [.int (kF_pass (xs 1))] rfl (by rw [ha0, (hfr 128 (by decide)).1]) rfl ?_
  refine r_istore X [(5, .int (kF_pass (xs 1))), (4, .int 0), (3, .ref (ad9 0)), (2, .ref (ad9 128)), (0, .ref b)] d_Law_law_583 (by decide) rfl ?_
  refine r_aload_n X 3 d_Law_law_585 rfl rfl ?_
  refine r_aload_n X 4 d_Law_law_586 rfl rfl ?_
  refine r_iload X 1 d_Law_law_587 rfl ?_
  refine r_iconst X 1 d_Law_law_589 (by decide) ?_
  refine r_iadd X d_Law_law_590 ?_
  refine r_top (y := 1) (by decide) ?_
  refine x_sld X hX hbl (Nat.not_le.mpr hbl) (v := xs 1) (by unfold vp_in; decide +kernel) (congrArg xs (by decide +kernel : (1 : Int32).toNatClampNeg = 1)) d_Law_law_591 ?_
  refine x_Vi X W0_good hN hE (As := [.int (xs 1)]) (c_M_pass l D cy t0 ad9 c9 f1 f2 hm9 (xs 1)) yv_M_pass m_Law_108 (hm9.1) k_M.2.1 rfl rfl rfl ⟨by decide, by decide⟩ (Nat.le_of_ble_eq_true rfl) ⟨by decide, by decide⟩ d_Law_law_592 (fun r8 ad8 c8 hp8 => ?_)
  obtain ⟨hv8, hd8, he8, fs8, ht8⟩ := hp8
  refine r_show c8 [(5, .int (kF_pass (xs 1))), (4, .int 0), (3, .ref (ad8 0)), (2, .ref (ad8 128)), (0, .ref b)] [.int r8] rfl (by rw [hd8 0 (by decide), hd8 128 (by decide)]) rfl ?_
  refine r_istore X [(6, .int r8), (5, .int (kF_pass (xs 1))), (4, .int 0), (3, .ref (ad8 0)), (2, .ref (ad8 128)), (0, .ref b)] d_Law_law_595 (by decide) rfl ?_
  refine r_aload_n X 4 d_Law_law_597 rfl rfl ?_
  refine r_Vi X W0_good hN (As := []) (c_M_thrown l D cy ad8 c8 (kF_pass (xs 1)) fs8 ht8) yv_M_thrown m_Law_89 ht8 k_M.2.1 rfl rfl rfl ⟨by decide, by decide⟩ (Nat.le_of_ble_eq_true rfl) ⟨by decide, by decide⟩ d_Law_law_598 (fun r7 ad7 c7 hp7 => ?_)
  obtain ⟨rfl, rfl, rfl⟩ := hp7
  refine r_iload X 1 d_Law_law_601 rfl ?_
  refine r_icmp_eq X 608 d_Law_law_603 (by decide) (fun _ => ?_) (fun h9 => absurd rfl h9)
  refine r_iload X 1 d_Law_law_608 rfl ?_
  refine r_if_ne X 625 d_Law_law_610 (by decide) (fun hz0 => ?_) (fun hz0 => ?_)
  · refine r_goto X 1603 d_Law_law_625 (by decide) ?_
    refine r_lv [2, 5] [(4, .int 0), (0, .ref b)] rfl ?_
    exact law_next X hr hlk hX hbl (by decide) (by decide)
  · obtain ⟨f9, hf9, hg9⟩ := hv9 hz0
    have hq8 := hv8 hz0
    have ho8 := (he8 0 (by decide)).trans hf9
    refine r_aload_n X 3 d_Law_law_613 rfl rfl ?_
    refine r_iconst X 0 d_Law_law_614 (by decide) ?_
    refine x_lald X 7 ho8 rfl (by unfold vp_in; decide +kernel) (v := (0 : Int32).toInt64) hg9 d_Law_law_615 ?_
    refine r_iload X 0 d_Law_law_616 rfl ?_
    refine r_top (y := 0) hq8 ?_
    refine r_i2l X d_Law_law_618 ?_
    refine r_lcmp X d_Law_law_619 ?_
    refine r_top (y := 0) (lg_self _) ?_
    refine r_if_eq X 625 d_Law_law_620 (by decide) (fun _ => ?_) (fun h9 => absurd h9 (by decide))
    refine r_goto X 1603 d_Law_law_625 (by decide) ?_
    refine r_lv [2, 5] [(4, .int 0), (0, .ref b)] rfl ?_
    exact law_next X hr hlk hX hbl (by decide) (by decide)
set_option maxRecDepth 100000 in
set_option maxHeartbeats 4000000 in
theorem lc_lorry {p : Program} {l : Launch} {e : Env} {s : State} {m : MethodId} {below : List Frame} {meth : Method} {cd : Code} {b : Nat} {xs : Nat → Int32} {D : va_G} {cy : Nat → ClassId} {t0 : Nat} (hst9 : l.stackTraces = false) (X : rX p s m #[Value.ref b] cd b_Law_law 9 R_Law W0 D cls (TY cy) (fun q => s.heap.size ≤ q)) (hr : meth.sig.returnType = ret) (hlk : meth.locks = false) (hN : rN NW s) (hE : rE t0 (fun q => s.heap.size ≤ q) s s.heap) (hX : va_X b 8 xs s s.heap) (hbl : b < s.heap.size) {ad : Nat → Nat} {c : rC} (hC : shC 64 c = cont cy (shA 64 ad) S00 J00) {f : Nat → Int64} (hO : c 0 = some (.inl (cy 7, 1, .inr (.inl f)))) {f1 f2 : Nat → Option Nat} (hm : mC t0 f1 f2 cy ad c) : rW p l e room_1 s m #[Value.ref b] below meth cd 9 D cls (fun q => s.heap.size ≤ q) 1000 10000 (lw_Z below #[Value.ref b] s) ad c 628 [(4, .int 0), (3, .ref (ad 0)), (2, .ref (ad 128)), (1, .ref (ad 64)), (0, .ref b)] [] := by
  have h64 := (h64_of hC).trans (ct_lo (by decide))
  refine r_aload_n X 3 d_Law_law_628 rfl rfl ?_
  refine r_aload_n X 4 d_Law_law_629 rfl rfl ?_
  refine r_iload X 0 d_Law_law_630 rfl ?_
  refine r_iconst X 1 d_Law_law_632 (by decide) ?_
  refine r_iadd X d_Law_law_633 ?_
  refine r_top (y := 1) (by decide) ?_
  refine x_sld X hX hbl (Nat.not_le.mpr hbl) (v := xs 1) (by unfold vp_in; decide +kernel) (congrArg xs (by decide +kernel : (1 : Int32).toNatClampNeg = 1)) d_Law_law_634 ?_
  refine r_cut (fun u9 : Int32 => u9 = (if (xs 1) = 0 then 0 else 1)) (fun _ => c) 643 (fun _ => [(4, .int 0), (3, .ref (ad 0)), (2, .ref (ad 128)), (1, .ref (ad 64)), (0, .ref b)]) (fun u9 => [.int u9, .ref (ad 64)]) (fun J9 => ?_) (fun t_1 ht_1 => ?_)
  · refine r_if_eq X 642 d_Law_law_635 (by decide) (fun h9 => ?_) (fun h9 => ?_)
    · refine r_iconst X 0 d_Law_law_642 (by decide) ?_
      exact J9 _ (if_pos h9).symm
    · refine r_iconst X 1 d_Law_law_638 (by decide) ?_
      refine r_goto X 643 d_Law_law_639 (by decide) ?_
      exact J9 _ (if_neg h9).symm
  subst ht_1
  refine r_aload_n X 1 d_Law_law_643 rfl rfl ?_
  refine x_Sh X W0_good hN hE (w_lorry l hst9 D cy t0 ad c hC f hO (if (xs 1) = 0 then 0 else 1) (bz_or ((xs 1) = 0))) yh_lorry m_Law_109 rfl rfl ⟨by decide, by decide⟩ (Nat.le_of_ble_eq_true rfl) ⟨by decide, by decide⟩ d_Law_law_644 (fun r9 ad9 c9 hp9 => ?_)
  obtain ⟨hk9, hv9, ha0, hfr⟩ := hp9
  subst hk9
  have hm9 := mC_frame hm hfr
  refine r_lv [0, 1, 2, 4] [(4, .int 0), (3, .ref (ad 0)), (2, .ref (ad 128)), (0, .ref b)] rfl ?_
  refine r_show c9 [(4, .int 0), (3, .ref (ad9 0)), (2, .ref (ad9 128)), (0, .ref b)] [.int (kF_lorry (if (xs 1) = 0 then 0 else 1))] rfl (by rw [ha0, (hfr 128 (by decide)).1]) rfl ?_
  refine r_istore X [(5, .int (kF_lorry (if (xs 1) = 0 then 0 else 1))), (4, .int 0), (3, .ref (ad9 0)), (2, .ref (ad9 128)), (0, .ref b)] d_Law_law_647 (by decide) rfl ?_
  refine r_aload_n X 3 d_Law_law_649 rfl rfl ?_
  refine r_aload_n X 4 d_Law_law_650 rfl rfl ?_
  refine r_iload X 1 d_Law_law_651 rfl ?_
  refine r_iconst X 1 d_Law_law_653 (by decide) ?_
  refine r_iadd X d_Law_law_654 ?_
  refine r_top (y := 1) (by decide) ?_
  refine x_sld X hX hbl (Nat.not_le.mpr hbl) (v := xs 1) (by unfold vp_in; decide +kernel) (congrArg xs (by decide +kernel : (1 : Int32).toNatClampNeg = 1)) d_Law_law_655 ?_
  refine r_cut (fun u9 : Int32 => u9 = (if (xs 1) = 0 then 0 else 1)) (fun _ => c9) 664 (fun _ => [(5, .int (kF_lorry (if (xs 1) = 0 then 0 else 1))), (4, .int 0), (3, .ref (ad9 0)), (2, .ref (ad9 128)), (0, .ref b)]) (fun u9 => [.int u9, .ref (ad9 128)]) (fun J9 => ?_) (fun t_2 ht_2 => ?_)
  · refine r_if_eq X 663 d_Law_law_656 (by decide) (fun h9 => ?_) (fun h9 => ?_)
    · refine r_iconst X 0 d_Law_law_663 (by decide) ?_
      exact J9 _ (if_pos h9).symm
    · refine r_iconst X 1 d_Law_law_659 (by decide) ?_
      refine r_goto X 664 d_Law_law_660 (by decide) ?_
      exact J9 _ (if_neg h9).symm
  subst ht_2
  refine x_Vi X W0_good hN hE (As := [.int (if (xs 1) = 0 then 0 else 1)]) (c_M_lorry l D cy t0 ad9 c9 f1 f2 hm9 (if (xs 1) = 0 then 0 else 1) (bz_or ((xs 1) = 0))) yv_M_lorry m_Law_112 (hm9.1) k_M.2.1 rfl rfl rfl ⟨by decide, by decide⟩ (Nat.le_of_ble_eq_true rfl) ⟨by decide, by decide⟩ d_Law_law_664 (fun r8 ad8 c8 hp8 => ?_)
  obtain ⟨hv8, hd8, he8, fs8, ht8⟩ := hp8
  refine r_show c8 [(5, .int (kF_lorry (if (xs 1) = 0 then 0 else 1))), (4, .int 0), (3, .ref (ad8 0)), (2, .ref (ad8 128)), (0, .ref b)] [.int r8] rfl (by rw [hd8 0 (by decide), hd8 128 (by decide)]) rfl ?_
  refine r_istore X [(6, .int r8), (5, .int (kF_lorry (if (xs 1) = 0 then 0 else 1))), (4, .int 0), (3, .ref (ad8 0)), (2, .ref (ad8 128)), (0, .ref b)] d_Law_law_667 (by decide) rfl ?_
  refine r_aload_n X 4 d_Law_law_669 rfl rfl ?_
  refine r_Vi X W0_good hN (As := []) (c_M_thrown l D cy ad8 c8 (kF_lorry (if (xs 1) = 0 then 0 else 1)) fs8 ht8) yv_M_thrown m_Law_89 ht8 k_M.2.1 rfl rfl rfl ⟨by decide, by decide⟩ (Nat.le_of_ble_eq_true rfl) ⟨by decide, by decide⟩ d_Law_law_670 (fun r7 ad7 c7 hp7 => ?_)
  obtain ⟨rfl, rfl, rfl⟩ := hp7
  refine r_iload X 1 d_Law_law_673 rfl ?_
  refine r_icmp_eq X 680 d_Law_law_675 (by decide) (fun _ => ?_) (fun h9 => absurd rfl h9)
  refine r_iload X 1 d_Law_law_680 rfl ?_
  refine r_if_ne X 697 d_Law_law_682 (by decide) (fun hz0 => ?_) (fun hz0 => ?_)
  · refine r_goto X 1603 d_Law_law_697 (by decide) ?_
    refine r_lv [2, 5] [(4, .int 0), (0, .ref b)] rfl ?_
    exact law_next X hr hlk hX hbl (by decide) (by decide)
  · obtain ⟨f9, hf9, hg9⟩ := hv9 hz0
    have hq8 := hv8 hz0
    have ho8 := (he8 0 (by decide)).trans hf9
    refine r_aload_n X 3 d_Law_law_685 rfl rfl ?_
    refine r_iconst X 0 d_Law_law_686 (by decide) ?_
    refine x_lald X 7 ho8 rfl (by unfold vp_in; decide +kernel) (v := (0 : Int32).toInt64) hg9 d_Law_law_687 ?_
    refine r_iload X 0 d_Law_law_688 rfl ?_
    refine r_top (y := 0) hq8 ?_
    refine r_i2l X d_Law_law_690 ?_
    refine r_lcmp X d_Law_law_691 ?_
    refine r_top (y := 0) (lg_self _) ?_
    refine r_if_eq X 697 d_Law_law_692 (by decide) (fun _ => ?_) (fun h9 => absurd h9 (by decide))
    refine r_goto X 1603 d_Law_law_697 (by decide) ?_
    refine r_lv [2, 5] [(4, .int 0), (0, .ref b)] rfl ?_
    exact law_next X hr hlk hX hbl (by decide) (by decide)
set_option maxRecDepth 100000 in
set_option maxHeartbeats 4000000 in
theorem lc_rate {p : Program} {l : Launch} {e : Env} {s : State} {m : MethodId} {below : List Frame} {meth : Method} {cd : Code} {b : Nat} {xs : Nat → Int32} {D : va_G} {cy : Nat → ClassId} {t0 : Nat} (hst9 : l.stackTraces = false) (X : rX p s m #[Value.ref b] cd b_Law_law 9 R_Law W0 D cls (TY cy) (fun q => s.heap.size ≤ q)) (hr : meth.sig.returnType = ret) (hlk : meth.locks = false) (hN : rN NW s) (hE : rE t0 (fun q => s.heap.size ≤ q) s s.heap) (hX : va_X b 8 xs s s.heap) (hbl : b < s.heap.size) {ad : Nat → Nat} {c : rC} (hC : shC 64 c = cont cy (shA 64 ad) S00 J00) {f : Nat → Int64} (hO : c 0 = some (.inl (cy 7, 1, .inr (.inl f)))) {f1 f2 : Nat → Option Nat} (hm : mC t0 f1 f2 cy ad c) : rW p l e room_1 s m #[Value.ref b] below meth cd 9 D cls (fun q => s.heap.size ≤ q) 1000 10000 (lw_Z below #[Value.ref b] s) ad c 700 [(4, .int 0), (3, .ref (ad 0)), (2, .ref (ad 128)), (1, .ref (ad 64)), (0, .ref b)] [] := by
  have h64 := (h64_of hC).trans (ct_lo (by decide))
  refine r_aload_n X 3 d_Law_law_700 rfl rfl ?_
  refine r_aload_n X 4 d_Law_law_701 rfl rfl ?_
  refine r_iload X 0 d_Law_law_702 rfl ?_
  refine r_iconst X 1 d_Law_law_704 (by decide) ?_
  refine r_iadd X d_Law_law_705 ?_
  refine r_top (y := 1) (by decide) ?_
  refine x_sld X hX hbl (Nat.not_le.mpr hbl) (v := xs 1) (by unfold vp_in; decide +kernel) (congrArg xs (by decide +kernel : (1 : Int32).toNatClampNeg = 1)) d_Law_law_706 ?_
  refine r_aload_n X 4 d_Law_law_707 rfl rfl ?_
  refine r_iload X 0 d_Law_law_708 rfl ?_
  refine r_iconst X 2 d_Law_law_710 (by decide) ?_
  refine r_iadd X d_Law_law_711 ?_
  refine r_top (y := 2) (by decide) ?_
  refine x_sld X hX hbl (Nat.not_le.mpr hbl) (v := xs 2) (by unfold vp_in; decide +kernel) (congrArg xs (by decide +kernel : (2 : Int32).toNatClampNeg = 2)) d_Law_law_712 ?_
  refine r_aload_n X 1 d_Law_law_713 rfl rfl ?_
  refine x_Sh X W0_good hN hE (w_rate l hst9 D cy t0 ad c hC f hO (xs 1) (xs 2)) yh_rate m_Law_113 rfl rfl ⟨by decide, by decide⟩ (Nat.le_of_ble_eq_true rfl) ⟨by decide, by decide⟩ d_Law_law_714 (fun r9 ad9 c9 hp9 => ?_)
  obtain ⟨hk9, hv9, ha0, hfr⟩ := hp9
  subst hk9
  have hm9 := mC_frame hm hfr
  refine r_lv [0, 1, 2, 4] [(4, .int 0), (3, .ref (ad 0)), (2, .ref (ad 128)), (0, .ref b)] rfl ?_
  refine r_show c9 [(4, .int 0), (3, .ref (ad9 0)), (2, .ref (ad9 128)), (0, .ref b)] [.int (kF_rate (xs 1) (xs 2))] rfl (by rw [ha0, (hfr 128 (by decide)).1]) rfl ?_
  refine r_istore X [(5, .int (kF_rate (xs 1) (xs 2))), (4, .int 0), (3, .ref (ad9 0)), (2, .ref (ad9 128)), (0, .ref b)] d_Law_law_717 (by decide) rfl ?_
  refine r_aload_n X 3 d_Law_law_719 rfl rfl ?_
  refine r_aload_n X 4 d_Law_law_720 rfl rfl ?_
  refine r_iload X 1 d_Law_law_721 rfl ?_
  refine r_iconst X 1 d_Law_law_723 (by decide) ?_
  refine r_iadd X d_Law_law_724 ?_
  refine r_top (y := 1) (by decide) ?_
  refine x_sld X hX hbl (Nat.not_le.mpr hbl) (v := xs 1) (by unfold vp_in; decide +kernel) (congrArg xs (by decide +kernel : (1 : Int32).toNatClampNeg = 1)) d_Law_law_725 ?_
  refine r_aload_n X 4 d_Law_law_726 rfl rfl ?_
  refine r_iload X 1 d_Law_law_727 rfl ?_
  refine r_iconst X 2 d_Law_law_729 (by decide) ?_
  refine r_iadd X d_Law_law_730 ?_
  refine r_top (y := 2) (by decide) ?_
  refine x_sld X hX hbl (Nat.not_le.mpr hbl) (v := xs 2) (by unfold vp_in; decide +kernel) (congrArg xs (by decide +kernel : (2 : Int32).toNatClampNeg = 2)) d_Law_law_731 ?_
  refine x_Vi X W0_good hN hE (As := [.int (xs 1), .int (xs 2)]) (c_M_rate l D cy t0 ad9 c9 f1 f2 hm9 (xs 1) (xs 2)) yv_M_rate m_Law_116 (hm9.1) k_M.2.1 rfl rfl rfl ⟨by decide, by decide⟩ (Nat.le_of_ble_eq_true rfl) ⟨by decide, by decide⟩ d_Law_law_732 (fun r8 ad8 c8 hp8 => ?_)
  obtain ⟨hv8, hd8, he8, fs8, ht8⟩ := hp8
  refine r_show c8 [(5, .int (kF_rate (xs 1) (xs 2))), (4, .int 0), (3, .ref (ad8 0)), (2, .ref (ad8 128)), (0, .ref b)] [.int r8] rfl (by rw [hd8 0 (by decide), hd8 128 (by decide)]) rfl ?_
  refine r_istore X [(6, .int r8), (5, .int (kF_rate (xs 1) (xs 2))), (4, .int 0), (3, .ref (ad8 0)), (2, .ref (ad8 128)), (0, .ref b)] d_Law_law_735 (by decide) rfl ?_
  refine r_aload_n X 4 d_Law_law_737 rfl rfl ?_
  refine r_Vi X W0_good hN (As := []) (c_M_thrown l D cy ad8 c8 (kF_rate (xs 1) (xs 2)) fs8 ht8) yv_M_thrown m_Law_89 ht8 k_M.2.1 rfl rfl rfl ⟨by decide, by decide⟩ (Nat.le_of_ble_eq_true rfl) ⟨by decide, by decide⟩ d_Law_law_738 (fun r7 ad7 c7 hp7 => ?_)
  obtain ⟨rfl, rfl, rfl⟩ := hp7
  refine r_iload X 1 d_Law_law_741 rfl ?_
  refine r_icmp_eq X 748 d_Law_law_743 (by decide) (fun _ => ?_) (fun h9 => absurd rfl h9)
  refine r_iload X 1 d_Law_law_748 rfl ?_
  refine r_if_ne X 765 d_Law_law_750 (by decide) (fun hz0 => ?_) (fun hz0 => ?_)
  · refine r_goto X 1603 d_Law_law_765 (by decide) ?_
    refine r_lv [2, 5] [(4, .int 0), (0, .ref b)] rfl ?_
    exact law_next X hr hlk hX hbl (by decide) (by decide)
  · obtain ⟨f9, hf9, hg9⟩ := hv9 hz0
    have hq8 := hv8 hz0
    have ho8 := (he8 0 (by decide)).trans hf9
    refine r_aload_n X 3 d_Law_law_753 rfl rfl ?_
    refine r_iconst X 0 d_Law_law_754 (by decide) ?_
    refine x_lald X 7 ho8 rfl (by unfold vp_in; decide +kernel) (v := (0 : Int32).toInt64) hg9 d_Law_law_755 ?_
    refine r_iload X 0 d_Law_law_756 rfl ?_
    refine r_top (y := 0) hq8 ?_
    refine r_i2l X d_Law_law_758 ?_
    refine r_lcmp X d_Law_law_759 ?_
    refine r_top (y := 0) (lg_self _) ?_
    refine r_if_eq X 765 d_Law_law_760 (by decide) (fun _ => ?_) (fun h9 => absurd h9 (by decide))
    refine r_goto X 1603 d_Law_law_765 (by decide) ?_
    refine r_lv [2, 5] [(4, .int 0), (0, .ref b)] rfl ?_
    exact law_next X hr hlk hX hbl (by decide) (by decide)
set_option maxRecDepth 100000 in
set_option maxHeartbeats 4000000 in
theorem lc_order {p : Program} {l : Launch} {e : Env} {s : State} {m : MethodId} {below : List Frame} {meth : Method} {cd : Code} {b : Nat} {xs : Nat → Int32} {D : va_G} {cy : Nat → ClassId} {t0 : Nat} (hst9 : l.stackTraces = false) (X : rX p s m #[Value.ref b] cd b_Law_law 9 R_Law W0 D cls (TY cy) (fun q => s.heap.size ≤ q)) (hr : meth.sig.returnType = ret) (hlk : meth.locks = false) (hN : rN NW s) (hE : rE t0 (fun q => s.heap.size ≤ q) s s.heap) (hX : va_X b 8 xs s s.heap) (hbl : b < s.heap.size) {ad : Nat → Nat} {c : rC} (hC : shC 64 c = cont cy (shA 64 ad) S00 J00) {f : Nat → Int64} (hO : c 0 = some (.inl (cy 7, 1, .inr (.inl f)))) {f1 f2 : Nat → Option Nat} (hm : mC t0 f1 f2 cy ad c) : rW p l e room_1 s m #[Value.ref b] below meth cd 9 D cls (fun q => s.heap.size ≤ q) 1000 10000 (lw_Z below #[Value.ref b] s) ad c 768 [(4, .int 0), (3, .ref (ad 0)), (2, .ref (ad 128)), (1, .ref (ad 64)), (0, .ref b)] [] := by
  have h64 := (h64_of hC).trans (ct_lo (by decide))
  refine r_aload_n X 3 d_Law_law_768 rfl rfl ?_
  refine r_aload_n X 4 d_Law_law_769 rfl rfl ?_
  refine r_iload X 0 d_Law_law_770 rfl ?_
  refine r_iconst X 1 d_Law_law_772 (by decide) ?_
  refine r_iadd X d_Law_law_773 ?_
  refine r_top (y := 1) (by decide) ?_
  refine x_sld X hX hbl (Nat.not_le.mpr hbl) (v := xs 1) (by unfold vp_in; decide +kernel) (congrArg xs (by decide +kernel : (1 : Int32).toNatClampNeg = 1)) d_Law_law_774 ?_
  refine r_aload_n X 4 d_Law_law_775 rfl rfl ?_
  refine r_iload X 0 d_Law_law_776 rfl ?_
  refine r_iconst X 2 d_Law_law_778 (by decide) ?_
  refine r_iadd X d_Law_law_779 ?_
  refine r_top (y := 2) (by decide) ?_
  refine x_sld X hX hbl (Nat.not_le.mpr hbl) (v := xs 2) (by unfold vp_in; decide +kernel) (congrArg xs (by decide +kernel : (2 : Int32).toNatClampNeg = 2)) d_Law_law_780 ?_
  refine r_aload_n X 1 d_Law_law_781 rfl rfl ?_
  refine x_Sh X W0_good hN hE (w_order l hst9 D cy t0 ad c hC f hO (xs 1) (xs 2)) yh_order m_Law_117 rfl rfl ⟨by decide, by decide⟩ (Nat.le_of_ble_eq_true rfl) ⟨by decide, by decide⟩ d_Law_law_782 (fun r9 ad9 c9 hp9 => ?_)
  obtain ⟨hk9, hv9, ha0, hfr⟩ := hp9
  subst hk9
  have hm9 := mC_frame hm hfr
  refine r_lv [0, 1, 2, 4] [(4, .int 0), (3, .ref (ad 0)), (2, .ref (ad 128)), (0, .ref b)] rfl ?_
  refine r_show c9 [(4, .int 0), (3, .ref (ad9 0)), (2, .ref (ad9 128)), (0, .ref b)] [.int (kF_order (xs 1) (xs 2))] rfl (by rw [ha0, (hfr 128 (by decide)).1]) rfl ?_
  refine r_istore X [(5, .int (kF_order (xs 1) (xs 2))), (4, .int 0), (3, .ref (ad9 0)), (2, .ref (ad9 128)), (0, .ref b)] d_Law_law_785 (by decide) rfl ?_
  refine r_aload_n X 3 d_Law_law_787 rfl rfl ?_
  refine r_aload_n X 4 d_Law_law_788 rfl rfl ?_
  refine r_iload X 1 d_Law_law_789 rfl ?_
  refine r_iconst X 1 d_Law_law_791 (by decide) ?_
  refine r_iadd X d_Law_law_792 ?_
  refine r_top (y := 1) (by decide) ?_
  refine x_sld X hX hbl (Nat.not_le.mpr hbl) (v := xs 1) (by unfold vp_in; decide +kernel) (congrArg xs (by decide +kernel : (1 : Int32).toNatClampNeg = 1)) d_Law_law_793 ?_
  refine r_aload_n X 4 d_Law_law_794 rfl rfl ?_
  refine r_iload X 1 d_Law_law_795 rfl ?_
  refine r_iconst X 2 d_Law_law_797 (by decide) ?_
  refine r_iadd X d_Law_law_798 ?_
  refine r_top (y := 2) (by decide) ?_
  refine x_sld X hX hbl (Nat.not_le.mpr hbl) (v := xs 2) (by unfold vp_in; decide +kernel) (congrArg xs (by decide +kernel : (2 : Int32).toNatClampNeg = 2)) d_Law_law_799 ?_
  refine x_Vi X W0_good hN hE (As := [.int (xs 1), .int (xs 2)]) (c_M_order l D cy t0 ad9 c9 f1 f2 hm9 (xs 1) (xs 2)) yv_M_order m_Law_119 (hm9.1) k_M.2.1 rfl rfl rfl ⟨by decide, by decide⟩ (Nat.le_of_ble_eq_true rfl) ⟨by decide, by decide⟩ d_Law_law_800 (fun r8 ad8 c8 hp8 => ?_)
  obtain ⟨hv8, hd8, he8, fs8, ht8⟩ := hp8
  refine r_show c8 [(5, .int (kF_order (xs 1) (xs 2))), (4, .int 0), (3, .ref (ad8 0)), (2, .ref (ad8 128)), (0, .ref b)] [.int r8] rfl (by rw [hd8 0 (by decide), hd8 128 (by decide)]) rfl ?_
  refine r_istore X [(6, .int r8), (5, .int (kF_order (xs 1) (xs 2))), (4, .int 0), (3, .ref (ad8 0)), (2, .ref (ad8 128)), (0, .ref b)] d_Law_law_803 (by decide) rfl ?_
  refine r_aload_n X 4 d_Law_law_805 rfl rfl ?_
  refine r_Vi X W0_good hN (As := []) (c_M_thrown l D cy ad8 c8 (kF_order (xs 1) (xs 2)) fs8 ht8) yv_M_thrown m_Law_89 ht8 k_M.2.1 rfl rfl rfl ⟨by decide, by decide⟩ (Nat.le_of_ble_eq_true rfl) ⟨by decide, by decide⟩ d_Law_law_806 (fun r7 ad7 c7 hp7 => ?_)
  obtain ⟨rfl, rfl, rfl⟩ := hp7
  refine r_iload X 1 d_Law_law_809 rfl ?_
  refine r_icmp_eq X 816 d_Law_law_811 (by decide) (fun _ => ?_) (fun h9 => absurd rfl h9)
  refine r_iload X 1 d_Law_law_816 rfl ?_
  refine r_if_ne X 833 d_Law_law_818 (by decide) (fun hz0 => ?_) (fun hz0 => ?_)
  · refine r_goto X 1603 d_Law_law_833 (by decide) ?_
    refine r_lv [2, 5] [(4, .int 0), (0, .ref b)] rfl ?_
    exact law_next X hr hlk hX hbl (by decide) (by decide)
  · obtain ⟨f9, hf9, hg9⟩ := hv9 hz0
    have hq8 := hv8 hz0
    have ho8 := (he8 0 (by decide)).trans hf9
    refine r_aload_n X 3 d_Law_law_821 rfl rfl ?_
    refine r_iconst X 0 d_Law_law_822 (by decide) ?_
    refine x_lald X 7 ho8 rfl (by unfold vp_in; decide +kernel) (v := (0 : Int32).toInt64) hg9 d_Law_law_823 ?_
    refine r_iload X 0 d_Law_law_824 rfl ?_
    refine r_top (y := 0) hq8 ?_
    refine r_i2l X d_Law_law_826 ?_
    refine r_lcmp X d_Law_law_827 ?_
    refine r_top (y := 0) (lg_self _) ?_
    refine r_if_eq X 833 d_Law_law_828 (by decide) (fun _ => ?_) (fun h9 => absurd h9 (by decide))
    refine r_goto X 1603 d_Law_law_833 (by decide) ?_
    refine r_lv [2, 5] [(4, .int 0), (0, .ref b)] rfl ?_
    exact law_next X hr hlk hX hbl (by decide) (by decide)
set_option maxRecDepth 100000 in
set_option maxHeartbeats 4000000 in
theorem lc_load {p : Program} {l : Launch} {e : Env} {s : State} {m : MethodId} {below : List Frame} {meth : Method} {cd : Code} {b : Nat} {xs : Nat → Int32} {D : va_G} {cy : Nat → ClassId} {t0 : Nat} (hst9 : l.stackTraces = false) (X : rX p s m #[Value.ref b] cd b_Law_law 9 R_Law W0 D cls (TY cy) (fun q => s.heap.size ≤ q)) (hr : meth.sig.returnType = ret) (hlk : meth.locks = false) (hN : rN NW s) (hE : rE t0 (fun q => s.heap.size ≤ q) s s.heap) (hX : va_X b 8 xs s s.heap) (hbl : b < s.heap.size) {ad : Nat → Nat} {c : rC} (hC : shC 64 c = cont cy (shA 64 ad) S00 J00) {f : Nat → Int64} (hO : c 0 = some (.inl (cy 7, 1, .inr (.inl f)))) {f1 f2 : Nat → Option Nat} (hm : mC t0 f1 f2 cy ad c) : rW p l e room_1 s m #[Value.ref b] below meth cd 9 D cls (fun q => s.heap.size ≤ q) 1000 10000 (lw_Z below #[Value.ref b] s) ad c 836 [(4, .int 0), (3, .ref (ad 0)), (2, .ref (ad 128)), (1, .ref (ad 64)), (0, .ref b)] [] := by
  have h64 := (h64_of hC).trans (ct_lo (by decide))
  refine r_aload_n X 3 d_Law_law_836 rfl rfl ?_
  refine r_aload_n X 4 d_Law_law_837 rfl rfl ?_
  refine r_iload X 0 d_Law_law_838 rfl ?_
  refine r_iconst X 1 d_Law_law_840 (by decide) ?_
  refine r_iadd X d_Law_law_841 ?_
  refine r_top (y := 1) (by decide) ?_
  refine x_sld X hX hbl (Nat.not_le.mpr hbl) (v := xs 1) (by unfold vp_in; decide +kernel) (congrArg xs (by decide +kernel : (1 : Int32).toNatClampNeg = 1)) d_Law_law_842 ?_
  refine r_aload_n X 1 d_Law_law_843 rfl rfl ?_
  refine x_Sh X W0_good hN hE (w_load l hst9 D cy t0 ad c hC f hO (xs 1)) yh_load m_Law_120 rfl rfl ⟨by decide, by decide⟩ (Nat.le_of_ble_eq_true rfl) ⟨by decide, by decide⟩ d_Law_law_844 (fun r9 ad9 c9 hp9 => ?_)
  obtain ⟨hk9, hv9, ha0, hfr⟩ := hp9
  subst hk9
  have hm9 := mC_frame hm hfr
  refine r_lv [0, 1, 2, 4] [(4, .int 0), (3, .ref (ad 0)), (2, .ref (ad 128)), (0, .ref b)] rfl ?_
  refine r_show c9 [(4, .int 0), (3, .ref (ad9 0)), (2, .ref (ad9 128)), (0, .ref b)] [.int (kF_load (xs 1))] rfl (by rw [ha0, (hfr 128 (by decide)).1]) rfl ?_
  refine r_istore X [(5, .int (kF_load (xs 1))), (4, .int 0), (3, .ref (ad9 0)), (2, .ref (ad9 128)), (0, .ref b)] d_Law_law_847 (by decide) rfl ?_
  refine r_aload_n X 3 d_Law_law_849 rfl rfl ?_
  refine r_aload_n X 4 d_Law_law_850 rfl rfl ?_
  refine r_iload X 1 d_Law_law_851 rfl ?_
  refine r_iconst X 1 d_Law_law_853 (by decide) ?_
  refine r_iadd X d_Law_law_854 ?_
  refine r_top (y := 1) (by decide) ?_
  refine x_sld X hX hbl (Nat.not_le.mpr hbl) (v := xs 1) (by unfold vp_in; decide +kernel) (congrArg xs (by decide +kernel : (1 : Int32).toNatClampNeg = 1)) d_Law_law_855 ?_
  refine x_Vi X W0_good hN hE (As := [.int (xs 1)]) (c_M_load l D cy t0 ad9 c9 f1 f2 hm9 (xs 1)) yv_M_load m_Law_122 (hm9.1) k_M.2.1 rfl rfl rfl ⟨by decide, by decide⟩ (Nat.le_of_ble_eq_true rfl) ⟨by decide, by decide⟩ d_Law_law_856 (fun r8 ad8 c8 hp8 => ?_)
  obtain ⟨hv8, hd8, he8, fs8, ht8⟩ := hp8
  refine r_show c8 [(5, .int (kF_load (xs 1))), (4, .int 0), (3, .ref (ad8 0)), (2, .ref (ad8 128)), (0, .ref b)] [.int r8] rfl (by rw [hd8 0 (by decide), hd8 128 (by decide)]) rfl ?_
  refine r_istore X [(6, .int r8), (5, .int (kF_load (xs 1))), (4, .int 0), (3, .ref (ad8 0)), (2, .ref (ad8 128)), (0, .ref b)] d_Law_law_859 (by decide) rfl ?_
  refine r_aload_n X 4 d_Law_law_861 rfl rfl ?_
  refine r_Vi X W0_good hN (As := []) (c_M_thrown l D cy ad8 c8 (kF_load (xs 1)) fs8 ht8) yv_M_thrown m_Law_89 ht8 k_M.2.1 rfl rfl rfl ⟨by decide, by decide⟩ (Nat.le_of_ble_eq_true rfl) ⟨by decide, by decide⟩ d_Law_law_862 (fun r7 ad7 c7 hp7 => ?_)
  obtain ⟨rfl, rfl, rfl⟩ := hp7
  refine r_iload X 1 d_Law_law_865 rfl ?_
  refine r_icmp_eq X 872 d_Law_law_867 (by decide) (fun _ => ?_) (fun h9 => absurd rfl h9)
  refine r_iload X 1 d_Law_law_872 rfl ?_
  refine r_if_ne X 889 d_Law_law_874 (by decide) (fun hz0 => ?_) (fun hz0 => ?_)
  · refine r_goto X 1603 d_Law_law_889 (by decide) ?_
    refine r_lv [2, 5] [(4, .int 0), (0, .ref b)] rfl ?_
    exact law_next X hr hlk hX hbl (by decide) (by decide)
  · obtain ⟨f9, hf9, hg9⟩ := hv9 hz0
    have hq8 := hv8 hz0
    have ho8 := (he8 0 (by decide)).trans hf9
    refine r_aload_n X 3 d_Law_law_877 rfl rfl ?_
    refine r_iconst X 0 d_Law_law_878 (by decide) ?_
    refine x_lald X 7 ho8 rfl (by unfold vp_in; decide +kernel) (v := (0 : Int32).toInt64) hg9 d_Law_law_879 ?_
    refine r_iload X 0 d_Law_law_880 rfl ?_
    refine r_top (y := 0) hq8 ?_
    refine r_i2l X d_Law_law_882 ?_
    refine r_lcmp X d_Law_law_883 ?_
    refine r_top (y := 0) (lg_self _) ?_
    refine r_if_eq X 889 d_Law_law_884 (by decide) (fun _ => ?_) (fun h9 => absurd h9 (by decide))
    refine r_goto X 1603 d_Law_law_889 (by decide) ?_
    refine r_lv [2, 5] [(4, .int 0), (0, .ref b)] rfl ?_
    exact law_next X hr hlk hX hbl (by decide) (by decide)
set_option maxRecDepth 100000 in
set_option maxHeartbeats 4000000 in
theorem lc_rest {p : Program} {l : Launch} {e : Env} {s : State} {m : MethodId} {below : List Frame} {meth : Method} {cd : Code} {b : Nat} {xs : Nat → Int32} {D : va_G} {cy : Nat → ClassId} {t0 : Nat} (hst9 : l.stackTraces = false) (X : rX p s m #[Value.ref b] cd b_Law_law 9 R_Law W0 D cls (TY cy) (fun q => s.heap.size ≤ q)) (hr : meth.sig.returnType = ret) (hlk : meth.locks = false) (hN : rN NW s) (hE : rE t0 (fun q => s.heap.size ≤ q) s s.heap) (hX : va_X b 8 xs s s.heap) (hbl : b < s.heap.size) {ad : Nat → Nat} {c : rC} (hC : shC 64 c = cont cy (shA 64 ad) S00 J00) {f : Nat → Int64} (hO : c 0 = some (.inl (cy 7, 1, .inr (.inl f)))) {f1 f2 : Nat → Option Nat} (hm : mC t0 f1 f2 cy ad c) : rW p l e room_1 s m #[Value.ref b] below meth cd 9 D cls (fun q => s.heap.size ≤ q) 1000 10000 (lw_Z below #[Value.ref b] s) ad c 892 [(4, .int 0), (3, .ref (ad 0)), (2, .ref (ad 128)), (1, .ref (ad 64)), (0, .ref b)] [] := by
  have h64 := (h64_of hC).trans (ct_lo (by decide))
  refine r_aload_n X 3 d_Law_law_892 rfl rfl ?_
  refine r_aload_n X 4 d_Law_law_893 rfl rfl ?_
  refine r_iload X 0 d_Law_law_894 rfl ?_
  refine r_iconst X 1 d_Law_law_896 (by decide) ?_
  refine r_iadd X d_Law_law_897 ?_
  refine r_top (y := 1) (by decide) ?_
  refine x_sld X hX hbl (Nat.not_le.mpr hbl) (v := xs 1) (by unfold vp_in; decide +kernel) (congrArg xs (by decide +kernel : (1 : Int32).toNatClampNeg = 1)) d_Law_law_898 ?_
  refine r_aload_n X 1 d_Law_law_899 rfl rfl ?_
  refine x_Sh X W0_good hN hE (w_rest l hst9 D cy t0 ad c hC f hO (xs 1)) yh_rest m_Law_123 rfl rfl ⟨by decide, by decide⟩ (Nat.le_of_ble_eq_true rfl) ⟨by decide, by decide⟩ d_Law_law_900 (fun r9 ad9 c9 hp9 => ?_)
  obtain ⟨hk9, hv9, ha0, hfr⟩ := hp9
  subst hk9
  have hm9 := mC_frame hm hfr
  refine r_lv [0, 1, 2, 4] [(4, .int 0), (3, .ref (ad 0)), (2, .ref (ad 128)), (0, .ref b)] rfl ?_
  refine r_show c9 [(4, .int 0), (3, .ref (ad9 0)), (2, .ref (ad9 128)), (0, .ref b)] [.int (kF_rest (xs 1))] rfl (by rw [ha0, (hfr 128 (by decide)).1]) rfl ?_
  refine r_istore X [(5, .int (kF_rest (xs 1))), (4, .int 0), (3, .ref (ad9 0)), (2, .ref (ad9 128)), (0, .ref b)] d_Law_law_903 (by decide) rfl ?_
  refine r_aload_n X 3 d_Law_law_905 rfl rfl ?_
  refine r_aload_n X 4 d_Law_law_906 rfl rfl ?_
  refine r_iload X 1 d_Law_law_907 rfl ?_
  refine r_iconst X 1 d_Law_law_909 (by decide) ?_
  refine r_iadd X d_Law_law_910 ?_
  refine r_top (y := 1) (by decide) ?_
  refine x_sld X hX hbl (Nat.not_le.mpr hbl) (v := xs 1) (by unfold vp_in; decide +kernel) (congrArg xs (by decide +kernel : (1 : Int32).toNatClampNeg = 1)) d_Law_law_911 ?_
  refine x_Vi X W0_good hN hE (As := [.int (xs 1)]) (c_M_rest l D cy t0 ad9 c9 f1 f2 hm9 (xs 1)) yv_M_rest m_Law_125 (hm9.1) k_M.2.1 rfl rfl rfl ⟨by decide, by decide⟩ (Nat.le_of_ble_eq_true rfl) ⟨by decide, by decide⟩ d_Law_law_912 (fun r8 ad8 c8 hp8 => ?_)
  obtain ⟨hv8, hd8, he8, fs8, ht8⟩ := hp8
  refine r_show c8 [(5, .int (kF_rest (xs 1))), (4, .int 0), (3, .ref (ad8 0)), (2, .ref (ad8 128)), (0, .ref b)] [.int r8] rfl (by rw [hd8 0 (by decide), hd8 128 (by decide)]) rfl ?_
  refine r_istore X [(6, .int r8), (5, .int (kF_rest (xs 1))), (4, .int 0), (3, .ref (ad8 0)), (2, .ref (ad8 128)), (0, .ref b)] d_Law_law_915 (by decide) rfl ?_
  refine r_aload_n X 4 d_Law_law_917 rfl rfl ?_
  refine r_Vi X W0_good hN (As := []) (c_M_thrown l D cy ad8 c8 (kF_rest (xs 1)) fs8 ht8) yv_M_thrown m_Law_89 ht8 k_M.2.1 rfl rfl rfl ⟨by decide, by decide⟩ (Nat.le_of_ble_eq_true rfl) ⟨by decide, by decide⟩ d_Law_law_918 (fun r7 ad7 c7 hp7 => ?_)
  obtain ⟨rfl, rfl, rfl⟩ := hp7
  refine r_iload X 1 d_Law_law_921 rfl ?_
  refine r_icmp_eq X 928 d_Law_law_923 (by decide) (fun _ => ?_) (fun h9 => absurd rfl h9)
  refine r_iload X 1 d_Law_law_928 rfl ?_
  refine r_if_ne X 945 d_Law_law_930 (by decide) (fun hz0 => ?_) (fun hz0 => ?_)
  · refine r_goto X 1603 d_Law_law_945 (by decide) ?_
    refine r_lv [2, 5] [(4, .int 0), (0, .ref b)] rfl ?_
    exact law_next X hr hlk hX hbl (by decide) (by decide)
  · obtain ⟨f9, hf9, hg9⟩ := hv9 hz0
    have hq8 := hv8 hz0
    have ho8 := (he8 0 (by decide)).trans hf9
    refine r_aload_n X 3 d_Law_law_933 rfl rfl ?_
    refine r_iconst X 0 d_Law_law_934 (by decide) ?_
    refine x_lald X 7 ho8 rfl (by unfold vp_in; decide +kernel) (v := (0 : Int32).toInt64) hg9 d_Law_law_935 ?_
    refine r_iload X 0 d_Law_law_936 rfl ?_
    refine r_top (y := 0) hq8 ?_
    refine r_i2l X d_Law_law_938 ?_
    refine r_lcmp X d_Law_law_939 ?_
    refine r_top (y := 0) (lg_self _) ?_
    refine r_if_eq X 945 d_Law_law_940 (by decide) (fun _ => ?_) (fun h9 => absurd h9 (by decide))
    refine r_goto X 1603 d_Law_law_945 (by decide) ?_
    refine r_lv [2, 5] [(4, .int 0), (0, .ref b)] rfl ?_
    exact law_next X hr hlk hX hbl (by decide) (by decide)
set_option maxRecDepth 100000 in
set_option maxHeartbeats 4000000 in
theorem lc_deliver {p : Program} {l : Launch} {e : Env} {s : State} {m : MethodId} {below : List Frame} {meth : Method} {cd : Code} {b : Nat} {xs : Nat → Int32} {D : va_G} {cy : Nat → ClassId} {t0 : Nat} (hst9 : l.stackTraces = false) (X : rX p s m #[Value.ref b] cd b_Law_law 9 R_Law W0 D cls (TY cy) (fun q => s.heap.size ≤ q)) (hr : meth.sig.returnType = ret) (hlk : meth.locks = false) (hN : rN NW s) (hE : rE t0 (fun q => s.heap.size ≤ q) s s.heap) (hX : va_X b 8 xs s s.heap) (hbl : b < s.heap.size) {ad : Nat → Nat} {c : rC} (hC : shC 64 c = cont cy (shA 64 ad) S00 J00) {f : Nat → Int64} (hO : c 0 = some (.inl (cy 7, 1, .inr (.inl f)))) {f1 f2 : Nat → Option Nat} (hm : mC t0 f1 f2 cy ad c) : rW p l e room_1 s m #[Value.ref b] below meth cd 9 D cls (fun q => s.heap.size ≤ q) 1000 10000 (lw_Z below #[Value.ref b] s) ad c 948 [(4, .int 0), (3, .ref (ad 0)), (2, .ref (ad 128)), (1, .ref (ad 64)), (0, .ref b)] [] := by
  have h64 := (h64_of hC).trans (ct_lo (by decide))
  refine r_aload_n X 3 d_Law_law_948 rfl rfl ?_
  refine r_aload_n X 4 d_Law_law_949 rfl rfl ?_
  refine r_iload X 0 d_Law_law_950 rfl ?_
  refine r_iconst X 1 d_Law_law_952 (by decide) ?_
  refine r_iadd X d_Law_law_953 ?_
  refine r_top (y := 1) (by decide) ?_
  refine x_sld X hX hbl (Nat.not_le.mpr hbl) (v := xs 1) (by unfold vp_in; decide +kernel) (congrArg xs (by decide +kernel : (1 : Int32).toNatClampNeg = 1)) d_Law_law_954 ?_
  refine r_aload_n X 4 d_Law_law_955 rfl rfl ?_
  refine r_iload X 0 d_Law_law_956 rfl ?_
  refine r_iconst X 2 d_Law_law_958 (by decide) ?_
  refine r_iadd X d_Law_law_959 ?_
  refine r_top (y := 2) (by decide) ?_
  refine x_sld X hX hbl (Nat.not_le.mpr hbl) (v := xs 2) (by unfold vp_in; decide +kernel) (congrArg xs (by decide +kernel : (2 : Int32).toNatClampNeg = 2)) d_Law_law_960 ?_
  refine r_aload_n X 1 d_Law_law_961 rfl rfl ?_
  refine x_Sh X W0_good hN hE (w_deliver l hst9 D cy t0 ad c hC f hO (xs 1) (xs 2)) yh_deliver m_Law_126 rfl rfl ⟨by decide, by decide⟩ (Nat.le_of_ble_eq_true rfl) ⟨by decide, by decide⟩ d_Law_law_962 (fun r9 ad9 c9 hp9 => ?_)
  obtain ⟨hk9, hv9, ha0, hfr⟩ := hp9
  subst hk9
  have hm9 := mC_frame hm hfr
  refine r_lv [0, 1, 2, 4] [(4, .int 0), (3, .ref (ad 0)), (2, .ref (ad 128)), (0, .ref b)] rfl ?_
  refine r_show c9 [(4, .int 0), (3, .ref (ad9 0)), (2, .ref (ad9 128)), (0, .ref b)] [.int (kF_deliver (xs 1) (xs 2))] rfl (by rw [ha0, (hfr 128 (by decide)).1]) rfl ?_
  refine r_istore X [(5, .int (kF_deliver (xs 1) (xs 2))), (4, .int 0), (3, .ref (ad9 0)), (2, .ref (ad9 128)), (0, .ref b)] d_Law_law_965 (by decide) rfl ?_
  refine r_aload_n X 3 d_Law_law_967 rfl rfl ?_
  refine r_aload_n X 4 d_Law_law_968 rfl rfl ?_
  refine r_iload X 1 d_Law_law_969 rfl ?_
  refine r_iconst X 1 d_Law_law_971 (by decide) ?_
  refine r_iadd X d_Law_law_972 ?_
  refine r_top (y := 1) (by decide) ?_
  refine x_sld X hX hbl (Nat.not_le.mpr hbl) (v := xs 1) (by unfold vp_in; decide +kernel) (congrArg xs (by decide +kernel : (1 : Int32).toNatClampNeg = 1)) d_Law_law_973 ?_
  refine r_aload_n X 4 d_Law_law_974 rfl rfl ?_
  refine r_iload X 1 d_Law_law_975 rfl ?_
  refine r_iconst X 2 d_Law_law_977 (by decide) ?_
  refine r_iadd X d_Law_law_978 ?_
  refine r_top (y := 2) (by decide) ?_
  refine x_sld X hX hbl (Nat.not_le.mpr hbl) (v := xs 2) (by unfold vp_in; decide +kernel) (congrArg xs (by decide +kernel : (2 : Int32).toNatClampNeg = 2)) d_Law_law_979 ?_
  refine x_Vi X W0_good hN hE (As := [.int (xs 1), .int (xs 2)]) (c_M_deliver l D cy t0 ad9 c9 f1 f2 hm9 (xs 1) (xs 2)) yv_M_deliver m_Law_128 (hm9.1) k_M.2.1 rfl rfl rfl ⟨by decide, by decide⟩ (Nat.le_of_ble_eq_true rfl) ⟨by decide, by decide⟩ d_Law_law_980 (fun r8 ad8 c8 hp8 => ?_)
  obtain ⟨hv8, hd8, he8, fs8, ht8⟩ := hp8
  refine r_show c8 [(5, .int (kF_deliver (xs 1) (xs 2))), (4, .int 0), (3, .ref (ad8 0)), (2, .ref (ad8 128)), (0, .ref b)] [.int r8] rfl (by rw [hd8 0 (by decide), hd8 128 (by decide)]) rfl ?_
  refine r_istore X [(6, .int r8), (5, .int (kF_deliver (xs 1) (xs 2))), (4, .int 0), (3, .ref (ad8 0)), (2, .ref (ad8 128)), (0, .ref b)] d_Law_law_983 (by decide) rfl ?_
  refine r_aload_n X 4 d_Law_law_985 rfl rfl ?_
  refine r_Vi X W0_good hN (As := []) (c_M_thrown l D cy ad8 c8 (kF_deliver (xs 1) (xs 2)) fs8 ht8) yv_M_thrown m_Law_89 ht8 k_M.2.1 rfl rfl rfl ⟨by decide, by decide⟩ (Nat.le_of_ble_eq_true rfl) ⟨by decide, by decide⟩ d_Law_law_986 (fun r7 ad7 c7 hp7 => ?_)
  obtain ⟨rfl, rfl, rfl⟩ := hp7
  refine r_iload X 1 d_Law_law_989 rfl ?_
  refine r_icmp_eq X 996 d_Law_law_991 (by decide) (fun _ => ?_) (fun h9 => absurd rfl h9)
  refine r_iload X 1 d_Law_law_996 rfl ?_
  refine r_if_ne X 1013 d_Law_law_998 (by decide) (fun hz0 => ?_) (fun hz0 => ?_)
  · refine r_goto X 1603 d_Law_law_1013 (by decide) ?_
    refine r_lv [2, 5] [(4, .int 0), (0, .ref b)] rfl ?_
    exact law_next X hr hlk hX hbl (by decide) (by decide)
  · obtain ⟨f9, hf9, hg9⟩ := hv9 hz0
    have hq8 := hv8 hz0
    have ho8 := (he8 0 (by decide)).trans hf9
    refine r_aload_n X 3 d_Law_law_1001 rfl rfl ?_
    refine r_iconst X 0 d_Law_law_1002 (by decide) ?_
    refine x_lald X 7 ho8 rfl (by unfold vp_in; decide +kernel) (v := (1 : Int32).toInt64) hg9 d_Law_law_1003 ?_
    refine r_iload X 0 d_Law_law_1004 rfl ?_
    refine r_top (y := 1) hq8 ?_
    refine r_i2l X d_Law_law_1006 ?_
    refine r_lcmp X d_Law_law_1007 ?_
    refine r_top (y := 0) (lg_self _) ?_
    refine r_if_eq X 1013 d_Law_law_1008 (by decide) (fun _ => ?_) (fun h9 => absurd h9 (by decide))
    refine r_goto X 1603 d_Law_law_1013 (by decide) ?_
    refine r_lv [2, 5] [(4, .int 0), (0, .ref b)] rfl ?_
    exact law_next X hr hlk hX hbl (by decide) (by decide)
set_option maxRecDepth 100000 in
set_option maxHeartbeats 4000000 in
theorem lc_claim {p : Program} {l : Launch} {e : Env} {s : State} {m : MethodId} {below : List Frame} {meth : Method} {cd : Code} {b : Nat} {xs : Nat → Int32} {D : va_G} {cy : Nat → ClassId} {t0 : Nat} (hst9 : l.stackTraces = false) (X : rX p s m #[Value.ref b] cd b_Law_law 9 R_Law W0 D cls (TY cy) (fun q => s.heap.size ≤ q)) (hr : meth.sig.returnType = ret) (hlk : meth.locks = false) (hN : rN NW s) (hE : rE t0 (fun q => s.heap.size ≤ q) s s.heap) (hX : va_X b 8 xs s s.heap) (hbl : b < s.heap.size) {ad : Nat → Nat} {c : rC} (hC : shC 64 c = cont cy (shA 64 ad) S00 J00) {f : Nat → Int64} (hO : c 0 = some (.inl (cy 7, 1, .inr (.inl f)))) {f1 f2 : Nat → Option Nat} (hm : mC t0 f1 f2 cy ad c) : rW p l e room_1 s m #[Value.ref b] below meth cd 9 D cls (fun q => s.heap.size ≤ q) 1000 10000 (lw_Z below #[Value.ref b] s) ad c 1016 [(4, .int 0), (3, .ref (ad 0)), (2, .ref (ad 128)), (1, .ref (ad 64)), (0, .ref b)] [] := by
  have h64 := (h64_of hC).trans (ct_lo (by decide))
  refine r_aload_n X 3 d_Law_law_1016 rfl rfl ?_
  refine r_aload_n X 4 d_Law_law_1017 rfl rfl ?_
  refine r_iload X 0 d_Law_law_1018 rfl ?_
  refine r_iconst X 1 d_Law_law_1020 (by decide) ?_
  refine r_iadd X d_Law_law_1021 ?_
  refine r_top (y := 1) (by decide) ?_
  refine x_sld X hX hbl (Nat.not_le.mpr hbl) (v := xs 1) (by unfold vp_in; decide +kernel) (congrArg xs (by decide +kernel : (1 : Int32).toNatClampNeg = 1)) d_Law_law_1022 ?_
  refine r_aload_n X 4 d_Law_law_1023 rfl rfl ?_
  refine r_iload X 0 d_Law_law_1024 rfl ?_
  refine r_iconst X 2 d_Law_law_1026 (by decide) ?_
  refine r_iadd X d_Law_law_1027 ?_
  refine r_top (y := 2) (by decide) ?_
  refine x_sld X hX hbl (Nat.not_le.mpr hbl) (v := xs 2) (by unfold vp_in; decide +kernel) (congrArg xs (by decide +kernel : (2 : Int32).toNatClampNeg = 2)) d_Law_law_1028 ?_
  refine r_aload_n X 1 d_Law_law_1029 rfl rfl ?_
  refine x_Sh X W0_good hN hE (w_claim l hst9 D cy t0 ad c hC f hO (xs 1) (xs 2)) yh_claim m_Law_129 rfl rfl ⟨by decide, by decide⟩ (Nat.le_of_ble_eq_true rfl) ⟨by decide, by decide⟩ d_Law_law_1030 (fun r9 ad9 c9 hp9 => ?_)
  obtain ⟨hk9, hv9, ha0, hfr⟩ := hp9
  subst hk9
  have hm9 := mC_frame hm hfr
  refine r_lv [0, 1, 2, 4] [(4, .int 0), (3, .ref (ad 0)), (2, .ref (ad 128)), (0, .ref b)] rfl ?_
  refine r_show c9 [(4, .int 0), (3, .ref (ad9 0)), (2, .ref (ad9 128)), (0, .ref b)] [.int (kF_claim (xs 1) (xs 2))] rfl (by rw [ha0, (hfr 128 (by decide)).1]) rfl ?_
  refine r_istore X [(5, .int (kF_claim (xs 1) (xs 2))), (4, .int 0), (3, .ref (ad9 0)), (2, .ref (ad9 128)), (0, .ref b)] d_Law_law_1033 (by decide) rfl ?_
  refine r_aload_n X 3 d_Law_law_1035 rfl rfl ?_
  refine r_aload_n X 4 d_Law_law_1036 rfl rfl ?_
  refine r_iload X 1 d_Law_law_1037 rfl ?_
  refine r_iconst X 1 d_Law_law_1039 (by decide) ?_
  refine r_iadd X d_Law_law_1040 ?_
  refine r_top (y := 1) (by decide) ?_
  refine x_sld X hX hbl (Nat.not_le.mpr hbl) (v := xs 1) (by unfold vp_in; decide +kernel) (congrArg xs (by decide +kernel : (1 : Int32).toNatClampNeg = 1)) d_Law_law_1041 ?_
  refine r_aload_n X 4 d_Law_law_1042 rfl rfl ?_
  refine r_iload X 1 d_Law_law_1043 rfl ?_
  refine r_iconst X 2 d_Law_law_1045 (by decide) ?_
  refine r_iadd X d_Law_law_1046 ?_
  refine r_top (y := 2) (by decide) ?_
  refine x_sld X hX hbl (Nat.not_le.mpr hbl) (v := xs 2) (by unfold vp_in; decide +kernel) (congrArg xs (by decide +kernel : (2 : Int32).toNatClampNeg = 2)) d_Law_law_1047 ?_
  refine x_Vi X W0_good hN hE (As := [.int (xs 1), .int (xs 2)]) (c_M_claim l D cy t0 ad9 c9 f1 f2 hm9 (xs 1) (xs 2)) yv_M_claim m_Law_131 (hm9.1) k_M.2.1 rfl rfl rfl ⟨by decide, by decide⟩ (Nat.le_of_ble_eq_true rfl) ⟨by decide, by decide⟩ d_Law_law_1048 (fun r8 ad8 c8 hp8 => ?_)
  obtain ⟨hv8, hd8, he8, fs8, ht8⟩ := hp8
  refine r_show c8 [(5, .int (kF_claim (xs 1) (xs 2))), (4, .int 0), (3, .ref (ad8 0)), (2, .ref (ad8 128)), (0, .ref b)] [.int r8] rfl (by rw [hd8 0 (by decide), hd8 128 (by decide)]) rfl ?_
  refine r_istore X [(6, .int r8), (5, .int (kF_claim (xs 1) (xs 2))), (4, .int 0), (3, .ref (ad8 0)), (2, .ref (ad8 128)), (0, .ref b)] d_Law_law_1051 (by decide) rfl ?_
  refine r_aload_n X 4 d_Law_law_1053 rfl rfl ?_
  refine r_Vi X W0_good hN (As := []) (c_M_thrown l D cy ad8 c8 (kF_claim (xs 1) (xs 2)) fs8 ht8) yv_M_thrown m_Law_89 ht8 k_M.2.1 rfl rfl rfl ⟨by decide, by decide⟩ (Nat.le_of_ble_eq_true rfl) ⟨by decide, by decide⟩ d_Law_law_1054 (fun r7 ad7 c7 hp7 => ?_)
  obtain ⟨rfl, rfl, rfl⟩ := hp7
  refine r_iload X 1 d_Law_law_1057 rfl ?_
  refine r_icmp_eq X 1064 d_Law_law_1059 (by decide) (fun _ => ?_) (fun h9 => absurd rfl h9)
  refine r_iload X 1 d_Law_law_1064 rfl ?_
  refine r_if_ne X 1081 d_Law_law_1066 (by decide) (fun hz0 => ?_) (fun hz0 => ?_)
  · refine r_goto X 1603 d_Law_law_1081 (by decide) ?_
    refine r_lv [2, 5] [(4, .int 0), (0, .ref b)] rfl ?_
    exact law_next X hr hlk hX hbl (by decide) (by decide)
  · obtain ⟨f9, hf9, hg9⟩ := hv9 hz0
    have hq8 := hv8 hz0
    have ho8 := (he8 0 (by decide)).trans hf9
    refine r_aload_n X 3 d_Law_law_1069 rfl rfl ?_
    refine r_iconst X 0 d_Law_law_1070 (by decide) ?_
    refine x_lald X 7 ho8 rfl (by unfold vp_in; decide +kernel) (v := (0 : Int32).toInt64) hg9 d_Law_law_1071 ?_
    refine r_iload X 0 d_Law_law_1072 rfl ?_
    refine r_top (y := 0) hq8 ?_
    refine r_i2l X d_Law_law_1074 ?_
    refine r_lcmp X d_Law_law_1075 ?_
    refine r_top (y := 0) (lg_self _) ?_
    refine r_if_eq X 1081 d_Law_law_1076 (by decide) (fun _ => ?_) (fun h9 => absurd h9 (by decide))
    refine r_goto X 1603 d_Law_law_1081 (by decide) ?_
    refine r_lv [2, 5] [(4, .int 0), (0, .ref b)] rfl ?_
    exact law_next X hr hlk hX hbl (by decide) (by decide)
set_option maxRecDepth 100000 in
set_option maxHeartbeats 4000000 in
theorem lc_ofRoad {p : Program} {l : Launch} {e : Env} {s : State} {m : MethodId} {below : List Frame} {meth : Method} {cd : Code} {b : Nat} {xs : Nat → Int32} {D : va_G} {cy : Nat → ClassId} {t0 : Nat} (hst9 : l.stackTraces = false) (X : rX p s m #[Value.ref b] cd b_Law_law 9 R_Law W0 D cls (TY cy) (fun q => s.heap.size ≤ q)) (hr : meth.sig.returnType = ret) (hlk : meth.locks = false) (hN : rN NW s) (hE : rE t0 (fun q => s.heap.size ≤ q) s s.heap) (hX : va_X b 8 xs s s.heap) (hbl : b < s.heap.size) {ad : Nat → Nat} {c : rC} (hC : shC 64 c = cont cy (shA 64 ad) S00 J00) {f : Nat → Int64} (hO : c 0 = some (.inl (cy 7, 1, .inr (.inl f)))) {f1 f2 : Nat → Option Nat} (hm : mC t0 f1 f2 cy ad c) : rW p l e room_1 s m #[Value.ref b] below meth cd 9 D cls (fun q => s.heap.size ≤ q) 1000 10000 (lw_Z below #[Value.ref b] s) ad c 1084 [(4, .int 0), (3, .ref (ad 0)), (2, .ref (ad 128)), (1, .ref (ad 64)), (0, .ref b)] [] := by
  have h64 := (h64_of hC).trans (ct_lo (by decide))
  refine r_aload_n X 3 d_Law_law_1084 rfl rfl ?_
  refine r_aload_n X 4 d_Law_law_1085 rfl rfl ?_
  refine r_iload X 0 d_Law_law_1086 rfl ?_
  refine r_iconst X 1 d_Law_law_1088 (by decide) ?_
  refine r_iadd X d_Law_law_1089 ?_
  refine r_top (y := 1) (by decide) ?_
  refine x_sld X hX hbl (Nat.not_le.mpr hbl) (v := xs 1) (by unfold vp_in; decide +kernel) (congrArg xs (by decide +kernel : (1 : Int32).toNatClampNeg = 1)) d_Law_law_1090 ?_
  refine r_aload_n X 4 d_Law_law_1091 rfl rfl ?_
  refine r_iload X 0 d_Law_law_1092 rfl ?_
  refine r_iconst X 2 d_Law_law_1094 (by decide) ?_
  refine r_iadd X d_Law_law_1095 ?_
  refine r_top (y := 2) (by decide) ?_
  refine x_sld X hX hbl (Nat.not_le.mpr hbl) (v := xs 2) (by unfold vp_in; decide +kernel) (congrArg xs (by decide +kernel : (2 : Int32).toNatClampNeg = 2)) d_Law_law_1096 ?_
  refine r_aload_n X 1 d_Law_law_1097 rfl rfl ?_
  refine x_Sh X W0_good hN hE (w_ofRoad l hst9 D cy t0 ad c hC f hO (xs 1) (xs 2)) yh_ofRoad m_Law_132 rfl rfl ⟨by decide, by decide⟩ (Nat.le_of_ble_eq_true rfl) ⟨by decide, by decide⟩ d_Law_law_1098 (fun r9 ad9 c9 hp9 => ?_)
  obtain ⟨hk9, hv9, ha0, hfr⟩ := hp9
  subst hk9
  have hm9 := mC_frame hm hfr
  refine r_lv [0, 1, 2, 4] [(4, .int 0), (3, .ref (ad 0)), (2, .ref (ad 128)), (0, .ref b)] rfl ?_
  refine r_show c9 [(4, .int 0), (3, .ref (ad9 0)), (2, .ref (ad9 128)), (0, .ref b)] [.int (kF_ofRoad (xs 1) (xs 2))] rfl (by rw [ha0, (hfr 128 (by decide)).1]) rfl ?_
  refine r_istore X [(5, .int (kF_ofRoad (xs 1) (xs 2))), (4, .int 0), (3, .ref (ad9 0)), (2, .ref (ad9 128)), (0, .ref b)] d_Law_law_1101 (by decide) rfl ?_
  refine r_aload_n X 3 d_Law_law_1103 rfl rfl ?_
  refine r_aload_n X 4 d_Law_law_1104 rfl rfl ?_
  refine r_iload X 1 d_Law_law_1105 rfl ?_
  refine r_iconst X 1 d_Law_law_1107 (by decide) ?_
  refine r_iadd X d_Law_law_1108 ?_
  refine r_top (y := 1) (by decide) ?_
  refine x_sld X hX hbl (Nat.not_le.mpr hbl) (v := xs 1) (by unfold vp_in; decide +kernel) (congrArg xs (by decide +kernel : (1 : Int32).toNatClampNeg = 1)) d_Law_law_1109 ?_
  refine r_aload_n X 4 d_Law_law_1110 rfl rfl ?_
  refine r_iload X 1 d_Law_law_1111 rfl ?_
  refine r_iconst X 2 d_Law_law_1113 (by decide) ?_
  refine r_iadd X d_Law_law_1114 ?_
  refine r_top (y := 2) (by decide) ?_
  refine x_sld X hX hbl (Nat.not_le.mpr hbl) (v := xs 2) (by unfold vp_in; decide +kernel) (congrArg xs (by decide +kernel : (2 : Int32).toNatClampNeg = 2)) d_Law_law_1115 ?_
  refine x_Vi X W0_good hN hE (As := [.int (xs 1), .int (xs 2)]) (c_M_ofRoad l D cy t0 ad9 c9 f1 f2 hm9 (xs 1) (xs 2)) yv_M_ofRoad m_Law_134 (hm9.1) k_M.2.1 rfl rfl rfl ⟨by decide, by decide⟩ (Nat.le_of_ble_eq_true rfl) ⟨by decide, by decide⟩ d_Law_law_1116 (fun r8 ad8 c8 hp8 => ?_)
  obtain ⟨hv8, hd8, he8, fs8, ht8⟩ := hp8
  refine r_show c8 [(5, .int (kF_ofRoad (xs 1) (xs 2))), (4, .int 0), (3, .ref (ad8 0)), (2, .ref (ad8 128)), (0, .ref b)] [.int r8] rfl (by rw [hd8 0 (by decide), hd8 128 (by decide)]) rfl ?_
  refine r_istore X [(6, .int r8), (5, .int (kF_ofRoad (xs 1) (xs 2))), (4, .int 0), (3, .ref (ad8 0)), (2, .ref (ad8 128)), (0, .ref b)] d_Law_law_1119 (by decide) rfl ?_
  refine r_aload_n X 4 d_Law_law_1121 rfl rfl ?_
  refine r_Vi X W0_good hN (As := []) (c_M_thrown l D cy ad8 c8 (kF_ofRoad (xs 1) (xs 2)) fs8 ht8) yv_M_thrown m_Law_89 ht8 k_M.2.1 rfl rfl rfl ⟨by decide, by decide⟩ (Nat.le_of_ble_eq_true rfl) ⟨by decide, by decide⟩ d_Law_law_1122 (fun r7 ad7 c7 hp7 => ?_)
  obtain ⟨rfl, rfl, rfl⟩ := hp7
  refine r_iload X 1 d_Law_law_1125 rfl ?_
  refine r_icmp_eq X 1132 d_Law_law_1127 (by decide) (fun _ => ?_) (fun h9 => absurd rfl h9)
  refine r_iload X 1 d_Law_law_1132 rfl ?_
  refine r_if_ne X 1149 d_Law_law_1134 (by decide) (fun hz0 => ?_) (fun hz0 => ?_)
  · refine r_goto X 1603 d_Law_law_1149 (by decide) ?_
    refine r_lv [2, 5] [(4, .int 0), (0, .ref b)] rfl ?_
    exact law_next X hr hlk hX hbl (by decide) (by decide)
  · obtain ⟨f9, hf9, hg9⟩ := hv9 hz0
    have hq8 := hv8 hz0
    have ho8 := (he8 0 (by decide)).trans hf9
    refine r_aload_n X 3 d_Law_law_1137 rfl rfl ?_
    refine r_iconst X 0 d_Law_law_1138 (by decide) ?_
    refine x_lald X 7 ho8 rfl (by unfold vp_in; decide +kernel) (v := (0 : Int32).toInt64) hg9 d_Law_law_1139 ?_
    refine r_iload X 0 d_Law_law_1140 rfl ?_
    refine r_top (y := 0) hq8 ?_
    refine r_i2l X d_Law_law_1142 ?_
    refine r_lcmp X d_Law_law_1143 ?_
    refine r_top (y := 0) (lg_self _) ?_
    refine r_if_eq X 1149 d_Law_law_1144 (by decide) (fun _ => ?_) (fun h9 => absurd h9 (by decide))
    refine r_goto X 1603 d_Law_law_1149 (by decide) ?_
    refine r_lv [2, 5] [(4, .int 0), (0, .ref b)] rfl ?_
    exact law_next X hr hlk hX hbl (by decide) (by decide)
set_option maxRecDepth 100000 in
set_option maxHeartbeats 4000000 in
theorem lc_ofLorry {p : Program} {l : Launch} {e : Env} {s : State} {m : MethodId} {below : List Frame} {meth : Method} {cd : Code} {b : Nat} {xs : Nat → Int32} {D : va_G} {cy : Nat → ClassId} {t0 : Nat} (hst9 : l.stackTraces = false) (X : rX p s m #[Value.ref b] cd b_Law_law 9 R_Law W0 D cls (TY cy) (fun q => s.heap.size ≤ q)) (hr : meth.sig.returnType = ret) (hlk : meth.locks = false) (hN : rN NW s) (hE : rE t0 (fun q => s.heap.size ≤ q) s s.heap) (hX : va_X b 8 xs s s.heap) (hbl : b < s.heap.size) {ad : Nat → Nat} {c : rC} (hC : shC 64 c = cont cy (shA 64 ad) S00 J00) {f : Nat → Int64} (hO : c 0 = some (.inl (cy 7, 1, .inr (.inl f)))) {f1 f2 : Nat → Option Nat} (hm : mC t0 f1 f2 cy ad c) : rW p l e room_1 s m #[Value.ref b] below meth cd 9 D cls (fun q => s.heap.size ≤ q) 1000 10000 (lw_Z below #[Value.ref b] s) ad c 1152 [(4, .int 0), (3, .ref (ad 0)), (2, .ref (ad 128)), (1, .ref (ad 64)), (0, .ref b)] [] := by
  have h64 := (h64_of hC).trans (ct_lo (by decide))
  refine r_aload_n X 3 d_Law_law_1152 rfl rfl ?_
  refine r_aload_n X 4 d_Law_law_1153 rfl rfl ?_
  refine r_iload X 0 d_Law_law_1154 rfl ?_
  refine r_iconst X 1 d_Law_law_1156 (by decide) ?_
  refine r_iadd X d_Law_law_1157 ?_
  refine r_top (y := 1) (by decide) ?_
  refine x_sld X hX hbl (Nat.not_le.mpr hbl) (v := xs 1) (by unfold vp_in; decide +kernel) (congrArg xs (by decide +kernel : (1 : Int32).toNatClampNeg = 1)) d_Law_law_1158 ?_
  refine r_aload_n X 4 d_Law_law_1159 rfl rfl ?_
  refine r_iload X 0 d_Law_law_1160 rfl ?_
  refine r_iconst X 2 d_Law_law_1162 (by decide) ?_
  refine r_iadd X d_Law_law_1163 ?_
  refine r_top (y := 2) (by decide) ?_
  refine x_sld X hX hbl (Nat.not_le.mpr hbl) (v := xs 2) (by unfold vp_in; decide +kernel) (congrArg xs (by decide +kernel : (2 : Int32).toNatClampNeg = 2)) d_Law_law_1164 ?_
  refine r_aload_n X 1 d_Law_law_1165 rfl rfl ?_
  refine x_Sh X W0_good hN hE (w_ofLorry l hst9 D cy t0 ad c hC f hO (xs 1) (xs 2)) yh_ofLorry m_Law_135 rfl rfl ⟨by decide, by decide⟩ (Nat.le_of_ble_eq_true rfl) ⟨by decide, by decide⟩ d_Law_law_1166 (fun r9 ad9 c9 hp9 => ?_)
  obtain ⟨hk9, hv9, ha0, hfr⟩ := hp9
  subst hk9
  have hm9 := mC_frame hm hfr
  refine r_lv [0, 1, 2, 4] [(4, .int 0), (3, .ref (ad 0)), (2, .ref (ad 128)), (0, .ref b)] rfl ?_
  refine r_show c9 [(4, .int 0), (3, .ref (ad9 0)), (2, .ref (ad9 128)), (0, .ref b)] [.int (kF_ofLorry (xs 1) (xs 2))] rfl (by rw [ha0, (hfr 128 (by decide)).1]) rfl ?_
  refine r_istore X [(5, .int (kF_ofLorry (xs 1) (xs 2))), (4, .int 0), (3, .ref (ad9 0)), (2, .ref (ad9 128)), (0, .ref b)] d_Law_law_1169 (by decide) rfl ?_
  refine r_aload_n X 3 d_Law_law_1171 rfl rfl ?_
  refine r_aload_n X 4 d_Law_law_1172 rfl rfl ?_
  refine r_iload X 1 d_Law_law_1173 rfl ?_
  refine r_iconst X 1 d_Law_law_1175 (by decide) ?_
  refine r_iadd X d_Law_law_1176 ?_
  refine r_top (y := 1) (by decide) ?_
  refine x_sld X hX hbl (Nat.not_le.mpr hbl) (v := xs 1) (by unfold vp_in; decide +kernel) (congrArg xs (by decide +kernel : (1 : Int32).toNatClampNeg = 1)) d_Law_law_1177 ?_
  refine r_aload_n X 4 d_Law_law_1178 rfl rfl ?_
  refine r_iload X 1 d_Law_law_1179 rfl ?_
  refine r_iconst X 2 d_Law_law_1181 (by decide) ?_
  refine r_iadd X d_Law_law_1182 ?_
  refine r_top (y := 2) (by decide) ?_
  refine x_sld X hX hbl (Nat.not_le.mpr hbl) (v := xs 2) (by unfold vp_in; decide +kernel) (congrArg xs (by decide +kernel : (2 : Int32).toNatClampNeg = 2)) d_Law_law_1183 ?_
  refine x_Vi X W0_good hN hE (As := [.int (xs 1), .int (xs 2)]) (c_M_ofLorry l D cy t0 ad9 c9 f1 f2 hm9 (xs 1) (xs 2)) yv_M_ofLorry m_Law_137 (hm9.1) k_M.2.1 rfl rfl rfl ⟨by decide, by decide⟩ (Nat.le_of_ble_eq_true rfl) ⟨by decide, by decide⟩ d_Law_law_1184 (fun r8 ad8 c8 hp8 => ?_)
  obtain ⟨hv8, hd8, he8, fs8, ht8⟩ := hp8
  refine r_show c8 [(5, .int (kF_ofLorry (xs 1) (xs 2))), (4, .int 0), (3, .ref (ad8 0)), (2, .ref (ad8 128)), (0, .ref b)] [.int r8] rfl (by rw [hd8 0 (by decide), hd8 128 (by decide)]) rfl ?_
  refine r_istore X [(6, .int r8), (5, .int (kF_ofLorry (xs 1) (xs 2))), (4, .int 0), (3, .ref (ad8 0)), (2, .ref (ad8 128)), (0, .ref b)] d_Law_law_1187 (by decide) rfl ?_
  refine r_aload_n X 4 d_Law_law_1189 rfl rfl ?_
  refine r_Vi X W0_good hN (As := []) (c_M_thrown l D cy ad8 c8 (kF_ofLorry (xs 1) (xs 2)) fs8 ht8) yv_M_thrown m_Law_89 ht8 k_M.2.1 rfl rfl rfl ⟨by decide, by decide⟩ (Nat.le_of_ble_eq_true rfl) ⟨by decide, by decide⟩ d_Law_law_1190 (fun r7 ad7 c7 hp7 => ?_)
  obtain ⟨rfl, rfl, rfl⟩ := hp7
  refine r_iload X 1 d_Law_law_1193 rfl ?_
  refine r_icmp_eq X 1200 d_Law_law_1195 (by decide) (fun _ => ?_) (fun h9 => absurd rfl h9)
  refine r_iload X 1 d_Law_law_1200 rfl ?_
  refine r_if_ne X 1217 d_Law_law_1202 (by decide) (fun hz0 => ?_) (fun hz0 => ?_)
  · refine r_goto X 1603 d_Law_law_1217 (by decide) ?_
    refine r_lv [2, 5] [(4, .int 0), (0, .ref b)] rfl ?_
    exact law_next X hr hlk hX hbl (by decide) (by decide)
  · obtain ⟨f9, hf9, hg9⟩ := hv9 hz0
    have hq8 := hv8 hz0
    have ho8 := (he8 0 (by decide)).trans hf9
    refine r_aload_n X 3 d_Law_law_1205 rfl rfl ?_
    refine r_iconst X 0 d_Law_law_1206 (by decide) ?_
    refine x_lald X 7 ho8 rfl (by unfold vp_in; decide +kernel) (v := (0 : Int32).toInt64) hg9 d_Law_law_1207 ?_
    refine r_iload X 0 d_Law_law_1208 rfl ?_
    refine r_top (y := 0) hq8 ?_
    refine r_i2l X d_Law_law_1210 ?_
    refine r_lcmp X d_Law_law_1211 ?_
    refine r_top (y := 0) (lg_self _) ?_
    refine r_if_eq X 1217 d_Law_law_1212 (by decide) (fun _ => ?_) (fun h9 => absurd h9 (by decide))
    refine r_goto X 1603 d_Law_law_1217 (by decide) ?_
    refine r_lv [2, 5] [(4, .int 0), (0, .ref b)] rfl ?_
    exact law_next X hr hlk hX hbl (by decide) (by decide)
set_option maxRecDepth 100000 in
set_option maxHeartbeats 4000000 in
theorem lc_many {p : Program} {l : Launch} {e : Env} {s : State} {m : MethodId} {below : List Frame} {meth : Method} {cd : Code} {b : Nat} {xs : Nat → Int32} {D : va_G} {cy : Nat → ClassId} {t0 : Nat} (hst9 : l.stackTraces = false) (X : rX p s m #[Value.ref b] cd b_Law_law 9 R_Law W0 D cls (TY cy) (fun q => s.heap.size ≤ q)) (hr : meth.sig.returnType = ret) (hlk : meth.locks = false) (hN : rN NW s) (hE : rE t0 (fun q => s.heap.size ≤ q) s s.heap) (hX : va_X b 8 xs s s.heap) (hbl : b < s.heap.size) {ad : Nat → Nat} {c : rC} (hC : shC 64 c = cont cy (shA 64 ad) S00 J00) {f : Nat → Int64} (hO : c 0 = some (.inl (cy 7, 1, .inr (.inl f)))) {f1 f2 : Nat → Option Nat} (hm : mC t0 f1 f2 cy ad c) : rW p l e room_1 s m #[Value.ref b] below meth cd 9 D cls (fun q => s.heap.size ≤ q) 1000 10000 (lw_Z below #[Value.ref b] s) ad c 1220 [(4, .int 0), (3, .ref (ad 0)), (2, .ref (ad 128)), (1, .ref (ad 64)), (0, .ref b)] [] := by
  have h64 := (h64_of hC).trans (ct_lo (by decide))
  refine r_aload_n X 3 d_Law_law_1220 rfl rfl ?_
  refine r_aload_n X 4 d_Law_law_1221 rfl rfl ?_
  refine r_iload X 0 d_Law_law_1222 rfl ?_
  refine r_iconst X 1 d_Law_law_1224 (by decide) ?_
  refine r_iadd X d_Law_law_1225 ?_
  refine r_top (y := 1) (by decide) ?_
  refine x_sld X hX hbl (Nat.not_le.mpr hbl) (v := xs 1) (by unfold vp_in; decide +kernel) (congrArg xs (by decide +kernel : (1 : Int32).toNatClampNeg = 1)) d_Law_law_1226 ?_
  refine r_aload_n X 1 d_Law_law_1227 rfl rfl ?_
  refine x_Sh X W0_good hN hE (w_many l hst9 D cy t0 ad c hC f hO (xs 1)) yh_many m_Law_138 rfl rfl ⟨by decide, by decide⟩ (Nat.le_of_ble_eq_true rfl) ⟨by decide, by decide⟩ d_Law_law_1228 (fun r9 ad9 c9 hp9 => ?_)
  obtain ⟨hk9, hv9, ha0, hfr⟩ := hp9
  subst hk9
  have hm9 := mC_frame hm hfr
  refine r_lv [0, 1, 2, 4] [(4, .int 0), (3, .ref (ad 0)), (2, .ref (ad 128)), (0, .ref b)] rfl ?_
  refine r_show c9 [(4, .int 0), (3, .ref (ad9 0)), (2, .ref (ad9 128)), (0, .ref b)] [.int (kF_many (xs 1))] rfl (by rw [ha0, (hfr 128 (by decide)).1]) rfl ?_
  refine r_istore X [(5, .int (kF_many (xs 1))), (4, .int 0), (3, .ref (ad9 0)), (2, .ref (ad9 128)), (0, .ref b)] d_Law_law_1231 (by decide) rfl ?_
  refine r_aload_n X 3 d_Law_law_1233 rfl rfl ?_
  refine r_aload_n X 4 d_Law_law_1234 rfl rfl ?_
  refine r_iload X 1 d_Law_law_1235 rfl ?_
  refine r_iconst X 1 d_Law_law_1237 (by decide) ?_
  refine r_iadd X d_Law_law_1238 ?_
  refine r_top (y := 1) (by decide) ?_
  refine x_sld X hX hbl (Nat.not_le.mpr hbl) (v := xs 1) (by unfold vp_in; decide +kernel) (congrArg xs (by decide +kernel : (1 : Int32).toNatClampNeg = 1)) d_Law_law_1239 ?_
  refine x_Vi X W0_good hN hE (As := [.int (xs 1)]) (c_M_many l D cy t0 ad9 c9 f1 f2 hm9 (xs 1)) yv_M_many m_Law_140 (hm9.1) k_M.2.1 rfl rfl rfl ⟨by decide, by decide⟩ (Nat.le_of_ble_eq_true rfl) ⟨by decide, by decide⟩ d_Law_law_1240 (fun r8 ad8 c8 hp8 => ?_)
  obtain ⟨hv8, hd8, he8, fs8, ht8⟩ := hp8
  refine r_show c8 [(5, .int (kF_many (xs 1))), (4, .int 0), (3, .ref (ad8 0)), (2, .ref (ad8 128)), (0, .ref b)] [.int r8] rfl (by rw [hd8 0 (by decide), hd8 128 (by decide)]) rfl ?_
  refine r_istore X [(6, .int r8), (5, .int (kF_many (xs 1))), (4, .int 0), (3, .ref (ad8 0)), (2, .ref (ad8 128)), (0, .ref b)] d_Law_law_1243 (by decide) rfl ?_
  refine r_aload_n X 4 d_Law_law_1245 rfl rfl ?_
  refine r_Vi X W0_good hN (As := []) (c_M_thrown l D cy ad8 c8 (kF_many (xs 1)) fs8 ht8) yv_M_thrown m_Law_89 ht8 k_M.2.1 rfl rfl rfl ⟨by decide, by decide⟩ (Nat.le_of_ble_eq_true rfl) ⟨by decide, by decide⟩ d_Law_law_1246 (fun r7 ad7 c7 hp7 => ?_)
  obtain ⟨rfl, rfl, rfl⟩ := hp7
  refine r_iload X 1 d_Law_law_1249 rfl ?_
  refine r_icmp_eq X 1256 d_Law_law_1251 (by decide) (fun _ => ?_) (fun h9 => absurd rfl h9)
  refine r_iload X 1 d_Law_law_1256 rfl ?_
  refine r_if_ne X 1273 d_Law_law_1258 (by decide) (fun hz0 => ?_) (fun hz0 => ?_)
  · refine r_goto X 1603 d_Law_law_1273 (by decide) ?_
    refine r_lv [2, 5] [(4, .int 0), (0, .ref b)] rfl ?_
    exact law_next X hr hlk hX hbl (by decide) (by decide)
  · obtain ⟨f9, hf9, hg9⟩ := hv9 hz0
    have hq8 := hv8 hz0
    have ho8 := (he8 0 (by decide)).trans hf9
    refine r_aload_n X 3 d_Law_law_1261 rfl rfl ?_
    refine r_iconst X 0 d_Law_law_1262 (by decide) ?_
    refine x_lald X 7 ho8 rfl (by unfold vp_in; decide +kernel) (v := ((cntF S00 ((xs 1)).toNatClampNeg) : Int32).toInt64) hg9 d_Law_law_1263 ?_
    refine r_iload X 0 d_Law_law_1264 rfl ?_
    refine r_top (y := (cntF S00 ((xs 1)).toNatClampNeg)) hq8 ?_
    refine r_i2l X d_Law_law_1266 ?_
    refine r_lcmp X d_Law_law_1267 ?_
    refine r_top (y := 0) (lg_self _) ?_
    refine r_if_eq X 1273 d_Law_law_1268 (by decide) (fun _ => ?_) (fun h9 => absurd h9 (by decide))
    refine r_goto X 1603 d_Law_law_1273 (by decide) ?_
    refine r_lv [2, 5] [(4, .int 0), (0, .ref b)] rfl ?_
    exact law_next X hr hlk hX hbl (by decide) (by decide)
set_option maxRecDepth 100000 in
set_option maxHeartbeats 4000000 in
theorem lc_way {p : Program} {l : Launch} {e : Env} {s : State} {m : MethodId} {below : List Frame} {meth : Method} {cd : Code} {b : Nat} {xs : Nat → Int32} {D : va_G} {cy : Nat → ClassId} {t0 : Nat} (hst9 : l.stackTraces = false) (X : rX p s m #[Value.ref b] cd b_Law_law 9 R_Law W0 D cls (TY cy) (fun q => s.heap.size ≤ q)) (hr : meth.sig.returnType = ret) (hlk : meth.locks = false) (hN : rN NW s) (hE : rE t0 (fun q => s.heap.size ≤ q) s s.heap) (hX : va_X b 8 xs s s.heap) (hbl : b < s.heap.size) {ad : Nat → Nat} {c : rC} (hC : shC 64 c = cont cy (shA 64 ad) S00 J00) {f : Nat → Int64} (hO : c 0 = some (.inl (cy 7, 1, .inr (.inl f)))) {f1 f2 : Nat → Option Nat} (hm : mC t0 f1 f2 cy ad c) : rW p l e room_1 s m #[Value.ref b] below meth cd 9 D cls (fun q => s.heap.size ≤ q) 1000 10000 (lw_Z below #[Value.ref b] s) ad c 1276 [(4, .int 0), (3, .ref (ad 0)), (2, .ref (ad 128)), (1, .ref (ad 64)), (0, .ref b)] [] := by
  have h64 := (h64_of hC).trans (ct_lo (by decide))
  refine r_aload_n X 3 d_Law_law_1276 rfl rfl ?_
  refine r_aload_n X 4 d_Law_law_1277 rfl rfl ?_
  refine r_iload X 0 d_Law_law_1278 rfl ?_
  refine r_iconst X 1 d_Law_law_1280 (by decide) ?_
  refine r_iadd X d_Law_law_1281 ?_
  refine r_top (y := 1) (by decide) ?_
  refine x_sld X hX hbl (Nat.not_le.mpr hbl) (v := xs 1) (by unfold vp_in; decide +kernel) (congrArg xs (by decide +kernel : (1 : Int32).toNatClampNeg = 1)) d_Law_law_1282 ?_
  refine r_aload_n X 4 d_Law_law_1283 rfl rfl ?_
  refine r_iload X 0 d_Law_law_1284 rfl ?_
  refine r_iconst X 2 d_Law_law_1286 (by decide) ?_
  refine r_iadd X d_Law_law_1287 ?_
  refine r_top (y := 2) (by decide) ?_
  refine x_sld X hX hbl (Nat.not_le.mpr hbl) (v := xs 2) (by unfold vp_in; decide +kernel) (congrArg xs (by decide +kernel : (2 : Int32).toNatClampNeg = 2)) d_Law_law_1288 ?_
  refine r_aload_n X 1 d_Law_law_1289 rfl rfl ?_
  refine x_Sh X W0_good hN hE (w_way l hst9 D cy t0 ad c hC f hO (xs 1) (xs 2)) yh_way m_Law_141 rfl rfl ⟨by decide, by decide⟩ (Nat.le_of_ble_eq_true rfl) ⟨by decide, by decide⟩ d_Law_law_1290 (fun r9 ad9 c9 hp9 => ?_)
  obtain ⟨hk9, hv9, ha0, hfr⟩ := hp9
  subst hk9
  have hm9 := mC_frame hm hfr
  refine r_lv [0, 1, 2, 4] [(4, .int 0), (3, .ref (ad 0)), (2, .ref (ad 128)), (0, .ref b)] rfl ?_
  refine r_show c9 [(4, .int 0), (3, .ref (ad9 0)), (2, .ref (ad9 128)), (0, .ref b)] [.int (kF_way (xs 1) (xs 2))] rfl (by rw [ha0, (hfr 128 (by decide)).1]) rfl ?_
  refine r_istore X [(5, .int (kF_way (xs 1) (xs 2))), (4, .int 0), (3, .ref (ad9 0)), (2, .ref (ad9 128)), (0, .ref b)] d_Law_law_1293 (by decide) rfl ?_
  refine r_aload_n X 3 d_Law_law_1295 rfl rfl ?_
  refine r_aload_n X 4 d_Law_law_1296 rfl rfl ?_
  refine r_iload X 1 d_Law_law_1297 rfl ?_
  refine r_iconst X 1 d_Law_law_1299 (by decide) ?_
  refine r_iadd X d_Law_law_1300 ?_
  refine r_top (y := 1) (by decide) ?_
  refine x_sld X hX hbl (Nat.not_le.mpr hbl) (v := xs 1) (by unfold vp_in; decide +kernel) (congrArg xs (by decide +kernel : (1 : Int32).toNatClampNeg = 1)) d_Law_law_1301 ?_
  refine r_aload_n X 4 d_Law_law_1302 rfl rfl ?_
  refine r_iload X 1 d_Law_law_1303 rfl ?_
  refine r_iconst X 2 d_Law_law_1305 (by decide) ?_
  refine r_iadd X d_Law_law_1306 ?_
  refine r_top (y := 2) (by decide) ?_
  refine x_sld X hX hbl (Nat.not_le.mpr hbl) (v := xs 2) (by unfold vp_in; decide +kernel) (congrArg xs (by decide +kernel : (2 : Int32).toNatClampNeg = 2)) d_Law_law_1307 ?_
  refine x_Vi X W0_good hN hE (As := [.int (xs 1), .int (xs 2)]) (c_M_way l D cy t0 ad9 c9 f1 f2 hm9 (xs 1) (xs 2)) yv_M_way m_Law_143 (hm9.1) k_M.2.1 rfl rfl rfl ⟨by decide, by decide⟩ (Nat.le_of_ble_eq_true rfl) ⟨by decide, by decide⟩ d_Law_law_1308 (fun r8 ad8 c8 hp8 => ?_)
  obtain ⟨hv8, hd8, he8, fs8, ht8⟩ := hp8
  refine r_show c8 [(5, .int (kF_way (xs 1) (xs 2))), (4, .int 0), (3, .ref (ad8 0)), (2, .ref (ad8 128)), (0, .ref b)] [.int r8] rfl (by rw [hd8 0 (by decide), hd8 128 (by decide)]) rfl ?_
  refine r_istore X [(6, .int r8), (5, .int (kF_way (xs 1) (xs 2))), (4, .int 0), (3, .ref (ad8 0)), (2, .ref (ad8 128)), (0, .ref b)] d_Law_law_1311 (by decide) rfl ?_
  refine r_aload_n X 4 d_Law_law_1313 rfl rfl ?_
  refine r_Vi X W0_good hN (As := []) (c_M_thrown l D cy ad8 c8 (kF_way (xs 1) (xs 2)) fs8 ht8) yv_M_thrown m_Law_89 ht8 k_M.2.1 rfl rfl rfl ⟨by decide, by decide⟩ (Nat.le_of_ble_eq_true rfl) ⟨by decide, by decide⟩ d_Law_law_1314 (fun r7 ad7 c7 hp7 => ?_)
  obtain ⟨rfl, rfl, rfl⟩ := hp7
  refine r_iload X 1 d_Law_law_1317 rfl ?_
  refine r_icmp_eq X 1324 d_Law_law_1319 (by decide) (fun _ => ?_) (fun h9 => absurd rfl h9)
  refine r_iload X 1 d_Law_law_1324 rfl ?_
  refine r_if_ne X 1341 d_Law_law_1326 (by decide) (fun hz0 => ?_) (fun hz0 => ?_)
  · refine r_goto X 1603 d_Law_law_1341 (by decide) ?_
    refine r_lv [2, 5] [(4, .int 0), (0, .ref b)] rfl ?_
    exact law_next X hr hlk hX hbl (by decide) (by decide)
  · obtain ⟨f9, hf9, hg9⟩ := hv9 hz0
    have hq8 := hv8 hz0
    have ho8 := (he8 0 (by decide)).trans hf9
    refine r_aload_n X 3 d_Law_law_1329 rfl rfl ?_
    refine r_iconst X 0 d_Law_law_1330 (by decide) ?_
    refine x_lald X 7 ho8 rfl (by unfold vp_in; decide +kernel) (v := ((if (xs 1) = (xs 2) then 0 else -1) : Int32).toInt64) hg9 d_Law_law_1331 ?_
    refine r_iload X 0 d_Law_law_1332 rfl ?_
    refine r_top (y := (if (xs 1) = (xs 2) then 0 else -1)) hq8 ?_
    refine r_i2l X d_Law_law_1334 ?_
    refine r_lcmp X d_Law_law_1335 ?_
    refine r_top (y := 0) (lg_self _) ?_
    refine r_if_eq X 1341 d_Law_law_1336 (by decide) (fun _ => ?_) (fun h9 => absurd h9 (by decide))
    refine r_goto X 1603 d_Law_law_1341 (by decide) ?_
    refine r_lv [2, 5] [(4, .int 0), (0, .ref b)] rfl ?_
    exact law_next X hr hlk hX hbl (by decide) (by decide)
set_option maxRecDepth 100000 in
set_option maxHeartbeats 4000000 in
theorem lc_meanWarmth {p : Program} {l : Launch} {e : Env} {s : State} {m : MethodId} {below : List Frame} {meth : Method} {cd : Code} {b : Nat} {xs : Nat → Int32} {D : va_G} {cy : Nat → ClassId} {t0 : Nat} (hst9 : l.stackTraces = false) (X : rX p s m #[Value.ref b] cd b_Law_law 9 R_Law W0 D cls (TY cy) (fun q => s.heap.size ≤ q)) (hr : meth.sig.returnType = ret) (hlk : meth.locks = false) (hN : rN NW s) (hE : rE t0 (fun q => s.heap.size ≤ q) s s.heap) (hX : va_X b 8 xs s s.heap) (hbl : b < s.heap.size) {ad : Nat → Nat} {c : rC} (hC : shC 64 c = cont cy (shA 64 ad) S00 J00) {f : Nat → Int64} (hO : c 0 = some (.inl (cy 7, 1, .inr (.inl f)))) {f1 f2 : Nat → Option Nat} (hm : mC t0 f1 f2 cy ad c) : rW p l e room_1 s m #[Value.ref b] below meth cd 9 D cls (fun q => s.heap.size ≤ q) 1000 10000 (lw_Z below #[Value.ref b] s) ad c 1344 [(4, .int 0), (3, .ref (ad 0)), (2, .ref (ad 128)), (1, .ref (ad 64)), (0, .ref b)] [] := by
  have h64 := (h64_of hC).trans (ct_lo (by decide))
  refine r_aload_n X 3 d_Law_law_1344 rfl rfl ?_
  refine r_Vd X W0_good hN (As := []) (sub_d 64 (by rw [hC]; exact c_G_meanWarmth l D cy (shA 64 ad))) yv_G_meanWarmth m_Law_144 h64 k_G.2.1 rfl rfl rfl ⟨by decide, by decide⟩ (Nat.le_of_ble_eq_true rfl) ⟨by decide, by decide⟩ d_Law_law_1345 (fun r9 ad9 c9 hp9 => ?_)
  obtain ⟨a1, c1, hp9, rfl, rfl⟩ := hp9
  have hr9 : r9 = FP.dconst0 := hp9.symm
  subst hr9
  have hfr : ∀ n9, 128 ≤ n9 → jnA 64 ad a1 n9 = ad n9 ∧ jnC 64 c c1 n9 = c n9 := fun n9 hn9 => ⟨if_neg (by omega), if_neg (by omega)⟩
  have hm9 := mC_frame hm hfr
  refine r_lv [0, 2, 4] [(4, .int 0), (2, .ref (ad 128)), (0, .ref b)] rfl ?_
  refine r_show (jnC 64 c c1) [(4, .int 0), (2, .ref ((jnA 64 ad a1) 128)), (0, .ref b)] [.double FP.dconst0] rfl (by rw [(hfr 128 (by decide)).1]) rfl ?_
  refine x_dstore X [(5, .double FP.dconst0), (4, .int 0), (2, .ref ((jnA 64 ad a1) 128)), (0, .ref b)] d_Law_law_1348 (by decide) rfl ?_
  refine r_aload_n X 2 d_Law_law_1350 rfl rfl ?_
  refine x_Vd X W0_good hN hE (As := []) (c_M_meanWarmth l D cy t0 (jnA 64 ad a1) (jnC 64 c c1) f1 f2 hm9) yv_M_meanWarmth m_Law_148 (hm9.1) k_M.2.1 rfl rfl rfl ⟨by decide, by decide⟩ (Nat.le_of_ble_eq_true rfl) ⟨by decide, by decide⟩ d_Law_law_1351 (fun r8 ad8 c8 hp8 => ?_)
  obtain ⟨rfl, rfl, rfl⟩ := hp8
  refine x_dstore X [(7, .double FP.dconst0), (5, .double FP.dconst0), (4, .int 0), (2, .ref ((jnA 64 ad a1) 128)), (0, .ref b)] d_Law_law_1354 (by decide) rfl ?_
  refine r_dload X 1 d_Law_law_1356 rfl ?_
  refine r_dload X 0 d_Law_law_1358 rfl ?_
  refine r_dcmp X d_Law_law_1360 ?_
  refine r_top (y := 0) (by decide +kernel) ?_
  refine r_if_eq X 1382 d_Law_law_1361 (by decide) (fun _ => ?_) (fun h9 => absurd h9 (by decide))
  refine r_goto X 1603 d_Law_law_1382 (by decide) ?_
  refine r_lv [2, 4] [(4, .int 0), (0, .ref b)] rfl ?_
  exact law_next X hr hlk hX hbl (by decide) (by decide)
set_option maxRecDepth 100000 in
set_option maxHeartbeats 4000000 in
theorem lc_slipperyIn {p : Program} {l : Launch} {e : Env} {s : State} {m : MethodId} {below : List Frame} {meth : Method} {cd : Code} {b : Nat} {xs : Nat → Int32} {D : va_G} {cy : Nat → ClassId} {t0 : Nat} (hst9 : l.stackTraces = false) (X : rX p s m #[Value.ref b] cd b_Law_law 9 R_Law W0 D cls (TY cy) (fun q => s.heap.size ≤ q)) (hr : meth.sig.returnType = ret) (hlk : meth.locks = false) (hN : rN NW s) (hE : rE t0 (fun q => s.heap.size ≤ q) s s.heap) (hX : va_X b 8 xs s s.heap) (hbl : b < s.heap.size) {ad : Nat → Nat} {c : rC} (hC : shC 64 c = cont cy (shA 64 ad) S00 J00) {f : Nat → Int64} (hO : c 0 = some (.inl (cy 7, 1, .inr (.inl f)))) {f1 f2 : Nat → Option Nat} (hm : mC t0 f1 f2 cy ad c) : rW p l e room_1 s m #[Value.ref b] below meth cd 9 D cls (fun q => s.heap.size ≤ q) 1000 10000 (lw_Z below #[Value.ref b] s) ad c 1385 [(4, .int 0), (3, .ref (ad 0)), (2, .ref (ad 128)), (1, .ref (ad 64)), (0, .ref b)] [] := by
  have h64 := (h64_of hC).trans (ct_lo (by decide))
  refine r_aload_n X 3 d_Law_law_1385 rfl rfl ?_
  refine r_aload_n X 4 d_Law_law_1386 rfl rfl ?_
  refine r_iload X 0 d_Law_law_1387 rfl ?_
  refine r_iconst X 1 d_Law_law_1389 (by decide) ?_
  refine r_iadd X d_Law_law_1390 ?_
  refine r_top (y := 1) (by decide) ?_
  refine x_sld X hX hbl (Nat.not_le.mpr hbl) (v := xs 1) (by unfold vp_in; decide +kernel) (congrArg xs (by decide +kernel : (1 : Int32).toNatClampNeg = 1)) d_Law_law_1391 ?_
  refine r_aload_n X 4 d_Law_law_1392 rfl rfl ?_
  refine r_iload X 0 d_Law_law_1393 rfl ?_
  refine r_iconst X 2 d_Law_law_1395 (by decide) ?_
  refine r_iadd X d_Law_law_1396 ?_
  refine r_top (y := 2) (by decide) ?_
  refine x_sld X hX hbl (Nat.not_le.mpr hbl) (v := xs 2) (by unfold vp_in; decide +kernel) (congrArg xs (by decide +kernel : (2 : Int32).toNatClampNeg = 2)) d_Law_law_1397 ?_
  refine r_aload_n X 1 d_Law_law_1398 rfl rfl ?_
  refine x_Sh X W0_good hN hE (w_slipperyIn l hst9 D cy t0 ad c hC f hO (xs 1) (xs 2)) yh_slipperyIn m_Law_149 rfl rfl ⟨by decide, by decide⟩ (Nat.le_of_ble_eq_true rfl) ⟨by decide, by decide⟩ d_Law_law_1399 (fun r9 ad9 c9 hp9 => ?_)
  obtain ⟨hk9, hv9, ha0, hfr⟩ := hp9
  subst hk9
  have hm9 := mC_frame hm hfr
  refine r_lv [0, 1, 2, 4] [(4, .int 0), (3, .ref (ad 0)), (2, .ref (ad 128)), (0, .ref b)] rfl ?_
  refine r_show c9 [(4, .int 0), (3, .ref (ad9 0)), (2, .ref (ad9 128)), (0, .ref b)] [.int (kF_slipperyIn (xs 1) (xs 2))] rfl (by rw [ha0, (hfr 128 (by decide)).1]) rfl ?_
  refine r_istore X [(5, .int (kF_slipperyIn (xs 1) (xs 2))), (4, .int 0), (3, .ref (ad9 0)), (2, .ref (ad9 128)), (0, .ref b)] d_Law_law_1402 (by decide) rfl ?_
  refine r_aload_n X 3 d_Law_law_1404 rfl rfl ?_
  refine r_aload_n X 4 d_Law_law_1405 rfl rfl ?_
  refine r_iload X 1 d_Law_law_1406 rfl ?_
  refine r_iconst X 1 d_Law_law_1408 (by decide) ?_
  refine r_iadd X d_Law_law_1409 ?_
  refine r_top (y := 1) (by decide) ?_
  refine x_sld X hX hbl (Nat.not_le.mpr hbl) (v := xs 1) (by unfold vp_in; decide +kernel) (congrArg xs (by decide +kernel : (1 : Int32).toNatClampNeg = 1)) d_Law_law_1410 ?_
  refine r_aload_n X 4 d_Law_law_1411 rfl rfl ?_
  refine r_iload X 1 d_Law_law_1412 rfl ?_
  refine r_iconst X 2 d_Law_law_1414 (by decide) ?_
  refine r_iadd X d_Law_law_1415 ?_
  refine r_top (y := 2) (by decide) ?_
  refine x_sld X hX hbl (Nat.not_le.mpr hbl) (v := xs 2) (by unfold vp_in; decide +kernel) (congrArg xs (by decide +kernel : (2 : Int32).toNatClampNeg = 2)) d_Law_law_1416 ?_
  refine x_Vi X W0_good hN hE (As := [.int (xs 1), .int (xs 2)]) (c_M_slipperyIn l D cy t0 ad9 c9 f1 f2 hm9 (xs 1) (xs 2)) yv_M_slipperyIn m_Law_151 (hm9.1) k_M.2.1 rfl rfl rfl ⟨by decide, by decide⟩ (Nat.le_of_ble_eq_true rfl) ⟨by decide, by decide⟩ d_Law_law_1417 (fun r8 ad8 c8 hp8 => ?_)
  obtain ⟨hv8, hd8, he8, fs8, ht8⟩ := hp8
  refine r_show c8 [(5, .int (kF_slipperyIn (xs 1) (xs 2))), (4, .int 0), (3, .ref (ad8 0)), (2, .ref (ad8 128)), (0, .ref b)] [.int r8] rfl (by rw [hd8 0 (by decide), hd8 128 (by decide)]) rfl ?_
  refine r_istore X [(6, .int r8), (5, .int (kF_slipperyIn (xs 1) (xs 2))), (4, .int 0), (3, .ref (ad8 0)), (2, .ref (ad8 128)), (0, .ref b)] d_Law_law_1420 (by decide) rfl ?_
  refine r_aload_n X 4 d_Law_law_1422 rfl rfl ?_
  refine r_Vi X W0_good hN (As := []) (c_M_thrown l D cy ad8 c8 (kF_slipperyIn (xs 1) (xs 2)) fs8 ht8) yv_M_thrown m_Law_89 ht8 k_M.2.1 rfl rfl rfl ⟨by decide, by decide⟩ (Nat.le_of_ble_eq_true rfl) ⟨by decide, by decide⟩ d_Law_law_1423 (fun r7 ad7 c7 hp7 => ?_)
  obtain ⟨rfl, rfl, rfl⟩ := hp7
  refine r_iload X 1 d_Law_law_1426 rfl ?_
  refine r_icmp_eq X 1433 d_Law_law_1428 (by decide) (fun _ => ?_) (fun h9 => absurd rfl h9)
  refine r_iload X 1 d_Law_law_1433 rfl ?_
  refine r_if_ne X 1450 d_Law_law_1435 (by decide) (fun hz0 => ?_) (fun hz0 => ?_)
  · refine r_goto X 1603 d_Law_law_1450 (by decide) ?_
    refine r_lv [2, 5] [(4, .int 0), (0, .ref b)] rfl ?_
    exact law_next X hr hlk hX hbl (by decide) (by decide)
  · obtain ⟨f9, hf9, hg9⟩ := hv9 hz0
    have hq8 := hv8 hz0
    have ho8 := (he8 0 (by decide)).trans hf9
    refine r_aload_n X 3 d_Law_law_1438 rfl rfl ?_
    refine r_iconst X 0 d_Law_law_1439 (by decide) ?_
    refine x_lald X 7 ho8 rfl (by unfold vp_in; decide +kernel) (v := (0 : Int32).toInt64) hg9 d_Law_law_1440 ?_
    refine r_iload X 0 d_Law_law_1441 rfl ?_
    refine r_top (y := 0) hq8 ?_
    refine r_i2l X d_Law_law_1443 ?_
    refine r_lcmp X d_Law_law_1444 ?_
    refine r_top (y := 0) (lg_self _) ?_
    refine r_if_eq X 1450 d_Law_law_1445 (by decide) (fun _ => ?_) (fun h9 => absurd h9 (by decide))
    refine r_goto X 1603 d_Law_law_1450 (by decide) ?_
    refine r_lv [2, 5] [(4, .int 0), (0, .ref b)] rfl ?_
    exact law_next X hr hlk hX hbl (by decide) (by decide)
set_option maxRecDepth 100000 in
set_option maxHeartbeats 4000000 in
theorem lc_saltFor {p : Program} {l : Launch} {e : Env} {s : State} {m : MethodId} {below : List Frame} {meth : Method} {cd : Code} {b : Nat} {xs : Nat → Int32} {D : va_G} {cy : Nat → ClassId} {t0 : Nat} (hst9 : l.stackTraces = false) (X : rX p s m #[Value.ref b] cd b_Law_law 9 R_Law W0 D cls (TY cy) (fun q => s.heap.size ≤ q)) (hr : meth.sig.returnType = ret) (hlk : meth.locks = false) (hN : rN NW s) (hE : rE t0 (fun q => s.heap.size ≤ q) s s.heap) (hX : va_X b 8 xs s s.heap) (hbl : b < s.heap.size) {ad : Nat → Nat} {c : rC} (hC : shC 64 c = cont cy (shA 64 ad) S00 J00) {f : Nat → Int64} (hO : c 0 = some (.inl (cy 7, 1, .inr (.inl f)))) {f1 f2 : Nat → Option Nat} (hm : mC t0 f1 f2 cy ad c) : rW p l e room_1 s m #[Value.ref b] below meth cd 9 D cls (fun q => s.heap.size ≤ q) 1000 10000 (lw_Z below #[Value.ref b] s) ad c 1453 [(4, .int 0), (3, .ref (ad 0)), (2, .ref (ad 128)), (1, .ref (ad 64)), (0, .ref b)] [] := by
  have h64 := (h64_of hC).trans (ct_lo (by decide))
  refine r_aload_n X 3 d_Law_law_1453 rfl rfl ?_
  refine r_aload_n X 4 d_Law_law_1454 rfl rfl ?_
  refine r_iload X 0 d_Law_law_1455 rfl ?_
  refine r_iconst X 1 d_Law_law_1457 (by decide) ?_
  refine r_iadd X d_Law_law_1458 ?_
  refine r_top (y := 1) (by decide) ?_
  refine x_sld X hX hbl (Nat.not_le.mpr hbl) (v := xs 1) (by unfold vp_in; decide +kernel) (congrArg xs (by decide +kernel : (1 : Int32).toNatClampNeg = 1)) d_Law_law_1459 ?_
  refine r_aload_n X 4 d_Law_law_1460 rfl rfl ?_
  refine r_iload X 0 d_Law_law_1461 rfl ?_
  refine r_iconst X 2 d_Law_law_1463 (by decide) ?_
  refine r_iadd X d_Law_law_1464 ?_
  refine r_top (y := 2) (by decide) ?_
  refine x_sld X hX hbl (Nat.not_le.mpr hbl) (v := xs 2) (by unfold vp_in; decide +kernel) (congrArg xs (by decide +kernel : (2 : Int32).toNatClampNeg = 2)) d_Law_law_1465 ?_
  refine r_aload_n X 1 d_Law_law_1466 rfl rfl ?_
  refine x_Sh X W0_good hN hE (w_saltFor l hst9 D cy t0 ad c hC f hO (xs 1) (xs 2)) yh_saltFor m_Law_152 rfl rfl ⟨by decide, by decide⟩ (Nat.le_of_ble_eq_true rfl) ⟨by decide, by decide⟩ d_Law_law_1467 (fun r9 ad9 c9 hp9 => ?_)
  obtain ⟨hk9, hv9, ha0, hfr⟩ := hp9
  subst hk9
  have hm9 := mC_frame hm hfr
  refine r_lv [0, 1, 2, 4] [(4, .int 0), (3, .ref (ad 0)), (2, .ref (ad 128)), (0, .ref b)] rfl ?_
  refine r_show c9 [(4, .int 0), (3, .ref (ad9 0)), (2, .ref (ad9 128)), (0, .ref b)] [.int (kF_saltFor (xs 1) (xs 2))] rfl (by rw [ha0, (hfr 128 (by decide)).1]) rfl ?_
  refine r_istore X [(5, .int (kF_saltFor (xs 1) (xs 2))), (4, .int 0), (3, .ref (ad9 0)), (2, .ref (ad9 128)), (0, .ref b)] d_Law_law_1470 (by decide) rfl ?_
  refine r_aload_n X 3 d_Law_law_1472 rfl rfl ?_
  refine r_aload_n X 4 d_Law_law_1473 rfl rfl ?_
  refine r_iload X 1 d_Law_law_1474 rfl ?_
  refine r_iconst X 1 d_Law_law_1476 (by decide) ?_
  refine r_iadd X d_Law_law_1477 ?_
  refine r_top (y := 1) (by decide) ?_
  refine x_sld X hX hbl (Nat.not_le.mpr hbl) (v := xs 1) (by unfold vp_in; decide +kernel) (congrArg xs (by decide +kernel : (1 : Int32).toNatClampNeg = 1)) d_Law_law_1478 ?_
  refine r_aload_n X 4 d_Law_law_1479 rfl rfl ?_
  refine r_iload X 1 d_Law_law_1480 rfl ?_
  refine r_iconst X 2 d_Law_law_1482 (by decide) ?_
  refine r_iadd X d_Law_law_1483 ?_
  refine r_top (y := 2) (by decide) ?_
  refine x_sld X hX hbl (Nat.not_le.mpr hbl) (v := xs 2) (by unfold vp_in; decide +kernel) (congrArg xs (by decide +kernel : (2 : Int32).toNatClampNeg = 2)) d_Law_law_1484 ?_
  refine x_Vi X W0_good hN hE (As := [.int (xs 1), .int (xs 2)]) (c_M_saltFor l D cy t0 ad9 c9 f1 f2 hm9 (xs 1) (xs 2)) yv_M_saltFor m_Law_154 (hm9.1) k_M.2.1 rfl rfl rfl ⟨by decide, by decide⟩ (Nat.le_of_ble_eq_true rfl) ⟨by decide, by decide⟩ d_Law_law_1485 (fun r8 ad8 c8 hp8 => ?_)
  obtain ⟨hv8, hd8, he8, fs8, ht8⟩ := hp8
  refine r_show c8 [(5, .int (kF_saltFor (xs 1) (xs 2))), (4, .int 0), (3, .ref (ad8 0)), (2, .ref (ad8 128)), (0, .ref b)] [.int r8] rfl (by rw [hd8 0 (by decide), hd8 128 (by decide)]) rfl ?_
  refine r_istore X [(6, .int r8), (5, .int (kF_saltFor (xs 1) (xs 2))), (4, .int 0), (3, .ref (ad8 0)), (2, .ref (ad8 128)), (0, .ref b)] d_Law_law_1488 (by decide) rfl ?_
  refine r_aload_n X 4 d_Law_law_1490 rfl rfl ?_
  refine r_Vi X W0_good hN (As := []) (c_M_thrown l D cy ad8 c8 (kF_saltFor (xs 1) (xs 2)) fs8 ht8) yv_M_thrown m_Law_89 ht8 k_M.2.1 rfl rfl rfl ⟨by decide, by decide⟩ (Nat.le_of_ble_eq_true rfl) ⟨by decide, by decide⟩ d_Law_law_1491 (fun r7 ad7 c7 hp7 => ?_)
  obtain ⟨rfl, rfl, rfl⟩ := hp7
  refine r_iload X 1 d_Law_law_1494 rfl ?_
  refine r_icmp_eq X 1501 d_Law_law_1496 (by decide) (fun _ => ?_) (fun h9 => absurd rfl h9)
  refine r_iload X 1 d_Law_law_1501 rfl ?_
  refine r_if_ne X 1518 d_Law_law_1503 (by decide) (fun hz0 => ?_) (fun hz0 => ?_)
  · refine r_goto X 1603 d_Law_law_1518 (by decide) ?_
    refine r_lv [2, 5] [(4, .int 0), (0, .ref b)] rfl ?_
    exact law_next X hr hlk hX hbl (by decide) (by decide)
  · obtain ⟨f9, hf9, hg9⟩ := hv9 hz0
    have hq8 := hv8 hz0
    have ho8 := (he8 0 (by decide)).trans hf9
    refine r_aload_n X 3 d_Law_law_1506 rfl rfl ?_
    refine r_iconst X 0 d_Law_law_1507 (by decide) ?_
    refine x_lald X 7 ho8 rfl (by unfold vp_in; decide +kernel) (v := (0 : Int32).toInt64) hg9 d_Law_law_1508 ?_
    refine r_iload X 0 d_Law_law_1509 rfl ?_
    refine r_top (y := 0) hq8 ?_
    refine r_i2l X d_Law_law_1511 ?_
    refine r_lcmp X d_Law_law_1512 ?_
    refine r_top (y := 0) (lg_self _) ?_
    refine r_if_eq X 1518 d_Law_law_1513 (by decide) (fun _ => ?_) (fun h9 => absurd h9 (by decide))
    refine r_goto X 1603 d_Law_law_1518 (by decide) ?_
    refine r_lv [2, 5] [(4, .int 0), (0, .ref b)] rfl ?_
    exact law_next X hr hlk hX hbl (by decide) (by decide)
set_option maxRecDepth 100000 in
set_option maxHeartbeats 4000000 in
theorem lc_bestOrders {p : Program} {l : Launch} {e : Env} {s : State} {m : MethodId} {below : List Frame} {meth : Method} {cd : Code} {b : Nat} {xs : Nat → Int32} {D : va_G} {cy : Nat → ClassId} {t0 : Nat} (hst9 : l.stackTraces = false) (X : rX p s m #[Value.ref b] cd b_Law_law 9 R_Law W0 D cls (TY cy) (fun q => s.heap.size ≤ q)) (hr : meth.sig.returnType = ret) (hlk : meth.locks = false) (hN : rN NW s) (hE : rE t0 (fun q => s.heap.size ≤ q) s s.heap) (hX : va_X b 8 xs s s.heap) (hbl : b < s.heap.size) {ad : Nat → Nat} {c : rC} (hC : shC 64 c = cont cy (shA 64 ad) S00 J00) {f : Nat → Int64} (hO : c 0 = some (.inl (cy 7, 1, .inr (.inl f)))) {f1 f2 : Nat → Option Nat} (hm : mC t0 f1 f2 cy ad c) : rW p l e room_1 s m #[Value.ref b] below meth cd 9 D cls (fun q => s.heap.size ≤ q) 1000 10000 (lw_Z below #[Value.ref b] s) ad c 1521 [(4, .int 0), (3, .ref (ad 0)), (2, .ref (ad 128)), (1, .ref (ad 64)), (0, .ref b)] [] := by
  have h64 := (h64_of hC).trans (ct_lo (by decide))
  refine r_aload_n X 3 d_Law_law_1521 rfl rfl ?_
  refine r_aload_n X 4 d_Law_law_1522 rfl rfl ?_
  refine r_iload X 0 d_Law_law_1523 rfl ?_
  refine r_iconst X 1 d_Law_law_1525 (by decide) ?_
  refine r_iadd X d_Law_law_1526 ?_
  refine r_top (y := 1) (by decide) ?_
  refine x_sld X hX hbl (Nat.not_le.mpr hbl) (v := xs 1) (by unfold vp_in; decide +kernel) (congrArg xs (by decide +kernel : (1 : Int32).toNatClampNeg = 1)) d_Law_law_1527 ?_
  refine r_aload_n X 4 d_Law_law_1528 rfl rfl ?_
  refine r_iload X 0 d_Law_law_1529 rfl ?_
  refine r_iconst X 2 d_Law_law_1531 (by decide) ?_
  refine r_iadd X d_Law_law_1532 ?_
  refine r_top (y := 2) (by decide) ?_
  refine x_sld X hX hbl (Nat.not_le.mpr hbl) (v := xs 2) (by unfold vp_in; decide +kernel) (congrArg xs (by decide +kernel : (2 : Int32).toNatClampNeg = 2)) d_Law_law_1533 ?_
  refine r_aload_n X 1 d_Law_law_1534 rfl rfl ?_
  refine x_Sh X W0_good hN hE (w_bestOrders l hst9 D cy t0 ad c hC f hO (xs 1) (xs 2)) yh_bestOrders m_Law_155 rfl rfl ⟨by decide, by decide⟩ (Nat.le_of_ble_eq_true rfl) ⟨by decide, by decide⟩ d_Law_law_1535 (fun r9 ad9 c9 hp9 => ?_)
  obtain ⟨hk9, hv9, ha0, hfr⟩ := hp9
  subst hk9
  have hm9 := mC_frame hm hfr
  refine r_lv [0, 1, 2, 4] [(4, .int 0), (3, .ref (ad 0)), (2, .ref (ad 128)), (0, .ref b)] rfl ?_
  refine r_show c9 [(4, .int 0), (3, .ref (ad9 0)), (2, .ref (ad9 128)), (0, .ref b)] [.int (kF_bestOrders (xs 1) (xs 2))] rfl (by rw [ha0, (hfr 128 (by decide)).1]) rfl ?_
  refine r_istore X [(5, .int (kF_bestOrders (xs 1) (xs 2))), (4, .int 0), (3, .ref (ad9 0)), (2, .ref (ad9 128)), (0, .ref b)] d_Law_law_1538 (by decide) rfl ?_
  refine r_aload_n X 3 d_Law_law_1540 rfl rfl ?_
  refine r_aload_n X 4 d_Law_law_1541 rfl rfl ?_
  refine r_iload X 1 d_Law_law_1542 rfl ?_
  refine r_iconst X 1 d_Law_law_1544 (by decide) ?_
  refine r_iadd X d_Law_law_1545 ?_
  refine r_top (y := 1) (by decide) ?_
  refine x_sld X hX hbl (Nat.not_le.mpr hbl) (v := xs 1) (by unfold vp_in; decide +kernel) (congrArg xs (by decide +kernel : (1 : Int32).toNatClampNeg = 1)) d_Law_law_1546 ?_
  refine r_aload_n X 4 d_Law_law_1547 rfl rfl ?_
  refine r_iload X 1 d_Law_law_1548 rfl ?_
  refine r_iconst X 2 d_Law_law_1550 (by decide) ?_
  refine r_iadd X d_Law_law_1551 ?_
  refine r_top (y := 2) (by decide) ?_
  refine x_sld X hX hbl (Nat.not_le.mpr hbl) (v := xs 2) (by unfold vp_in; decide +kernel) (congrArg xs (by decide +kernel : (2 : Int32).toNatClampNeg = 2)) d_Law_law_1552 ?_
  refine x_Vi X W0_good hN hE (As := [.int (xs 1), .int (xs 2)]) (c_M_bestOrders l D cy t0 ad9 c9 f1 f2 hm9 (xs 1) (xs 2)) yv_M_bestOrders m_Law_157 (hm9.1) k_M.2.1 rfl rfl rfl ⟨by decide, by decide⟩ (Nat.le_of_ble_eq_true rfl) ⟨by decide, by decide⟩ d_Law_law_1553 (fun r8 ad8 c8 hp8 => ?_)
  obtain ⟨hv8, hd8, he8, fs8, ht8⟩ := hp8
  refine r_show c8 [(5, .int (kF_bestOrders (xs 1) (xs 2))), (4, .int 0), (3, .ref (ad8 0)), (2, .ref (ad8 128)), (0, .ref b)] [.int r8] rfl (by rw [hd8 0 (by decide), hd8 128 (by decide)]) rfl ?_
  refine r_istore X [(6, .int r8), (5, .int (kF_bestOrders (xs 1) (xs 2))), (4, .int 0), (3, .ref (ad8 0)), (2, .ref (ad8 128)), (0, .ref b)] d_Law_law_1556 (by decide) rfl ?_
  refine r_aload_n X 4 d_Law_law_1558 rfl rfl ?_
  refine r_Vi X W0_good hN (As := []) (c_M_thrown l D cy ad8 c8 (kF_bestOrders (xs 1) (xs 2)) fs8 ht8) yv_M_thrown m_Law_89 ht8 k_M.2.1 rfl rfl rfl ⟨by decide, by decide⟩ (Nat.le_of_ble_eq_true rfl) ⟨by decide, by decide⟩ d_Law_law_1559 (fun r7 ad7 c7 hp7 => ?_)
  obtain ⟨rfl, rfl, rfl⟩ := hp7
  refine r_iload X 1 d_Law_law_1562 rfl ?_
  refine r_icmp_eq X 1569 d_Law_law_1564 (by decide) (fun _ => ?_) (fun h9 => absurd rfl h9)
  refine r_iload X 1 d_Law_law_1569 rfl ?_
  refine r_if_ne X 1586 d_Law_law_1571 (by decide) (fun hz0 => ?_) (fun hz0 => ?_)
  · refine r_goto X 1603 d_Law_law_1586 (by decide) ?_
    refine r_lv [2, 5] [(4, .int 0), (0, .ref b)] rfl ?_
    exact law_next X hr hlk hX hbl (by decide) (by decide)
  · obtain ⟨f9, hf9, hg9⟩ := hv9 hz0
    have hq8 := hv8 hz0
    have ho8 := (he8 0 (by decide)).trans hf9
    refine r_aload_n X 3 d_Law_law_1574 rfl rfl ?_
    refine r_iconst X 0 d_Law_law_1575 (by decide) ?_
    refine x_lald X 7 ho8 rfl (by unfold vp_in; decide +kernel) (v := (0 : Int32).toInt64) hg9 d_Law_law_1576 ?_
    refine r_iload X 0 d_Law_law_1577 rfl ?_
    refine r_top (y := 0) hq8 ?_
    refine r_i2l X d_Law_law_1579 ?_
    refine r_lcmp X d_Law_law_1580 ?_
    refine r_top (y := 0) (lg_self _) ?_
    refine r_if_eq X 1586 d_Law_law_1581 (by decide) (fun _ => ?_) (fun h9 => absurd h9 (by decide))
    refine r_goto X 1603 d_Law_law_1586 (by decide) ?_
    refine r_lv [2, 5] [(4, .int 0), (0, .ref b)] rfl ?_
    exact law_next X hr hlk hX hbl (by decide) (by decide)
set_option maxRecDepth 100000 in
set_option maxHeartbeats 4000000 in
theorem lc_digest {p : Program} {l : Launch} {e : Env} {s : State} {m : MethodId} {below : List Frame} {meth : Method} {cd : Code} {b : Nat} {xs : Nat → Int32} {D : va_G} {cy : Nat → ClassId} {t0 : Nat} (hst9 : l.stackTraces = false) (X : rX p s m #[Value.ref b] cd b_Law_law 9 R_Law W0 D cls (TY cy) (fun q => s.heap.size ≤ q)) (hr : meth.sig.returnType = ret) (hlk : meth.locks = false) (hN : rN NW s) (hE : rE t0 (fun q => s.heap.size ≤ q) s s.heap) (hX : va_X b 8 xs s s.heap) (hbl : b < s.heap.size) {ad : Nat → Nat} {c : rC} (hC : shC 64 c = cont cy (shA 64 ad) S00 J00) {f : Nat → Int64} (hO : c 0 = some (.inl (cy 7, 1, .inr (.inl f)))) {f1 f2 : Nat → Option Nat} (hm : mC t0 f1 f2 cy ad c) : rW p l e room_1 s m #[Value.ref b] below meth cd 9 D cls (fun q => s.heap.size ≤ q) 1000 10000 (lw_Z below #[Value.ref b] s) ad c 1589 [(4, .int 0), (3, .ref (ad 0)), (2, .ref (ad 128)), (1, .ref (ad 64)), (0, .ref b)] [] := by
  have h64 := (h64_of hC).trans (ct_lo (by decide))
  refine r_aload_n X 3 d_Law_law_1589 rfl rfl ?_
  refine r_Vl X W0_good hN (As := []) (sub_l 64 (by rw [hC]; exact c_G_digest l D cy (shA 64 ad) S00 J00 wf_00)) yv_G_digest m_Law_158 h64 k_G.2.1 rfl rfl rfl ⟨by decide, by decide⟩ (Nat.le_of_ble_eq_true rfl) ⟨by decide, by decide⟩ d_Law_law_1590 (fun r9 ad9 c9 hp9 => ?_)
  obtain ⟨a1, c1, hp9, rfl, rfl⟩ := hp9
  have hr9 : r9 = digF S00 := hp9.1.symm
  subst hr9
  have hfr : ∀ n9, 128 ≤ n9 → jnA 64 ad a1 n9 = ad n9 ∧ jnC 64 c c1 n9 = c n9 := fun n9 hn9 => ⟨if_neg (by omega), if_neg (by omega)⟩
  have hm9 := mC_frame hm hfr
  refine r_lv [0, 2, 4] [(4, .int 0), (2, .ref (ad 128)), (0, .ref b)] rfl ?_
  refine r_show (jnC 64 c c1) [(4, .int 0), (2, .ref ((jnA 64 ad a1) 128)), (0, .ref b)] [.long (digF S00)] rfl (by rw [(hfr 128 (by decide)).1]) rfl ?_
  refine r_aload_n X 1 d_Law_law_1593 rfl rfl ?_
  refine x_Vl X W0_good hN hE (As := []) (c_M_digest l D cy t0 (jnA 64 ad a1) (jnC 64 c c1) f1 f2 hm9) yv_M_digest m_Law_162 (hm9.1) k_M.2.1 rfl rfl rfl ⟨by decide, by decide⟩ (Nat.le_of_ble_eq_true rfl) ⟨by decide, by decide⟩ d_Law_law_1594 (fun r8 ad8 c8 hp8 => ?_)
  obtain ⟨rfl, rfl, rfl⟩ := hp8
  refine r_lcmp X d_Law_law_1597 ?_
  refine r_top (y := 0) (lg_self _) ?_
  refine r_if_eq X 1603 d_Law_law_1598 (by decide) (fun _ => ?_) (fun h9 => absurd h9 (by decide))
  refine r_lv [0, 2] [(4, .int 0), (0, .ref b)] rfl ?_
  exact law_next X hr hlk hX hbl (by decide) (by decide)
