/-! beside the world: the law's script, which lies outside of all that is named; by program (wip/p24/mk33.py) -/
def rE (b9 L9 : Nat) (xs9 : Nat → Int32) (A : Nat → Prop) (U : State) (H : Heap) : Prop := va_X b9 L9 xs9 U H ∧ b9 < H.size ∧ ¬ A b9
theorem rE.call {b9 L9 : Nat} {xs9 : Nat → Int32} {A B : Nat → Prop} {s U : State} {H : Heap} {locs : List Loc} (h : rE b9 L9 xs9 A s s.heap) (hS : va_S A s.heap H locs) (hW : s.WarmedH U.vm) (hU : U.heap = H) (hB : ∀ q, B q → A q) : rE b9 L9 xs9 B U U.heap := by
  obtain ⟨h1, h2, h3⟩ := h
  subst hU
  exact ⟨(h1.kept (hS.2.1 b9 h2 h3)).moved hW.alike, Nat.lt_of_lt_of_le h2 hS.1, fun z => h3 (hB b9 z)⟩
def rPx (D : va_G) (cl : List vw_C) (tys : List (ClassId × FieldType)) (NW : List Cond) (b9 L9 : Nat) (xs9 : Nat → Int32) (ad : Nat → Nat) (c : rC) (sz : Nat) (U : State) : Prop := rP D cl tys NW ad c sz U ∧ rE b9 L9 xs9 (rA ad c sz) U U.heap
theorem rPx.blind {D : va_G} {cl : List vw_C} {tys : List (ClassId × FieldType)} {NW : List Cond} {b9 L9 : Nat} {xs9 : Nat → Int32} {ad : Nat → Nat} {c : rC} {sz : Nat} {av : List Value} : FrameBlind (va_Pc av (rPx D cl tys NW b9 L9 xs9 ad c sz)) := fun a U g mk q => by
  obtain ⟨q0, q1, q2⟩ := q
  obtain ⟨-, r1⟩ := (rP.blind (av := av)) a U g mk ⟨q0, q1⟩
  exact ⟨q0, r1, q2.call (s := U) (U := U.calling g mk a) (locs := []) va_S.rf (State.WarmedH.refl U) rfl (fun _ h => h)⟩
theorem rPx.at {D : va_G} {cl : List vw_C} {tys : List (ClassId × FieldType)} {NW : List Cond} {b9 L9 : Nat} {xs9 : Nat → Int32} {A : Nat → Prop} {ad : Nat → Nat} {c : rC} {s U : State} {H : Heap} {locs : List Loc} (hU : U.heap = H) (hW : s.WarmedH U.vm) (hP : rp D cl A ad c H) (hS : va_S A s.heap H locs) (hA : ∀ q, s.heap.size ≤ q → A q) (hK : va_K D cl tys s) (hN : rN NW s) (hE : rE b9 L9 xs9 A s s.heap) : rPx D cl tys NW b9 L9 xs9 ad c H.size U :=
  ⟨rP.at hU hW hP hK hN, hE.call hS hW hU (rA.in hP hS hA)⟩
def xMi (l : Launch) (D : va_G) (cl : List vw_C) (tys : List (ClassId × FieldType)) (NW : List Cond) (b9 L9 : Nat) (xs9 : Nat → Int32) (y : MethodName) (ws : List Cond) (rm : Room) (args : List Value) (ad : Nat → Nat) (c : rC) (post : Int32 → (Nat → Nat) → rC → Prop) : Prop :=
  ∀ sz : Nat, Met l y ws rm (va_Pc args (rPx D cl tys NW b9 L9 xs9 ad c sz)) (va_Qi (fun r (u : rU) => post r u.1 u.2) (fun u t => rp D cl (rA ad c sz) u.1 u.2 t.heap) (rA ad c sz)) rm.cells rm.slots (rA ad c sz)
/-- what a call of a plain contract needs is there -/
theorem xMi.of {l : Launch} {D : va_G} {cl : List vw_C} {tys : List (ClassId × FieldType)} {NW : List Cond} {b9 L9 : Nat} {xs9 : Nat → Int32} {y : MethodName} {ws : List Cond} {rm : Room} {args : List Value} {ad : Nat → Nat} {c : rC} {post : Int32 → (Nat → Nat) → rC → Prop} (h : rMi l D cl tys NW y ws rm args ad c post) : xMi l D cl tys NW b9 L9 xs9 y ws rm args ad c post := fun sz => met_lift (h sz) (fun _ _ hU => ⟨hU.1, hU.2.1⟩) (fun _ _ _ _ _ hq => hq) (fun _ hq => hq)
theorem rMi.mono {l : Launch} {D : va_G} {cl : List vw_C} {tys : List (ClassId × FieldType)} {NW : List Cond} {y : MethodName} {ws : List Cond} {rm : Room} {args : List Value} {ad : Nat → Nat} {c : rC} {post post' : Int32 → (Nat → Nat) → rC → Prop} (h : rMi l D cl tys NW y ws rm args ad c post) (hp : ∀ r a c', post r a c' → post' r a c') : rMi l D cl tys NW y ws rm args ad c post' := fun sz => met_lift (h sz) (fun _ _ hU => hU) (fun _ _ _ _ _ hq => by
  obtain ⟨⟨r, u, q1, q2, q3⟩, qF⟩ := hq
  exact ⟨⟨r, u, q1, hp _ _ _ q2, q3⟩, qF⟩) (fun _ hq => hq)
theorem rMl.mono {l : Launch} {D : va_G} {cl : List vw_C} {tys : List (ClassId × FieldType)} {NW : List Cond} {y : MethodName} {ws : List Cond} {rm : Room} {args : List Value} {ad : Nat → Nat} {c : rC} {post post' : Int64 → (Nat → Nat) → rC → Prop} (h : rMl l D cl tys NW y ws rm args ad c post) (hp : ∀ r a c', post r a c' → post' r a c') : rMl l D cl tys NW y ws rm args ad c post' := fun sz => met_lift (h sz) (fun _ _ hU => hU) (fun _ _ _ _ _ hq => by
  obtain ⟨⟨r, u, q1, q2, q3⟩, qF⟩ := hq
  exact ⟨⟨r, u, q1, hp _ _ _ q2, q3⟩, qF⟩) (fun _ hq => hq)
/-! a call out of a bigger world: the names off .. off + 127 are the callee's 0 .. 127 -/
def s2C (off : Nat) (c : rC) : rC := fun k => if k < 128 then c (off + k) else none
def s2A (off : Nat) (ad : Nat → Nat) : Nat → Nat := fun k => ad (off + k)
def j2C (off : Nat) (c c1 : rC) : rC := fun n => if off ≤ n ∧ n < off + 128 then c1 (n - off) else c n
def j2A (off : Nat) (ad a1 : Nat → Nat) : Nat → Nat := fun n => if off ≤ n ∧ n < off + 128 then a1 (n - off) else ad n
theorem sh2_some {off : Nat} {c : rC} {k : Nat} (h : s2C off c k ≠ none) : k < 128 ∧ c (off + k) ≠ none := by
  unfold s2C at h
  by_cases hk : k < 128
  · rw [if_pos hk] at h
    exact ⟨hk, h⟩
  · rw [if_neg hk] at h
    exact absurd rfl h
theorem rp_s2 {D : va_G} {cl : List vw_C} {A : Nat → Prop} {ad : Nat → Nat} {c : rC} {H : Heap} (off : Nat) (h : rp D cl A ad c H) : rp D cl A (s2A off ad) (s2C off c) H := by
  refine ⟨fun k e hk => ?_, fun i j hi hj hij => ?_⟩
  · have h1 := sh2_some (c := c) (off := off) (k := k) (by rw [hk]; exact (fun z => by cases z))
    unfold s2C at hk
    rw [if_pos h1.1] at hk
    exact h.1 _ _ hk
  · have h1 := sh2_some hi
    have h2 := sh2_some hj
    have h3 := h.2 _ _ h1.2 h2.2 hij
    omega
theorem rA_s2 {off sz : Nat} {ad : Nat → Nat} {c : rC} {q : Nat} (h : rA (s2A off ad) (s2C off c) sz q) : rA ad c sz q := by
  rcases h with ⟨k, h1, h2⟩ | h
  · exact Or.inl ⟨off + k, (sh2_some h1).2, h2⟩
  · exact Or.inr h
theorem rp_j2 {D : va_G} {cl : List vw_C} {A : Nat → Prop} {ad a1 : Nat → Nat} {c c1 : rC} {H H1 : Heap} (off : Nat) (h : rp D cl A ad c H) (h1 : rp D cl (rA (s2A off ad) (s2C off c) H.size) a1 c1 H1) (hk : ∀ q : Nat, q < H.size → ¬ rA (s2A off ad) (s2C off c) H.size q → H1[q]? = H[q]?) : rp D cl (rA ad c H.size) (j2A off ad a1) (j2C off c c1) H1 := by
  -- a name outside: its place is not the callee's
  have hout : ∀ n, ¬ (off ≤ n ∧ n < off + 128) → c n ≠ none → ¬ rA (s2A off ad) (s2C off c) H.size (ad n) := by
    intro n hn hc hr
    rcases hr with ⟨k, g1, g2⟩ | hr
    · have g3 := sh2_some g1
      have g4 := h.2 _ _ g3.2 hc g2
      omega
    · have := h.lt hc
      omega
  have hin : ∀ k, c1 k ≠ none → rA (s2A off ad) (s2C off c) H.size (a1 k) := by
    intro k hk1
    cases e : c1 k with
    | none => exact absurd e hk1
    | some x => exact (h1.1 k x e).2
  refine ⟨fun n e hn => ?_, fun i j hi hj hij => ?_⟩
  · by_cases hr : off ≤ n ∧ n < off + 128
    · have hn1 : c1 (n - off) = some e := by
        unfold j2C at hn
        rwa [if_pos hr] at hn
      rw [show j2A off ad a1 n = a1 (n - off) from if_pos hr]
      exact ⟨(h1.1 _ _ hn1).1, rA_s2 (h1.1 _ _ hn1).2⟩
    · have hn1 : c n = some e := by
        unfold j2C at hn
        rwa [if_neg hr] at hn
      rw [show j2A off ad a1 n = ad n from if_neg hr]
      have hne : c n ≠ none := by rw [hn1]; exact (fun z => by cases z)
      exact ⟨(h.1 _ _ hn1).1.kept (hk _ (h.1 _ _ hn1).1.lt (hout n hr hne)), Or.inl ⟨n, hne, rfl⟩⟩
  · by_cases hr : off ≤ i ∧ i < off + 128
    · rw [show j2C off c c1 i = c1 (i - off) from if_pos hr] at hi
      rw [show j2A off ad a1 i = a1 (i - off) from if_pos hr] at hij
      by_cases hs : off ≤ j ∧ j < off + 128
      · rw [show j2C off c c1 j = c1 (j - off) from if_pos hs] at hj
        rw [show j2A off ad a1 j = a1 (j - off) from if_pos hs] at hij
        have := h1.2 _ _ hi hj hij
        omega
      · rw [show j2C off c c1 j = c j from if_neg hs] at hj
        rw [show j2A off ad a1 j = ad j from if_neg hs] at hij
        exact absurd (hij ▸ hin _ hi) (hout j hs hj)
    · rw [show j2C off c c1 i = c i from if_neg hr] at hi
      rw [show j2A off ad a1 i = ad i from if_neg hr] at hij
      by_cases hs : off ≤ j ∧ j < off + 128
      · rw [show j2C off c c1 j = c1 (j - off) from if_pos hs] at hj
        rw [show j2A off ad a1 j = a1 (j - off) from if_pos hs] at hij
        exact absurd (hij ▸ hin _ hj) (hout i hr hi)
      · rw [show j2C off c c1 j = c j from if_neg hs] at hj
        rw [show j2A off ad a1 j = ad j from if_neg hs] at hij
        exact h.2 _ _ hi hj hij
section RSUB2
variable {l : Launch} {D : va_G} {cl : List vw_C} {tys : List (ClassId × FieldType)} {NW : List Cond} {y : MethodName} {ws : List Cond} {rm : Room} {args : List Value} {ad : Nat → Nat} {c : rC}
theorem rP_s2 {off sz : Nat} {U : State} (h : rP D cl tys NW ad c sz U) : rP D cl tys NW (s2A off ad) (s2C off c) sz U := ⟨h.1, rp_s2 off h.2.1, h.2.2.1, h.2.2.2⟩
theorem vaF_s2 {off sz : Nat} {st t : State} (h : va_F (rA (s2A off ad) (s2C off c) sz) st t) : va_F (rA ad c sz) st t := ⟨h.1, fun q h1 h2 => h.2 q h1 (fun z => h2 (rA_s2 z))⟩
theorem rp_j2_of {off sz : Nat} {st t : State} {a1 : Nat → Nat} {c1 : rC} (h : rP D cl tys NW ad c sz st) (hF : va_F (rA (s2A off ad) (s2C off c) sz) st t) (h1 : rp D cl (rA (s2A off ad) (s2C off c) sz) a1 c1 t.heap) : rp D cl (rA ad c sz) (j2A off ad a1) (j2C off c c1) t.heap := by
  obtain ⟨hs, hp, -, -⟩ := h
  subst hs
  exact rp_j2 off hp h1 hF.2
theorem s2_v (off : Nat) {post : (Nat → Nat) → rC → Prop} (h : rMv l D cl tys NW y ws rm args (s2A off ad) (s2C off c) post) : rMv l D cl tys NW y ws rm args ad c (fun ad' c' => ∃ a1 c1, post a1 c1 ∧ ad' = j2A off ad a1 ∧ c' = j2C off c c1) := by
  intro sz
  refine met_lift (h sz) (fun a U hU => ⟨hU.1, rP_s2 hU.2⟩) (fun a st o t hU hq => ?_) (fun q hq => rA_s2 hq)
  obtain ⟨⟨u, q1, q2, q3⟩, qF⟩ := hq
  exact ⟨⟨(j2A off ad u.1, j2C off c u.2), q1, ⟨u.1, u.2, q2, rfl, rfl⟩, rp_j2_of hU.2 qF q3⟩, vaF_s2 qF⟩
theorem s2_i (off : Nat) {post : Int32 → (Nat → Nat) → rC → Prop} (h : rMi l D cl tys NW y ws rm args (s2A off ad) (s2C off c) post) : rMi l D cl tys NW y ws rm args ad c (fun r ad' c' => ∃ a1 c1, post r a1 c1 ∧ ad' = j2A off ad a1 ∧ c' = j2C off c c1) := by
  intro sz
  refine met_lift (h sz) (fun a U hU => ⟨hU.1, rP_s2 hU.2⟩) (fun a st o t hU hq => ?_) (fun q hq => rA_s2 hq)
  obtain ⟨⟨r, u, q1, q2, q3⟩, qF⟩ := hq
  exact ⟨⟨r, (j2A off ad u.1, j2C off c u.2), q1, ⟨u.1, u.2, q2, rfl, rfl⟩, rp_j2_of hU.2 qF q3⟩, vaF_s2 qF⟩
theorem s2_l (off : Nat) {post : Int64 → (Nat → Nat) → rC → Prop} (h : rMl l D cl tys NW y ws rm args (s2A off ad) (s2C off c) post) : rMl l D cl tys NW y ws rm args ad c (fun r ad' c' => ∃ a1 c1, post r a1 c1 ∧ ad' = j2A off ad a1 ∧ c' = j2C off c c1) := by
  intro sz
  refine met_lift (h sz) (fun a U hU => ⟨hU.1, rP_s2 hU.2⟩) (fun a st o t hU hq => ?_) (fun q hq => rA_s2 hq)
  obtain ⟨⟨r, u, q1, q2, q3⟩, qF⟩ := hq
  exact ⟨⟨r, (j2A off ad u.1, j2C off c u.2), q1, ⟨u.1, u.2, q2, rfl, rfl⟩, rp_j2_of hU.2 qF q3⟩, vaF_s2 qF⟩
end RSUB2
theorem s2_x {l : Launch} {D : va_G} {cl : List vw_C} {tys : List (ClassId × FieldType)} {NW : List Cond} {b9 L9 : Nat} {xs9 : Nat → Int32} {y : MethodName} {ws : List Cond} {rm : Room} {args : List Value} {ad : Nat → Nat} {c : rC} (off : Nat) {post : Int32 → (Nat → Nat) → rC → Prop} (h : xMi l D cl tys NW b9 L9 xs9 y ws rm args (s2A off ad) (s2C off c) post) : xMi l D cl tys NW b9 L9 xs9 y ws rm args ad c (fun r ad' c' => ∃ a1 c1, post r a1 c1 ∧ ad' = j2A off ad a1 ∧ c' = j2C off c c1) := by
  intro sz
  refine met_lift (h sz) (fun a U hU => ⟨hU.1, rP_s2 hU.2.1, hU.2.2.1, hU.2.2.2.1, fun z => hU.2.2.2.2 (rA_s2 z)⟩) (fun a st o t hU hq => ?_) (fun q hq => rA_s2 hq)
  obtain ⟨⟨r, u, q1, q2, q3⟩, qF⟩ := hq
  exact ⟨⟨r, (j2A off ad u.1, j2C off c u.2), q1, ⟨u.1, u.2, q2, rfl, rfl⟩, rp_j2_of hU.2.1 qF q3⟩, vaF_s2 qF⟩
section XCALL24
variable {p : Program} {l : Launch} {e : Env} {R : Room} {s : State} {m : MethodId} {args : Array Value} {below : List Frame} {meth : Method} {cd : Code} {cc : ByteArray} {nL : Nat} {own : String} {W0 : List Cond} {D : va_G} {cl : List vw_C} {tys : List (ClassId × FieldType)} {NW : List Cond} {A : Nat → Prop} {cells slots : Nat} {Q : State → Prop} {ad : Nat → Nat} {c : rC} {pc : Nat} {lv : List (Nat × Value)} {st st0 : List Value} {rm : Room} {y : MethodName} {bytes : ByteArray} {maxL n i : Nat} {ret : Option FieldType} {C : String} {As : List Value}
variable {b9 L9 : Nat} {xs9 : Nat → Int32}
theorem x_runV (X : rX p s m args cd cc nL own W0 D cl tys A) (hG : GoodIn W0 W0) (hN : rN NW s) (hE : rE b9 L9 xs9 A s s.heap) {n0 ci : Nat} {r : vw_C} {fs : List Value} {Qc : Nat → Array Value → State → Outcome → State → Prop} (hM : ∀ sz, Met l y (Cond.code y bytes maxL ret :: W0) rm (va_Pc (Value.ref (ad n0) :: As) (rPx D cl tys NW b9 L9 xs9 ad c sz)) (Qc sz) rm.cells rm.slots (rA ad c sz)) (Y : rYV W0 y bytes maxL ret C n) (hw : Cond.methodLink own i y ∈ W0) (hc0 : c n0 = some (.inr (ci, fs))) (hcl : cl[ci]? = some r) (hr : r.1 = C) (hn : As.length = n) (hst : st0 = As.reverse ++ .ref (ad n0) :: st) (hR : rm.frames + 1 ≤ R.frames ∧ 8 + (maxL + 11) + rm.locals ≤ R.locals) (hroom : (st.map fun v => v.category).sum ≤ 8) (hf : cells + rm.cells ≤ R.cells ∧ slots + rm.slots ≤ R.slots) (hd : decode cc pc = .ok (.invokevirtual i, 3)) :
    rRunQ p l e R s m args below meth cd nL D cl A cells slots ad c pc st0 st rm (Value.ref (ad n0) :: As).toArray Qc := by
  intro H locs ls hP hS hls
  subst hst; subst hr
  obtain ⟨hx, hb, hml, hown, hts, hK, hA⟩ := X
  obtain ⟨y1, y2, y3, y4, y5⟩ := Y
  have hT : GoodIn W0 (wsV own i r.1 y (Cond.code y bytes maxL ret :: W0)) := fun w h => by
    rcases List.mem_append.mp h with h | h
    · simp only [List.mem_cons, List.not_mem_nil, or_false] at h
      rcases h with rfl | rfl | rfl | rfl
      · exact hG _ hw
      · exact hG _ y2
      · exact hG _ y3
      · exact hG _ y4
    · exact rY_good hG y1 w h
  exact va_runV (As := As) (rest := st) ⟨hx, hb, hml, hown, hts⟩ (hM H.size) (cwV n hts hT rfl rfl rfl y5 hR) ⟨rPx.blind, va_recv hK (hP.one hc0) (q0 := 0) hcl rfl, fun U hU hW => ⟨rfl, rPx.at hU hW hP hS hA hK hN hE⟩⟩ rfl hn hls rfl (lv_room hroom) hd hf
theorem x_runS (X : rX p s m args cd cc nL own W0 D cl tys A) (hG : GoodIn W0 W0) (hN : rN NW s) (hE : rE b9 L9 xs9 A s s.heap) {Qc : Nat → Array Value → State → Outcome → State → Prop} (hM : ∀ sz, Met l y (Cond.code y bytes maxL ret :: W0) rm (va_Pc As (rPx D cl tys NW b9 L9 xs9 ad c sz)) (Qc sz) rm.cells rm.slots (rA ad c sz)) (Y : rYS W0 y bytes maxL ret n) (hw : Cond.methodLink own i y ∈ W0) (hn : As.length = n) (hst : st0 = As.reverse ++ st) (hR : rm.frames + 1 ≤ R.frames ∧ 8 + (maxL + 11) + rm.locals ≤ R.locals) (hroom : (st.map fun v => v.category).sum ≤ 8) (hf : cells + rm.cells ≤ R.cells ∧ slots + rm.slots ≤ R.slots) (hd : decode cc pc = .ok (.invokestatic i, 3)) :
    rRunQ p l e R s m args below meth cd nL D cl A cells slots ad c pc st0 st rm As.toArray Qc := by
  intro H locs ls hP hS hls
  subst hst
  obtain ⟨hx, hb, hml, hown, hts, hK, hA⟩ := X
  obtain ⟨y1, y2, y4, y5⟩ := Y
  have hT : GoodIn W0 (va_wsS own i y (Cond.code y bytes maxL ret :: W0)) := fun w h => by
    rcases List.mem_append.mp h with h | h
    · simp only [List.mem_cons, List.not_mem_nil, or_false] at h
      rcases h with rfl | rfl | rfl
      · exact hG _ hw
      · exact hG _ y2
      · exact hG _ y4
    · exact rY_good hG y1 w h
  exact va_runS (As := As) (rest := st) ⟨hx, hb, hml, hown, hts⟩ (hM H.size) (va_cwS n hts hT rfl rfl rfl y5 hR) ⟨rPx.blind, fun U hU hW => ⟨rfl, rPx.at hU hW hP hS hA hK hN hE⟩⟩ rfl hn hls rfl (lv_room hroom) hd hf
theorem x_runSN (X : rX p s m args cd cc nL own W0 D cl tys A) (hG : GoodIn W0 W0) (hN : rN NW s) (hE : rE b9 L9 xs9 A s s.heap) {host : String} {Qc : Nat → Array Value → State → Outcome → State → Prop} (hM : ∀ sz, Met l y (Cond.code y bytes maxL ret :: W0) rm (va_Pc As (rPx D cl tys NW b9 L9 xs9 ad c sz)) (Qc sz) rm.cells rm.slots (rA ad c sz)) (Y : rYS W0 y bytes maxL ret n) (hw : Cond.methodLinkNest own i y host ∈ NW) (hn : As.length = n) (hst : st0 = As.reverse ++ st) (hR : rm.frames + 1 ≤ R.frames ∧ 8 + (maxL + 11) + rm.locals ≤ R.locals) (hroom : (st.map fun v => v.category).sum ≤ 8) (hf : cells + rm.cells ≤ R.cells ∧ slots + rm.slots ≤ R.slots) (hd : decode cc pc = .ok (.invokestatic i, 3)) :
    rRunQ p l e R s m args below meth cd nL D cl A cells slots ad c pc st0 st rm As.toArray Qc := by
  intro H locs ls hP hS hls
  subst hst
  obtain ⟨hx, hb, hml, hown, hts, hK, hA⟩ := X
  obtain ⟨y1, y2, y4, y5⟩ := Y
  exact va_runSN (As := As) (rest := st) ⟨hx, hb, hml, hown, hts⟩ (hM H.size) ⟨va_cnB n hts (rY_good hG y1) rfl rfl rfl (hN.2 _ hw) (hts _ y4) y5 hR, hts _ y2, trivial⟩ ⟨rPx.blind, fun U hU hW => ⟨rfl, rPx.at hU hW hP hS hA hK hN hE⟩⟩ rfl hn hls rfl (lv_room hroom) hd hf
theorem x_Vi (X : rX p s m args cd cc nL own W0 D cl tys A) (hG : GoodIn W0 W0) (hN : rN NW s) (hE : rE b9 L9 xs9 A s s.heap) {n0 ci : Nat} {r9 : vw_C} {fs : List Value} {post : Int32 → (Nat → Nat) → rC → Prop} (hM : xMi l D cl tys NW b9 L9 xs9 y (Cond.code y bytes maxL ret :: W0) rm (Value.ref (ad n0) :: As) ad c post) (Y : rYV W0 y bytes maxL ret C n) (hw : Cond.methodLink own i y ∈ W0) (hc0 : c n0 = some (.inr (ci, fs))) (hcl : cl[ci]? = some r9) (hr9 : r9.1 = C) (hn : As.length = n) (hst : st0 = As.reverse ++ .ref (ad n0) :: st) (hR : rm.frames + 1 ≤ R.frames ∧ 8 + (maxL + 11) + rm.locals ≤ R.locals) (hroom : (st.map fun v => v.category).sum ≤ 8) (hf : cells + rm.cells ≤ R.cells ∧ slots + rm.slots ≤ R.slots) (hd : decode cc pc = .ok (.invokevirtual i, 3)) (kk : ∀ (r : Int32) (ad' : Nat → Nat) (c' : rC), post r ad' c' → rW p l e R s m args below meth cd nL D cl A (cells + rm.cells) (slots + rm.slots) Q ad' c' (pc + 3) lv (.int r :: st)) : rW p l e R s m args below meth cd nL D cl A cells slots Q ad c pc lv st0 := r_calli X (x_runV X hG hN hE (fun sz => hM sz) Y hw hc0 hcl hr9 hn hst hR hroom hf hd) kk
theorem x_Si (X : rX p s m args cd cc nL own W0 D cl tys A) (hG : GoodIn W0 W0) (hN : rN NW s) (hE : rE b9 L9 xs9 A s s.heap) {post : Int32 → (Nat → Nat) → rC → Prop} (hM : xMi l D cl tys NW b9 L9 xs9 y (Cond.code y bytes maxL ret :: W0) rm As ad c post) (Y : rYS W0 y bytes maxL ret n) (hw : Cond.methodLink own i y ∈ W0) (hn : As.length = n) (hst : st0 = As.reverse ++ st) (hR : rm.frames + 1 ≤ R.frames ∧ 8 + (maxL + 11) + rm.locals ≤ R.locals) (hroom : (st.map fun v => v.category).sum ≤ 8) (hf : cells + rm.cells ≤ R.cells ∧ slots + rm.slots ≤ R.slots) (hd : decode cc pc = .ok (.invokestatic i, 3)) (kk : ∀ (r : Int32) (ad' : Nat → Nat) (c' : rC), post r ad' c' → rW p l e R s m args below meth cd nL D cl A (cells + rm.cells) (slots + rm.slots) Q ad' c' (pc + 3) lv (.int r :: st)) : rW p l e R s m args below meth cd nL D cl A cells slots Q ad c pc lv st0 := r_calli X (x_runS X hG hN hE (fun sz => hM sz) Y hw hn hst hR hroom hf hd) kk
theorem x_SNi (X : rX p s m args cd cc nL own W0 D cl tys A) (hG : GoodIn W0 W0) (hN : rN NW s) (hE : rE b9 L9 xs9 A s s.heap) {host : String} {post : Int32 → (Nat → Nat) → rC → Prop} (hM : xMi l D cl tys NW b9 L9 xs9 y (Cond.code y bytes maxL ret :: W0) rm As ad c post) (Y : rYS W0 y bytes maxL ret n) (hw : Cond.methodLinkNest own i y host ∈ NW) (hn : As.length = n) (hst : st0 = As.reverse ++ st) (hR : rm.frames + 1 ≤ R.frames ∧ 8 + (maxL + 11) + rm.locals ≤ R.locals) (hroom : (st.map fun v => v.category).sum ≤ 8) (hf : cells + rm.cells ≤ R.cells ∧ slots + rm.slots ≤ R.slots) (hd : decode cc pc = .ok (.invokestatic i, 3)) (kk : ∀ (r : Int32) (ad' : Nat → Nat) (c' : rC), post r ad' c' → rW p l e R s m args below meth cd nL D cl A (cells + rm.cells) (slots + rm.slots) Q ad' c' (pc + 3) lv (.int r :: st)) : rW p l e R s m args below meth cd nL D cl A cells slots Q ad c pc lv st0 := r_calli X (x_runSN X hG hN hE (fun sz => hM sz) Y hw hn hst hR hroom hf hd) kk
end XCALL24
/-- a method's body, the script beside -/
theorem x_of {own : String} {l : Launch} {D : va_G} {cl : List vw_C} {tys : List (ClassId × FieldType)} {NW W0 : List Cond} {y : MethodName} {rm : Room} {av : List Value} {b9 L9 : Nat} {xs9 : Nat → Int32} {ad : Nat → Nat} {c : rC} {sz : Nat} {cc : ByteArray} {nL : Nat} {ret : Option FieldType} {Qc : Array Value → State → Outcome → State → Prop} (ho : y.cls = own) (hy : plainName y.cls = true) (hav : (lg_sl av).length ≤ nL)
    (body : ∀ (p : Program) (e : Env) (s : State) (m : MethodId) (below : List Frame) (meth : Method) (cd : Code), s.heap.size = sz → rX p s m av.toArray cd cc nL own W0 D cl tys (rA ad c sz) → meth.sig.returnType = ret → meth.locks = false → rN NW s → rE b9 L9 xs9 (rA ad c sz) s s.heap → meth.name = y.name →
      rW p l e rm s m av.toArray below meth cd nL D cl (rA ad c sz) 0 0 (MQ below Qc av.toArray s rm.cells rm.slots (rA ad c sz)) ad c 0 (lv_args 0 av) []) :
    Met l y (Cond.code y cc nL ret :: W0) rm (va_Pc av (rPx D cl tys NW b9 L9 xs9 ad c sz)) Qc rm.cells rm.slots (rA ad c sz) := by
  refine Met.ofW (cc := cc) (maxL := nL) (ret := ret) hy rfl ?_
  subst ho
  intro p e s m args below meth cd s₁ B hml hv
  obtain ⟨rfl, ⟨hsz, hP, hK, hN⟩, hE⟩ := hv
  have hts := atoms_spec (ws := Cond.code y cc nL ret :: W0) B.pre
  have hown : s.vm.findClass y.cls = some m.cls := findClass_of_methodNamed B.named
  have hin : meth.name = y.name := (name_of_methodNamed B.named B.method).1
  have hl := lv_entry av (n := nL) hav
  rw [lg_entry_eq]
  subst hsz
  have hb := body p e s m below meth cd rfl ⟨B.exec, B.bytes, hml, hown, fun w h => hts w (List.mem_cons_of_mem _ h), hK, fun q h => Or.inr h⟩ B.returns B.notSynchronized hN hE hin
  exact hb s.heap [] _ (hP.self _) va_S.rf hl
theorem x_outer (c : ClassId) (N h0 : Nat) : ∀ i : Nat, Jvm.Free.Multi.outerC c N h0 i = arrV c N (fun j => va_rf (if j < i then some (h0 + 1 + j) else none))
  | 0 => by
    show ({ cls := c, slots := Array.replicate N .null, vm := .none } : Cell) = _
    rw [arrV_new]
    refine congrArg (arrV c N) (funext fun j => ?_)
    simp [va_rf]
  | i + 1 => by
    show (Jvm.Free.Multi.outerC c N h0 i).setSlot i (.ref (h0 + 1 + i)) = _
    rw [x_outer c N h0 i, arrV_store]
    refine congrArg (arrV c N) (funext fun j => ?_)
    by_cases e : j = i
    · subst e
      simp [updV, va_rf]
    · by_cases h : j < i
      · simp [updV, e, h, Nat.lt_succ_of_lt h]
      · simp [updV, e, h, show ¬ j < i + 1 by omega]
section XLAW
variable {p : Program} {l : Launch} {e : Env} {R : Room} {s : State} {m : MethodId} {args : Array Value} {below : List Frame} {meth : Method} {cd : Code} {cc : ByteArray} {nL : Nat} {own : String} {W0 : List Cond} {D : va_G} {cl : List vw_C} {tys : List (ClassId × FieldType)} {A : Nat → Prop} {cells slots : Nat} {Q : State → Prop} {ad : Nat → Nat} {c : rC} {pc : Nat} {lv : List (Nat × Value)} {st : List Value} {NW : List Cond}
theorem aw_int (hN : rN NW s) : (Cond.arrayOver (.array .int)).before args s = true := hN.1.2 _ List.mem_cons_self
theorem aw_bool (hN : rN NW s) : (Cond.arrayOver (.array .boolean)).before args s = true := hN.1.2 _ (List.mem_cons_of_mem _ List.mem_cons_self)
theorem r_wide (k n : Nat) (h1 : cells ≤ k) (h2 : slots ≤ n) (kk : rW p l e R s m args below meth cd nL D cl A k n Q ad c pc lv st) : rW p l e R s m args below meth cd nL D cl A cells slots Q ad c pc lv st := fun H locs ls hP hS hl => W.widen h1 h2 (kk H locs ls hP hS hl)
/-- new int[n][k]: the outer array is named, the rows are nobody's -/
theorem x_mnaI (X : rX p s m args cd cc nL own W0 D cl tys A) (hN : rN NW s) {cA : ClassId} (tA : Nat) (htA : tys[tA]? = some (cA, .array .int)) {index : Nat} (hcl : Cond.classLink own index "[[I" ∈ W0) (harr : Cond.arrayClass .int ∈ W0) {n k : Int32} {N K : Nat} (hn : ¬ n < 0) (hk : ¬ k < 0) (hn1 : n.toNatClampNeg = N) (hK : k.toNatClampNeg = K) (hb1 : N * 4 ≤ 536870912) (hb2 : K * 4 ≤ 536870912) (hcells : cells + (1 + N) ≤ R.cells) (hslots : slots + (N + N * K) ≤ R.slots) (hd : decode cc pc = .ok (.multianewarray index 2, 4)) (k0 : Nat) (hc0 : c k0 = none) (lvf : (Nat → Nat) → List (Nat × Value)) (stf : (Nat → Nat) → List Value) (hlv : ∀ ad1 : Nat → Nat, (∀ j, j ≠ k0 → ad1 j = ad j) → lvf ad1 = lv) (hst : ∀ ad1 : Nat → Nat, (∀ j, j ≠ k0 → ad1 j = ad j) → stf ad1 = st)
    (kk : ∀ (ad1 : Nat → Nat) (f : Nat → Option Nat), (∀ j, j ≠ k0 → ad1 j = ad j) → rW p l e R s m args below meth cd nL D cl A (cells + (1 + N)) (slots + (N + N * K)) Q ad1 (va_up c k0 (some (.inl (cA, N, .inr (.inr (.inr (.inr f))))))) (pc + 4) (lvf ad1) (.ref (ad1 k0) :: stf ad1)) : rW p l e R s m args below meth cd nL D cl A cells slots Q ad c pc lv (.int k :: .int n :: st) := by
  intro H locs ls hP hS hl
  subst hn1; subst hK
  intro T hT Xs
  obtain ⟨vm₁, cA', comp, -, fA, fC, hO, -, X', step⟩ := Xs.multianewarray2F X.1 X.2.2.2.1 (ty := .int) (X.2.2.2.2.1 _ hcl) (aw_int hN) (X.2.2.2.2.1 _ harr) (g := F0 m pc ls (.int k :: .int n :: st)) rfl (by rw [X.2.1]; exact hd) rfl hn hk hb1 hb2 (by have : k.toNatClampNeg * 4 ≤ 536870912 := hb2; omega) rfl rfl hcells hslots
  have eA : cA' = cA := Option.some.inj (fA.symm.trans (X.2.2.2.2.2.1.2 tA _ htA).2)
  subst eA
  generalize hFe : Jvm.Free.Multi.fill (T.setVm vm₁) cA' comp n.toNatClampNeg k.toNatClampNeg (defaultValue .int) n.toNatClampNeg = F at X' step
  have hTh : (T.setVm vm₁).heap = H := hT
  obtain ⟨f1, f2, -, -⟩ := Jvm.Free.Multi.fill_facts (T.setVm vm₁) cA' comp n.toNatClampNeg k.toNatClampNeg (defaultValue .int) n.toNatClampNeg
  rw [hFe, hTh] at f1 f2
  have hold : ∀ x : Nat, x < H.size → F.heap[x]? = H[x]? := fun x hx => by
    have := Jvm.Free.Multi.fill_old (T.setVm vm₁) cA' comp n.toNatClampNeg k.toNatClampNeg (defaultValue .int) (a := x) (by rw [hTh]; exact hx) n.toNatClampNeg
    rw [hFe, hTh] at this
    exact this
  have hout : Jvm.Free.Multi.outerC cA' n.toNatClampNeg H.size n.toNatClampNeg = vp_cell cA' (n.toNatClampNeg, .inr (.inr (.inr (.inr (fun i => if i < n.toNatClampNeg then some (H.size + 1 + i) else none))))) := by
    rw [vp_cell_q]
    exact x_outer cA' n.toNatClampNeg H.size n.toNatClampNeg
  rw [hout] at f2
  have hA0 := X.2.2.2.2.2.2 _ hS.1
  have hP0 : rp D cl A (va_up ad k0 H.size) (va_up c k0 (some (.inl (cA', n.toNatClampNeg, .inr (.inr (.inr (.inr (fun i => if i < n.toNatClampNeg then some (H.size + 1 + i) else none)))))))) F.heap := hP.new hc0 f2 hA0 hold
  have ha : ∀ j, j ≠ k0 → va_up ad k0 H.size j = ad j := fun j h1 => va_up_ne _ _ h1
  have hw := kk (va_up ad k0 H.size) (fun i => if i < n.toNatClampNeg then some (H.size + 1 + i) else none) ha F.heap locs ls hP0 ⟨Nat.le_trans hS.1 (by rw [f1]; omega), fun q h1 h2 => by rw [hold q (Nat.lt_of_lt_of_le h1 hS.1)]; exact hS.2.1 q h1 h2, hS.2.2⟩ (by rw [hlv _ ha]; exact hl)
  rw [hst _ ha, va_up_self] at hw
  obtain ⟨t, a1, b1⟩ := hw F rfl (by rw [← Nat.add_assoc cells, ← Nat.add_assoc slots]; exact X')
  have e : T.heap.size = H.size := by rw [hT]
  refine ⟨t, step t ?_, b1⟩
  rw [e]
  exact a1
/-- new boolean[n][k]: the outer array is named, the rows are nobody's -/
theorem x_mnaZ (X : rX p s m args cd cc nL own W0 D cl tys A) (hN : rN NW s) {cA : ClassId} (tA : Nat) (htA : tys[tA]? = some (cA, .array .boolean)) {index : Nat} (hcl : Cond.classLink own index "[[Z" ∈ W0) (harr : Cond.arrayClass .boolean ∈ W0) {n k : Int32} {N K : Nat} (hn : ¬ n < 0) (hk : ¬ k < 0) (hn1 : n.toNatClampNeg = N) (hK : k.toNatClampNeg = K) (hb1 : N * 4 ≤ 536870912) (hb2 : K * 4 ≤ 536870912) (hcells : cells + (1 + N) ≤ R.cells) (hslots : slots + (N + N * K) ≤ R.slots) (hd : decode cc pc = .ok (.multianewarray index 2, 4)) (k0 : Nat) (hc0 : c k0 = none) (lvf : (Nat → Nat) → List (Nat × Value)) (stf : (Nat → Nat) → List Value) (hlv : ∀ ad1 : Nat → Nat, (∀ j, j ≠ k0 → ad1 j = ad j) → lvf ad1 = lv) (hst : ∀ ad1 : Nat → Nat, (∀ j, j ≠ k0 → ad1 j = ad j) → stf ad1 = st)
    (kk : ∀ (ad1 : Nat → Nat) (f : Nat → Option Nat), (∀ j, j ≠ k0 → ad1 j = ad j) → rW p l e R s m args below meth cd nL D cl A (cells + (1 + N)) (slots + (N + N * K)) Q ad1 (va_up c k0 (some (.inl (cA, N, .inr (.inr (.inr (.inr f))))))) (pc + 4) (lvf ad1) (.ref (ad1 k0) :: stf ad1)) : rW p l e R s m args below meth cd nL D cl A cells slots Q ad c pc lv (.int k :: .int n :: st) := by
  intro H locs ls hP hS hl
  subst hn1; subst hK
  intro T hT Xs
  obtain ⟨vm₁, cA', comp, -, fA, fC, hO, -, X', step⟩ := Xs.multianewarray2F X.1 X.2.2.2.1 (ty := .boolean) (X.2.2.2.2.1 _ hcl) (aw_bool hN) (X.2.2.2.2.1 _ harr) (g := F0 m pc ls (.int k :: .int n :: st)) rfl (by rw [X.2.1]; exact hd) rfl hn hk hb1 (by have : k.toNatClampNeg * 4 ≤ 536870912 := hb2; first | exact hb2 | (show k.toNatClampNeg * 1 ≤ 536870912; omega) | omega) (by have : k.toNatClampNeg * 4 ≤ 536870912 := hb2; omega) rfl rfl hcells hslots
  have eA : cA' = cA := Option.some.inj (fA.symm.trans (X.2.2.2.2.2.1.2 tA _ htA).2)
  subst eA
  generalize hFe : Jvm.Free.Multi.fill (T.setVm vm₁) cA' comp n.toNatClampNeg k.toNatClampNeg (defaultValue .boolean) n.toNatClampNeg = F at X' step
  have hTh : (T.setVm vm₁).heap = H := hT
  obtain ⟨f1, f2, -, -⟩ := Jvm.Free.Multi.fill_facts (T.setVm vm₁) cA' comp n.toNatClampNeg k.toNatClampNeg (defaultValue .boolean) n.toNatClampNeg
  rw [hFe, hTh] at f1 f2
  have hold : ∀ x : Nat, x < H.size → F.heap[x]? = H[x]? := fun x hx => by
    have := Jvm.Free.Multi.fill_old (T.setVm vm₁) cA' comp n.toNatClampNeg k.toNatClampNeg (defaultValue .boolean) (a := x) (by rw [hTh]; exact hx) n.toNatClampNeg
    rw [hFe, hTh] at this
    exact this
  have hout : Jvm.Free.Multi.outerC cA' n.toNatClampNeg H.size n.toNatClampNeg = vp_cell cA' (n.toNatClampNeg, .inr (.inr (.inr (.inr (fun i => if i < n.toNatClampNeg then some (H.size + 1 + i) else none))))) := by
    rw [vp_cell_q]
    exact x_outer cA' n.toNatClampNeg H.size n.toNatClampNeg
  rw [hout] at f2
  have hA0 := X.2.2.2.2.2.2 _ hS.1
  have hP0 : rp D cl A (va_up ad k0 H.size) (va_up c k0 (some (.inl (cA', n.toNatClampNeg, .inr (.inr (.inr (.inr (fun i => if i < n.toNatClampNeg then some (H.size + 1 + i) else none)))))))) F.heap := hP.new hc0 f2 hA0 hold
  have ha : ∀ j, j ≠ k0 → va_up ad k0 H.size j = ad j := fun j h1 => va_up_ne _ _ h1
  have hw := kk (va_up ad k0 H.size) (fun i => if i < n.toNatClampNeg then some (H.size + 1 + i) else none) ha F.heap locs ls hP0 ⟨Nat.le_trans hS.1 (by rw [f1]; omega), fun q h1 h2 => by rw [hold q (Nat.lt_of_lt_of_le h1 hS.1)]; exact hS.2.1 q h1 h2, hS.2.2⟩ (by rw [hlv _ ha]; exact hl)
  rw [hst _ ha, va_up_self] at hw
  obtain ⟨t, a1, b1⟩ := hw F rfl (by rw [← Nat.add_assoc cells, ← Nat.add_assoc slots]; exact X')
  have e : T.heap.size = H.size := by rw [hT]
  refine ⟨t, step t ?_, b1⟩
  rw [e]
  exact a1
/-- an array of ints into an array of arrays -/
theorem x_aastI (X : rX p s m args cd cc nL own W0 D cl tys A) (hN : rN NW s) (t t2 : Nat) {n N n2 N2 : Nat} {cA cI : ClassId} {g : Nat → Int32} {f f' : Nat → Option Nat} {i : Int32} (hc : c n = some (.inl (cA, N, .inr (.inr (.inr (.inr f)))))) (ht : tys[t]? = some (cA, .array .int)) (hc2 : c n2 = some (.inl (cI, N2, .inl g))) (ht2 : tys[t2]? = some (cI, .int)) (hi : vp_in i N) (hf : va_up f i.toNatClampNeg (some (ad n2)) = f') (c' : rC) (hc' : va_up c n (some (.inl (cA, N, .inr (.inr (.inr (.inr f')))))) = c') (hd : decode cc pc = .ok (.aastore, 1)) (kk : rW p l e R s m args below meth cd nL D cl A cells slots Q ad c' (pc + 1) lv st) : rW p l e R s m args below meth cd nL D cl A cells slots Q ad c pc lv (.ref (ad n2) :: .int i :: .ref (ad n) :: st) := by
  intro H locs ls hP hS hl
  subst hf; subst hc'
  have hlt : i.toNatClampNeg < N := Nat.not_le.mp fun q => hi (Or.inr q)
  have h0 : ¬ i < 0 := fun q => hi (Or.inl q)
  obtain ⟨comp, cQ, kA, h1, h2, h3, h4, h5⟩ := Stand.arrayOver_specB (aw_int (args := args) hN)
  have eA : cQ = cA := Option.some.inj (h5.symm.trans (X.2.2.2.2.2.1.2 t _ ht).2)
  subst eA
  have eI : comp = cI := Option.some.inj (h1.symm.trans (X.2.2.2.2.2.1.2 t2 _ ht2).2)
  subst eI
  obtain ⟨-, kI, hkI, cm, hkk⟩ := (X.2.2.2.2.2.1.2 t2 _ ht2).1 N2 (fun j => .int (g j))
  have hc2' : H[ad n2]? = some (vp_cell comp (N2, .inl g)) := (hP.1 n2 _ hc2).1
  refine W.aast X.1 X.2.1 (hP.1 n _ hc).1 (fun q h => by cases h) (fun h => by cases h) h3 h4 rfl hkI ⟨h0, by show _ < (arrV _ _ _).slots.size; rw [arrV_size]; exact hlt⟩ hc2' (fun q h => by cases h) hkI (Vm.assignable_self _ _) rfl rfl hd fun H1 e1 z oq => ?_
  refine kk H1 _ ls (hP.put hc ?_ oq) (hS.put z oq (hP.1 n _ hc).2) hl
  show H1[ad n]? = some (vp_cell _ _)
  rw [e1]
  rw [vp_cell_q, vp_cell_q, arrV_store]
  congr 2
  funext q
  by_cases hq : q = i.toNatClampNeg
  · subst hq
    simp [updV, va_up, va_rf]
  · simp [updV, va_up, hq]
theorem x_sld (X : rX p s m args cd cc nL own W0 D cl tys A) {b L : Nat} {xs : Nat → Int32} (hE : rE b L xs A s s.heap) {i v : Int32} (hin : vp_in i L) (hv : xs i.toNatClampNeg = v) (hd : decode cc pc = .ok (.iaload, 1)) (kk : rW p l e R s m args below meth cd nL D cl A cells slots Q ad c (pc + 1) lv (.int v :: st)) : rW p l e R s m args below meth cd nL D cl A cells slots Q ad c pc lv (.int i :: .ref b :: st) := fun H locs ls hP hS hl =>
  va_sld X.1 X.2.1 hE.1 hE.2.1 hE.2.2 hS hin hd (by rw [hv]; exact kk H locs ls hP hS hl)
theorem x_slen (X : rX p s m args cd cc nL own W0 D cl tys A) {b L : Nat} {xs : Nat → Int32} (hE : rE b L xs A s s.heap) (hd : decode cc pc = .ok (.arraylength, 1)) (kk : rW p l e R s m args below meth cd nL D cl A cells slots Q ad c (pc + 1) lv (.int (nI L) :: st)) : rW p l e R s m args below meth cd nL D cl A cells slots Q ad c pc lv (.ref b :: st) := fun H locs ls hP hS hl =>
  va_slen X.1 X.2.1 hE.1 hE.2.1 hE.2.2 hS hd (kk H locs ls hP hS hl)
end XLAW
