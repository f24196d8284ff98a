/-! beside the world: what a method asks for that throws, that uses a list, or is called through an interface; by program (wip/p1/mkxb.py) -/
abbrev E_ioo : String := "java/lang/IndexOutOfBoundsException"
abbrev E_iae : String := "java/lang/IllegalArgumentException"
abbrev E_ise : String := "java/lang/IllegalStateException"
abbrev E_sup : List String := ["java/lang/RuntimeException", "java/lang/Exception"]
def y_List_size : MethodName := ⟨"java/util/List", "size", "()I"⟩
def y_List_isEmpty : MethodName := ⟨"java/util/List", "isEmpty", "()Z"⟩
def y_List_add : MethodName := ⟨"java/util/List", "add", "(Ljava/lang/Object;)Z"⟩
def xStr : List (Nat × String) := [(68, "no such node"), (75, "both nodes are the same"), (82, "length, rank, height or shade is out of range"), (89, "there are 8 roads"), (98, "air is not -20 to 20"), (107, "rain, flakes or wind is not 0 to 3"), (118, "later is not 1 to 48"), (120, "an air is not -20 to 20"), (125, "there are 20 forecasts"), (145, "quarters is not 1 to 20"), (147, "now would be above 199"), (158, "there are 3 lorries"), (167, "no such lorry"), (169, "rate is not 0 to 9"), (178, "no such lorry or road"), (183, "the lorry has 8 orders"), (192, "the lorry is not at the barn"), (203, "the lorry is on a road"), (208, "amount is not 1 to 500, or later not 1 to 96"), (213, "there are 5 deliveries"), (222, "no such road"), (224, "quarter is not 1 to now"), (230, "what is not 0 to 14"), (236, "what is not 0 to 8"), (251, "quarters is not 1 to 24"), (260, "no such lorry or node")]
def xFw : List (MethodName × MethodName) := [(y_List_size, y_AL_size_8abf5), (y_List_isEmpty, y_AL_isEmpty_aae02), (y_List_add, y_AL_add_9ea2d)]
def rEk : Cond → Bool
  | .castable _ _ => true
  | .declares _ => true
  | .arrayOver (.object _) => true
  | .arrayOver (.array _) => true
  | w => goodWord w
def rE (t0 : Nat) (A : Nat → Prop) (U : State) (H : Heap) : Prop :=
  (∀ w ∈ lw_tbl, rEk w = true → w.before #[] U = true) ∧ (∀ q ∈ xStr, ∃ a, vk_R R_G q.1 q.2 a U) ∧ (∀ q ∈ xFw, va_Fw R_AL q.1 q.2 U) ∧ va_Nc E_iae E_ioo U ∧
  vx_Zq Bundle.tN "UNASSIGNED_STACK" Bundle.steD A U H ∧ vx_Zq Bundle.tN "SUPPRESSED_SENTINEL" Bundle.listD A U H ∧
  va_Z R_AL "DEFAULTCAPACITY_EMPTY_ELEMENTDATA" "[Ljava/lang/Object;" (.ref t0) A U H ∧ va_T (.object "java/lang/Object") t0 0 (fun _ => .null) A U H
theorem rE_word {s U : State} (hW : s.WarmedH U.vm) {w : Cond} (hk : rEk w = true) (h : w.before #[] s = true) : w.before #[] U = true := by
  cases w <;> first
    | exact va_Nw.use (A := #[]) rfl (va_Nw.warmC hW (va_Nw.of rfl h))
    | exact va_Nw.use (A := #[]) rfl (va_Nw.warmD hW (va_Nw.of rfl h))
    | exact word_at hW (good_of_word hk) h
    | (rename_i t9; cases t9 <;> first
        | exact Cond.arrayOver_alike hW.alike h
        | exact Stand.arrayOver_alikeB (o := none) (idx := []) (args := #[]) (first := s) hW.alike h
        | exact word_at hW (good_of_word hk) h)
theorem xFw_mh : ∀ q ∈ xFw, q.1.cls ≠ "java/lang/invoke/MethodHandle" ∧ q.1.cls ≠ "java/lang/invoke/VarHandle" := by decide +kernel
theorem nc_moved {C T : String} {u U : State} (hvm : u.vm.Alike U.vm) (h : va_Nc C T u) : va_Nc C T U := va_Nc.moved hvm h
/-- from where a method stands to where its callee begins -/
theorem rE.call {t0 : Nat} {A B : Nat → Prop} {s U : State} {H : Heap} {locs : List Loc} (h : rE t0 A s s.heap) (hS : va_S A s.heap H locs) (hW : s.WarmedH U.vm) (hU : U.heap = H) (hB : ∀ q, B q → A q) : rE t0 B U U.heap := by
  obtain ⟨h1, h2, h3, h4, h5, h6, h7, h8⟩ := h
  subst hU
  refine ⟨fun w hw hk => rE_word hW hk (h1 w hw hk), fun q hq => ?_, fun q hq => va_Fw.moved (xFw_mh q hq) hW.alike (h3 q hq), nc_moved hW.alike h4, ((h5.kept hS.2.1).moved hW.alike).narrow hB, ((h6.kept hS.2.1).moved hW.alike).narrow hB, ((h7.kept hS.2.1).moved hW.alike).narrow hB, ((h8.kept hS.2.1).moved hW.alike).narrow hB⟩
  obtain ⟨a, ha⟩ := h2 q hq
  exact ⟨a, vk_R.warm hW ha⟩
def rPx (D : va_G) (cl : List vw_C) (tys : List (ClassId × FieldType)) (NW : List Cond) (t0 : Nat) (ad : Nat → Nat) (c : rC) (sz : Nat) (U : State) : Prop := rP D cl tys NW ad c sz U ∧ rE t0 (rA ad c sz) U U.heap
theorem rPx.blind {D : va_G} {cl : List vw_C} {tys : List (ClassId × FieldType)} {NW : List Cond} {t0 : Nat} {ad : Nat → Nat} {c : rC} {sz : Nat} {av : List Value} : FrameBlind (va_Pc av (rPx D cl tys NW t0 ad c sz)) := fun a U g mk q => by
  obtain ⟨q0, q1, q2⟩ := q
  obtain ⟨-, r1⟩ := (rP.blind (av := av)) a U g mk ⟨q0, q1⟩
  exact ⟨q0, r1, q2.call (s := U) (U := U.calling g mk a) (locs := []) va_S.rf (State.WarmedH.refl U) rfl (fun _ h => h)⟩
theorem rPx.at {D : va_G} {cl : List vw_C} {tys : List (ClassId × FieldType)} {NW : List Cond} {t0 : Nat} {A : Nat → Prop} {ad : Nat → Nat} {c : rC} {s U : State} {H : Heap} {locs : List Loc} (hU : U.heap = H) (hW : s.WarmedH U.vm) (hP : rp D cl A ad c H) (hS : va_S A s.heap H locs) (hA : ∀ q, s.heap.size ≤ q → A q) (hK : va_K D cl tys s) (hN : rN NW s) (hE : rE t0 A s s.heap) : rPx D cl tys NW t0 ad c H.size U :=
  ⟨rP.at hU hW hP hK hN, hE.call hS hW hU (rA.in hP hS hA)⟩
def xMi (l : Launch) (D : va_G) (cl : List vw_C) (tys : List (ClassId × FieldType)) (NW : List Cond) (t0 : Nat) (y : MethodName) (ws : List Cond) (rm : Room) (args : List Value) (ad : Nat → Nat) (c : rC) (post : Int32 → (Nat → Nat) → rC → Prop) : Prop :=
  ∀ sz : Nat, Met l y ws rm (va_Pc args (rPx D cl tys NW t0 ad c sz)) (va_Qi (fun r (u : rU) => post r u.1 u.2) (fun u t => rp D cl (rA ad c sz) u.1 u.2 t.heap) (rA ad c sz)) rm.cells rm.slots (rA ad c sz)
def xMl (l : Launch) (D : va_G) (cl : List vw_C) (tys : List (ClassId × FieldType)) (NW : List Cond) (t0 : Nat) (y : MethodName) (ws : List Cond) (rm : Room) (args : List Value) (ad : Nat → Nat) (c : rC) (post : Int64 → (Nat → Nat) → rC → Prop) : Prop :=
  ∀ sz : Nat, Met l y ws rm (va_Pc args (rPx D cl tys NW t0 ad c sz)) (va_Ql (fun r (u : rU) => post r u.1 u.2) (fun u t => rp D cl (rA ad c sz) u.1 u.2 t.heap) (rA ad c sz)) rm.cells rm.slots (rA ad c sz)
def xMd (l : Launch) (D : va_G) (cl : List vw_C) (tys : List (ClassId × FieldType)) (NW : List Cond) (t0 : Nat) (y : MethodName) (ws : List Cond) (rm : Room) (args : List Value) (ad : Nat → Nat) (c : rC) (post : UInt64 → (Nat → Nat) → rC → Prop) : Prop :=
  ∀ sz : Nat, Met l y ws rm (va_Pc args (rPx D cl tys NW t0 ad c sz)) (va_Qd (fun r (u : rU) => post r u.1 u.2) (fun u t => rp D cl (rA ad c sz) u.1 u.2 t.heap) (rA ad c sz)) rm.cells rm.slots (rA ad c sz)
def xMq (l : Launch) (D : va_G) (cl : List vw_C) (tys : List (ClassId × FieldType)) (NW : List Cond) (t0 : Nat) (y : MethodName) (ws : List Cond) (rm : Room) (args : List Value) (ad : Nat → Nat) (c : rC) (post : Option Nat → (Nat → Nat) → rC → Prop) : Prop :=
  ∀ sz : Nat, Met l y ws rm (va_Pc args (rPx D cl tys NW t0 ad c sz)) (va_Qq (fun r (u : rU) => post r u.1 u.2) (fun u t => rp D cl (rA ad c sz) u.1 u.2 t.heap) (rA ad c sz)) rm.cells rm.slots (rA ad c sz)
def xMv (l : Launch) (D : va_G) (cl : List vw_C) (tys : List (ClassId × FieldType)) (NW : List Cond) (t0 : Nat) (y : MethodName) (ws : List Cond) (rm : Room) (args : List Value) (ad : Nat → Nat) (c : rC) (post : (Nat → Nat) → rC → Prop) : Prop :=
  ∀ sz : Nat, Met l y ws rm (va_Pc args (rPx D cl tys NW t0 ad c sz)) (va_Qv (fun (u : rU) => post u.1 u.2) (fun u t => rp D cl (rA ad c sz) u.1 u.2 t.heap) (rA ad c sz)) rm.cells rm.slots (rA ad c sz)
/-- how a throwing method ends: the class, the world as it was -/
def xX (D : va_G) (cl : List vw_C) (ad : Nat → Nat) (c : rC) (A : Nat → Prop) (E : String) : String → State → State → Prop := vx_X (fun _ : Unit => True) (fun E' _ t => E' = E ∧ rp D cl A ad c t.heap) A
/-- a method that throws an E, and changes nothing -/
def xMt (l : Launch) (D : va_G) (cl : List vw_C) (tys : List (ClassId × FieldType)) (NW : List Cond) (t0 : Nat) (y : MethodName) (ws : List Cond) (rm : Room) (args : List Value) (ad : Nat → Nat) (c : rC) (E : String) : Prop :=
  ∀ sz : Nat, vx_Met l y ws rm (va_Pc args (rPx D cl tys NW t0 ad c sz)) (va_Qi (fun _ (_ : Unit) => False) (fun _ _ => True) (rA ad c sz)) (xX D cl ad c (rA ad c sz) E) rm.cells rm.slots (rA ad c sz)
/-- a method with handlers, out of which nothing is thrown -/
def xMh (l : Launch) (D : va_G) (cl : List vw_C) (tys : List (ClassId × FieldType)) (NW : List Cond) (t0 : Nat) (y : MethodName) (ws : List Cond) (rm : Room) (args : List Value) (ad : Nat → Nat) (c : rC) (post : Int32 → (Nat → Nat) → rC → Prop) : Prop :=
  ∀ sz : Nat, vx_Met l y ws rm (va_Pc args (rPx D cl tys NW t0 ad c sz)) (va_Qi (fun r (u : rU) => post r u.1 u.2) (fun u t => rp D cl (rA ad c sz) u.1 u.2 t.heap) (rA ad c sz)) (vx_X (fun _ : Unit => False) (fun _ _ _ => True) (rA ad c sz)) rm.cells rm.slots (rA ad c sz)
section XCALL
variable {p : Program} {l : Launch} {e : Env} {R : Room} {s : State} {m : MethodId} {args : Array Value} {below : List Frame} {meth : Method} {cd : Code} {cc : ByteArray} {nL : Nat} {own : String} {W0 : List Cond} {D : va_G} {cl : List vw_C} {tys : List (ClassId × FieldType)} {A : Nat → Prop} {cells slots : Nat} {Q : State → Prop} {ad : Nat → Nat} {c : rC} {pc : Nat} {lv : List (Nat × Value)} {st : List Value}
variable {NW : List Cond} {t0 : Nat} {st0 As : List Value} {rm : Room} {y x : MethodName} {bytes : ByteArray} {maxL n i : Nat} {ret : Option FieldType} {C : String}
theorem x_runV (X : rX p s m args cd cc nL own W0 D cl tys A) (hG : GoodIn W0 W0) (hN : rN NW s) (hE : rE t0 A s s.heap) {n0 ci : Nat} {r : vw_C} {fs : List Value} {Qc : Nat → Array Value → State → Outcome → State → Prop} (hM : ∀ sz, Met l y (Cond.code y bytes maxL ret :: W0) rm (va_Pc (Value.ref (ad n0) :: As) (rPx D cl tys NW t0 ad c sz)) (Qc sz) rm.cells rm.slots (rA ad c sz)) (Y : rYV W0 y bytes maxL ret C n) (hw : Cond.methodLink own i y ∈ W0) (hc0 : c n0 = some (.inr (ci, fs))) (hcl : cl[ci]? = some r) (hr : r.1 = C) (hn : As.length = n) (hst : st0 = As.reverse ++ .ref (ad n0) :: st) (hR : rm.frames + 1 ≤ R.frames ∧ 8 + (maxL + 11) + rm.locals ≤ R.locals) (hroom : (st.map fun v => v.category).sum ≤ 8) (hf : cells + rm.cells ≤ R.cells ∧ slots + rm.slots ≤ R.slots) (hd : decode cc pc = .ok (.invokevirtual i, 3)) :
    rRunQ p l e R s m args below meth cd nL D cl A cells slots ad c pc st0 st rm (Value.ref (ad n0) :: As).toArray Qc := by
  intro H locs ls hP hS hls
  subst hst; subst hr
  obtain ⟨hx, hb, hml, hown, hts, hK, hA⟩ := X
  obtain ⟨y1, y2, y3, y4, y5⟩ := Y
  have hT : GoodIn W0 (wsV own i r.1 y (Cond.code y bytes maxL ret :: W0)) := fun w h => by
    rcases List.mem_append.mp h with h | h
    · simp only [List.mem_cons, List.not_mem_nil, or_false] at h
      rcases h with rfl | rfl | rfl | rfl
      · exact hG _ hw
      · exact hG _ y2
      · exact hG _ y3
      · exact hG _ y4
    · exact rY_good hG y1 w h
  exact va_runV (As := As) (rest := st) ⟨hx, hb, hml, hown, hts⟩ (hM H.size) (cwV n hts hT rfl rfl rfl y5 hR) ⟨rPx.blind, va_recv hK (hP.one hc0) (q0 := 0) hcl rfl, fun U hU hW => ⟨rfl, rPx.at hU hW hP hS hA hK hN hE⟩⟩ rfl hn hls rfl (lv_room hroom) hd hf
theorem x_runI (X : rX p s m args cd cc nL own W0 D cl tys A) (hG : GoodIn W0 W0) (hN : rN NW s) (hE : rE t0 A s s.heap) {b : Nat} {Qc : Nat → Array Value → State → Outcome → State → Prop} (hM : ∀ sz, Met l y (Cond.code y bytes maxL none :: W0) rm (va_Pc (Value.ref b :: As) (rPx D cl tys NW t0 ad c sz)) (Qc sz) rm.cells rm.slots (rA ad c sz)) (Y : rYI W0 y bytes maxL n) (hw : Cond.methodLink own i y ∈ W0) (hn : As.length = n) (hst : st0 = As.reverse ++ .ref b :: st) (hR : rm.frames + 1 ≤ R.frames ∧ 8 + (maxL + 11) + rm.locals ≤ R.locals) (hroom : (st.map fun v => v.category).sum ≤ 8) (hf : cells + rm.cells ≤ R.cells ∧ slots + rm.slots ≤ R.slots) (hd : decode cc pc = .ok (.invokespecial i, 3)) :
    rRunQ p l e R s m args below meth cd nL D cl A cells slots ad c pc st0 st rm (Value.ref b :: As).toArray Qc := by
  intro H locs ls hP hS hls
  subst hst
  obtain ⟨hx, hb, hml, hown, hts, hK, hA⟩ := X
  obtain ⟨y1, y2, y3, y4, y5⟩ := Y
  exact va_runI (As := As) (rest := st) ⟨hx, hb, hml, hown, hts⟩ (hM H.size) (cwI n hts (rY_good hG y1) rfl rfl rfl (hts _ y3) (hts _ hw) (hts _ y2) y4 y5 hR) ⟨rPx.blind, fun U hU hW => ⟨rfl, rPx.at hU hW hP hS hA hK hN hE⟩⟩ rfl hn hls rfl (lv_room hroom) hd hf
/-- through an interface: x of it, y of the class -/
def rYF (W0 : List Cond) (x y : MethodName) (bytes : ByteArray) (maxL : Nat) (ret : Option FieldType) (C : String) (n : Nat) : Prop :=
  Cond.code y bytes maxL ret ∈ W0 ∧ Cond.instanceMethod y ∈ W0 ∧ Cond.selects C x y ∈ W0 ∧ Cond.initialized y.cls ∈ W0 ∧ x.cls ≠ "java/lang/invoke/MethodHandle" ∧ x.cls ≠ "java/lang/invoke/VarHandle" ∧ (parseMethodDescriptor x.desc).map (fun d => d.parameters.length) = some n
def x_RunF (p : Program) (l : Launch) (e : Env) (R : Room) (s : State) (m : MethodId) (args : Array Value) (below : List Frame) (meth : Method) (cd : Code) (nL : Nat) (D : va_G) (cl : List vw_C) (A : Nat → Prop) (cells slots : Nat) (ad : Nat → Nat) (c : rC) (pc : Nat) (st0 st : List Value) (rm : Room) (a : Array Value) (Qc : Nat → Array Value → State → Outcome → State → Prop) : Prop :=
  ∀ (H : Heap) (locs : List Loc) (ls : Array Slot), rp D cl A ad c H → va_S A s.heap H locs → ls.size = nL → va_Run5 p l e R s m args below meth cd H locs cells slots rm.cells rm.slots (F0 m pc ls st0) st (Qc H.size a) (rA ad c H.size)
theorem x_runF (X : rX p s m args cd cc nL own W0 D cl tys A) (hG : GoodIn W0 W0) (hN : rN NW s) (hE : rE t0 A s s.heap) {n0 ci cnt : Nat} {r : vw_C} {fs : List Value} {Qc : Nat → Array Value → State → Outcome → State → Prop} (hM : ∀ sz, Met l y (Cond.code y bytes maxL ret :: W0) rm (va_Pc (Value.ref (ad n0) :: As) (rPx D cl tys NW t0 ad c sz)) (Qc sz) rm.cells rm.slots (rA ad c sz)) (Y : rYF W0 x y bytes maxL ret R_AL n) (hFw : (x, y) ∈ xFw) (hw : Cond.methodLink own i x ∈ W0) (hc0 : c n0 = some (.inr (ci, fs))) (hcl : cl[ci]? = some r) (hr : r.1 = R_AL) (hn : As.length = n) (hst : st0 = As.reverse ++ .ref (ad n0) :: st) (hR : rm.frames + 1 ≤ R.frames ∧ 8 + (maxL + 11) + rm.locals ≤ R.locals) (hroom : (st.map fun v => v.category).sum ≤ 8) (hf : cells + rm.cells ≤ R.cells ∧ slots + rm.slots ≤ R.slots) (hd : decode cc pc = .ok (.invokeinterface i cnt, 5)) :
    x_RunF p l e R s m args below meth cd nL D cl A cells slots ad c pc st0 st rm (Value.ref (ad n0) :: As).toArray Qc := by
  intro H locs ls hP hS hls
  subst hst
  obtain ⟨hx, hb, hml, hown, hts, hK, hA⟩ := X
  obtain ⟨y1, y2, y3, y4, y5⟩ := Y
  have hT : GoodIn W0 (va_wsF own i R_AL x y (Cond.code y bytes maxL ret :: W0)) := fun w h => by
    rcases List.mem_append.mp h with h | h
    · simp only [List.mem_cons, List.not_mem_nil, or_false] at h
      rcases h with rfl | rfl | rfl | rfl
      · exact hG _ hw
      · exact hG _ y3
      · exact hG _ y2
      · exact hG _ y4
    · exact rY_good hG y1 w h
  have hat := (hK.1 ci r hcl).2
  rw [hr] at hat
  have hrec := va_recv hK (hP.one hc0) (q0 := 0) hcl rfl
  rw [hr] at hrec
  exact va_runF (As := As) (rest := st) hat ⟨hx, hb, hml, hown, hts⟩ (hM H.size) (va_cwF n hts hT rfl rfl rfl (hE.2.2.1 _ hFw) y5 hR) ⟨rPx.blind, hrec, fun U hU hW => ⟨rfl, rPx.at hU hW hP hS hA hK hN hE⟩⟩ rfl hn hls rfl (lv_room hroom) hd hf

theorem x_callFi (X : rX p s m args cd cc nL own W0 D cl tys A) {a : Array Value} {post : Int32 → (Nat → Nat) → rC → Prop} (hr : x_RunF p l e R s m args below meth cd nL D cl A cells slots ad c pc st0 st rm a (fun sz => va_Qi (fun r (u : rU) => post r u.1 u.2) (fun u t => rp D cl (rA ad c sz) u.1 u.2 t.heap) (rA ad c sz))) (kk : ∀ (r : Int32) (ad' : Nat → Nat) (c' : rC), post r ad' c' → rW p l e R s m args below meth cd nL D cl A (cells + rm.cells) (slots + rm.slots) Q ad' c' (pc + 5) lv ((.int r) :: st)) : rW p l e R s m args below meth cd nL D cl A cells slots Q ad c pc lv st0 := fun H locs ls hP hS hl => by
  have hF := rA.in hP hS X.2.2.2.2.2.2
  refine va_callFi (hr H locs ls hP hS hl.1) hS (fun q _ h => hF q h) hF (fun r u t H1 locs1 ht hvm hw hB hz hk hS1 => ?_)
  rw [ht] at hB
  exact kk r u.1 u.2 hw H1 locs1 ls (hB.mono (fun n _ h => hF _ h)) hS1 hl
theorem x_Vi (X : rX p s m args cd cc nL own W0 D cl tys A) (hG : GoodIn W0 W0) (hN : rN NW s) (hE : rE t0 A s s.heap) {n0 ci : Nat} {r9 : vw_C} {fs : List Value} {post : Int32 → (Nat → Nat) → rC → Prop} (hM : xMi l D cl tys NW t0 y (Cond.code y bytes maxL ret :: W0) rm (Value.ref (ad n0) :: As) ad c post) (Y : rYV W0 y bytes maxL ret C n) (hw : Cond.methodLink own i y ∈ W0) (hc0 : c n0 = some (.inr (ci, fs))) (hcl : cl[ci]? = some r9) (hr9 : r9.1 = C) (hn : As.length = n) (hst : st0 = As.reverse ++ .ref (ad n0) :: st) (hR : rm.frames + 1 ≤ R.frames ∧ 8 + (maxL + 11) + rm.locals ≤ R.locals) (hroom : (st.map fun v => v.category).sum ≤ 8) (hf : cells + rm.cells ≤ R.cells ∧ slots + rm.slots ≤ R.slots) (hd : decode cc pc = .ok (.invokevirtual i, 3)) (kk : ∀ (r : Int32) (ad' : Nat → Nat) (c' : rC), post r ad' c' → rW p l e R s m args below meth cd nL D cl A (cells + rm.cells) (slots + rm.slots) Q ad' c' (pc + 3) lv (.int r :: st)) : rW p l e R s m args below meth cd nL D cl A cells slots Q ad c pc lv st0 := r_calli X (x_runV X hG hN hE (fun sz => hM sz) Y hw hc0 hcl hr9 hn hst hR hroom hf hd) kk
theorem x_Fi (X : rX p s m args cd cc nL own W0 D cl tys A) (hG : GoodIn W0 W0) (hN : rN NW s) (hE : rE t0 A s s.heap) {n0 ci cnt : Nat} {r9 : vw_C} {fs : List Value} {post : Int32 → (Nat → Nat) → rC → Prop} (hM : xMi l D cl tys NW t0 y (Cond.code y bytes maxL ret :: W0) rm (Value.ref (ad n0) :: As) ad c post) (Y : rYF W0 x y bytes maxL ret R_AL n) (hFw : (x, y) ∈ xFw) (hw : Cond.methodLink own i x ∈ W0) (hc0 : c n0 = some (.inr (ci, fs))) (hcl : cl[ci]? = some r9) (hr9 : r9.1 = R_AL) (hn : As.length = n) (hst : st0 = As.reverse ++ .ref (ad n0) :: st) (hR : rm.frames + 1 ≤ R.frames ∧ 8 + (maxL + 11) + rm.locals ≤ R.locals) (hroom : (st.map fun v => v.category).sum ≤ 8) (hf : cells + rm.cells ≤ R.cells ∧ slots + rm.slots ≤ R.slots) (hd : decode cc pc = .ok (.invokeinterface i cnt, 5)) (kk : ∀ (r : Int32) (ad' : Nat → Nat) (c' : rC), post r ad' c' → rW p l e R s m args below meth cd nL D cl A (cells + rm.cells) (slots + rm.slots) Q ad' c' (pc + 5) lv (.int r :: st)) : rW p l e R s m args below meth cd nL D cl A cells slots Q ad c pc lv st0 := x_callFi X (x_runF X hG hN hE (fun sz => hM sz) Y hFw hw hc0 hcl hr9 hn hst hR hroom hf hd) kk
theorem x_Vl (X : rX p s m args cd cc nL own W0 D cl tys A) (hG : GoodIn W0 W0) (hN : rN NW s) (hE : rE t0 A s s.heap) {n0 ci : Nat} {r9 : vw_C} {fs : List Value} {post : Int64 → (Nat → Nat) → rC → Prop} (hM : xMl l D cl tys NW t0 y (Cond.code y bytes maxL ret :: W0) rm (Value.ref (ad n0) :: As) ad c post) (Y : rYV W0 y bytes maxL ret C n) (hw : Cond.methodLink own i y ∈ W0) (hc0 : c n0 = some (.inr (ci, fs))) (hcl : cl[ci]? = some r9) (hr9 : r9.1 = C) (hn : As.length = n) (hst : st0 = As.reverse ++ .ref (ad n0) :: st) (hR : rm.frames + 1 ≤ R.frames ∧ 8 + (maxL + 11) + rm.locals ≤ R.locals) (hroom : (st.map fun v => v.category).sum ≤ 8) (hf : cells + rm.cells ≤ R.cells ∧ slots + rm.slots ≤ R.slots) (hd : decode cc pc = .ok (.invokevirtual i, 3)) (kk : ∀ (r : Int64) (ad' : Nat → Nat) (c' : rC), post r ad' c' → rW p l e R s m args below meth cd nL D cl A (cells + rm.cells) (slots + rm.slots) Q ad' c' (pc + 3) lv (.long r :: st)) : rW p l e R s m args below meth cd nL D cl A cells slots Q ad c pc lv st0 := r_calll X (x_runV X hG hN hE (fun sz => hM sz) Y hw hc0 hcl hr9 hn hst hR hroom hf hd) kk
theorem x_Vd (X : rX p s m args cd cc nL own W0 D cl tys A) (hG : GoodIn W0 W0) (hN : rN NW s) (hE : rE t0 A s s.heap) {n0 ci : Nat} {r9 : vw_C} {fs : List Value} {post : UInt64 → (Nat → Nat) → rC → Prop} (hM : xMd l D cl tys NW t0 y (Cond.code y bytes maxL ret :: W0) rm (Value.ref (ad n0) :: As) ad c post) (Y : rYV W0 y bytes maxL ret C n) (hw : Cond.methodLink own i y ∈ W0) (hc0 : c n0 = some (.inr (ci, fs))) (hcl : cl[ci]? = some r9) (hr9 : r9.1 = C) (hn : As.length = n) (hst : st0 = As.reverse ++ .ref (ad n0) :: st) (hR : rm.frames + 1 ≤ R.frames ∧ 8 + (maxL + 11) + rm.locals ≤ R.locals) (hroom : (st.map fun v => v.category).sum ≤ 8) (hf : cells + rm.cells ≤ R.cells ∧ slots + rm.slots ≤ R.slots) (hd : decode cc pc = .ok (.invokevirtual i, 3)) (kk : ∀ (r : UInt64) (ad' : Nat → Nat) (c' : rC), post r ad' c' → rW p l e R s m args below meth cd nL D cl A (cells + rm.cells) (slots + rm.slots) Q ad' c' (pc + 3) lv (.double r :: st)) : rW p l e R s m args below meth cd nL D cl A cells slots Q ad c pc lv st0 := r_calld X (x_runV X hG hN hE (fun sz => hM sz) Y hw hc0 hcl hr9 hn hst hR hroom hf hd) kk
theorem x_Vq (X : rX p s m args cd cc nL own W0 D cl tys A) (hG : GoodIn W0 W0) (hN : rN NW s) (hE : rE t0 A s s.heap) {n0 ci : Nat} {r9 : vw_C} {fs : List Value} {post : Option Nat → (Nat → Nat) → rC → Prop} (hM : xMq l D cl tys NW t0 y (Cond.code y bytes maxL ret :: W0) rm (Value.ref (ad n0) :: As) ad c post) (Y : rYV W0 y bytes maxL ret C n) (hw : Cond.methodLink own i y ∈ W0) (hc0 : c n0 = some (.inr (ci, fs))) (hcl : cl[ci]? = some r9) (hr9 : r9.1 = C) (hn : As.length = n) (hst : st0 = As.reverse ++ .ref (ad n0) :: st) (hR : rm.frames + 1 ≤ R.frames ∧ 8 + (maxL + 11) + rm.locals ≤ R.locals) (hroom : (st.map fun v => v.category).sum ≤ 8) (hf : cells + rm.cells ≤ R.cells ∧ slots + rm.slots ≤ R.slots) (hd : decode cc pc = .ok (.invokevirtual i, 3)) (kk : ∀ (r : Option Nat) (ad' : Nat → Nat) (c' : rC), post r ad' c' → rW p l e R s m args below meth cd nL D cl A (cells + rm.cells) (slots + rm.slots) Q ad' c' (pc + 3) lv (va_rf r :: st)) : rW p l e R s m args below meth cd nL D cl A cells slots Q ad c pc lv st0 := r_callq X (x_runV X hG hN hE (fun sz => hM sz) Y hw hc0 hcl hr9 hn hst hR hroom hf hd) kk
theorem x_Vv (X : rX p s m args cd cc nL own W0 D cl tys A) (hG : GoodIn W0 W0) (hN : rN NW s) (hE : rE t0 A s s.heap) {n0 ci : Nat} {r9 : vw_C} {fs : List Value} {post : (Nat → Nat) → rC → Prop} (hM : xMv l D cl tys NW t0 y (Cond.code y bytes maxL ret :: W0) rm (Value.ref (ad n0) :: As) ad c post) (Y : rYV W0 y bytes maxL ret C n) (hw : Cond.methodLink own i y ∈ W0) (hc0 : c n0 = some (.inr (ci, fs))) (hcl : cl[ci]? = some r9) (hr9 : r9.1 = C) (hn : As.length = n) (hst : st0 = As.reverse ++ .ref (ad n0) :: st) (hR : rm.frames + 1 ≤ R.frames ∧ 8 + (maxL + 11) + rm.locals ≤ R.locals) (hroom : (st.map fun v => v.category).sum ≤ 8) (hf : cells + rm.cells ≤ R.cells ∧ slots + rm.slots ≤ R.slots) (hd : decode cc pc = .ok (.invokevirtual i, 3)) (kk : ∀ (ad' : Nat → Nat) (c' : rC), post ad' c' → rW p l e R s m args below meth cd nL D cl A (cells + rm.cells) (slots + rm.slots) Q ad' c' (pc + 3) lv st) : rW p l e R s m args below meth cd nL D cl A cells slots Q ad c pc lv st0 := r_callv X (x_runV X hG hN hE (fun sz => hM sz) Y hw hc0 hcl hr9 hn hst hR hroom hf hd) kk
theorem x_Iv (X : rX p s m args cd cc nL own W0 D cl tys A) (hG : GoodIn W0 W0) (hN : rN NW s) (hE : rE t0 A s s.heap) {b : Nat} {post : (Nat → Nat) → rC → Prop} (hM : xMv l D cl tys NW t0 y (Cond.code y bytes maxL none :: W0) rm (Value.ref b :: As) ad c post) (Y : rYI W0 y bytes maxL n) (hw : Cond.methodLink own i y ∈ W0) (hn : As.length = n) (hst : st0 = As.reverse ++ .ref b :: st) (hR : rm.frames + 1 ≤ R.frames ∧ 8 + (maxL + 11) + rm.locals ≤ R.locals) (hroom : (st.map fun v => v.category).sum ≤ 8) (hf : cells + rm.cells ≤ R.cells ∧ slots + rm.slots ≤ R.slots) (hd : decode cc pc = .ok (.invokespecial i, 3)) (kk : ∀ (ad' : Nat → Nat) (c' : rC), post ad' c' → rW p l e R s m args below meth cd nL D cl A (cells + rm.cells) (slots + rm.slots) Q ad' c' (pc + 3) lv st) : rW p l e R s m args below meth cd nL D cl A cells slots Q ad c pc lv st0 := r_callv X (x_runI X hG hN hE (fun sz => hM sz) Y hw hn hst hR hroom hf hd) kk
end XCALL
/-- a method's body out of rPx -/
theorem x_of {own : String} {l : Launch} {D : va_G} {cl : List vw_C} {tys : List (ClassId × FieldType)} {NW W0 : List Cond} {t0 : Nat} {y : MethodName} {rm : Room} {av : List Value} {ad : Nat → Nat} {c : rC} {sz : Nat} {cc : ByteArray} {nL : Nat} {ret : Option FieldType} {Qc : Array Value → State → Outcome → State → Prop} (ho : y.cls = own) (hy : plainName y.cls = true) (hav : (lg_sl av).length ≤ nL)
    (body : ∀ (p : Program) (e : Env) (s : State) (m : MethodId) (below : List Frame) (meth : Method) (cd : Code), s.heap.size = sz → rX p s m av.toArray cd cc nL own W0 D cl tys (rA ad c sz) → meth.sig.returnType = ret → meth.locks = false → rN NW s → rE t0 (rA ad c sz) s s.heap → meth.name = y.name →
      rW p l e rm s m av.toArray below meth cd nL D cl (rA ad c sz) 0 0 (MQ below Qc av.toArray s rm.cells rm.slots (rA ad c sz)) ad c 0 (lv_args 0 av) []) :
    Met l y (Cond.code y cc nL ret :: W0) rm (va_Pc av (rPx D cl tys NW t0 ad c sz)) Qc rm.cells rm.slots (rA ad c sz) := by
  refine Met.ofW (cc := cc) (maxL := nL) (ret := ret) hy rfl ?_
  subst ho
  intro p e s m args below meth cd s₁ B hml hv
  obtain ⟨rfl, ⟨hsz, hP, hK, hN⟩, hE⟩ := hv
  have hts := atoms_spec (ws := Cond.code y cc nL ret :: W0) B.pre
  have hown : s.vm.findClass y.cls = some m.cls := findClass_of_methodNamed B.named
  have hin : meth.name = y.name := (name_of_methodNamed B.named B.method).1
  have hl := lv_entry av (n := nL) hav
  rw [lg_entry_eq]
  subst hsz
  have hb := body p e s m below meth cd rfl ⟨B.exec, B.bytes, hml, hown, fun w h => hts w (List.mem_cons_of_mem _ h), hK, fun q h => Or.inr h⟩ B.returns B.notSynchronized hN hE hin
  exact hb s.heap [] _ (hP.self _) va_S.rf hl
/-- a throwing method's body -/
theorem x_oft {own : String} {l : Launch} {D : va_G} {cl : List vw_C} {tys : List (ClassId × FieldType)} {NW W0 : List Cond} {t0 : Nat} {y : MethodName} {rm : Room} {av : List Value} {ad : Nat → Nat} {c : rC} {sz : Nat} {cc : ByteArray} {nL : Nat} {ret : Option FieldType} {Qc : Array Value → State → Outcome → State → Prop} {XC : String → State → State → Prop} (ho : y.cls = own) (hy : plainName y.cls = true) (hav : (lg_sl av).length ≤ nL)
    (body : ∀ (p : Program) (e : Env) (s : State) (m : MethodId) (below : List Frame) (meth : Method) (cd : Code), s.heap.size = sz → rX p s m av.toArray cd cc nL own W0 D cl tys (rA ad c sz) → (∀ x ∈ cd.exceptionTable.toList, False) → meth.locks = false → rN NW s → rE t0 (rA ad c sz) s s.heap →
      rW p l e rm s m av.toArray below meth cd nL D cl (rA ad c sz) 0 0 (vx_MQ below Qc XC av.toArray s rm.cells rm.slots (rA ad c sz)) ad c 0 (lv_args 0 av) []) :
    vx_Met l y (Cond.code y cc nL ret :: W0) rm (va_Pc av (rPx D cl tys NW t0 ad c sz)) Qc XC rm.cells rm.slots (rA ad c sz) := by
  refine vx_ofW (cc := cc) (maxL := nL) (ret := ret) hy rfl ?_
  subst ho
  intro p e s m args below meth cd s₁ B hml hno hv
  obtain ⟨rfl, ⟨hsz, hP, hK, hN⟩, hE⟩ := hv
  have hts := atoms_spec (ws := Cond.code y cc nL ret :: W0) B.pre
  have hown : s.vm.findClass y.cls = some m.cls := findClass_of_methodNamed B.named
  have hl := lv_entry av (n := nL) hav
  rw [lg_entry_eq]
  subst hsz
  have hb := body p e s m below meth cd rfl ⟨B.exec, B.bytes, hml, hown, fun w h => hts w (List.mem_cons_of_mem _ h), hK, fun q h => Or.inr h⟩ hno B.notSynchronized hN hE
  exact hb s.heap [] _ (hP.self _) va_S.rf hl
/-- a body with handlers -/
theorem x_ofh {own : String} {l : Launch} {D : va_G} {cl : List vw_C} {tys : List (ClassId × FieldType)} {NW W0 : List Cond} {t0 : Nat} {y : MethodName} {rm : Room} {av : List Value} {ad : Nat → Nat} {c : rC} {sz : Nat} {cc : ByteArray} {nL : Nat} {ret : Option FieldType} {hh : List (Nat × Nat × Nat × Nat)} {Qc : Array Value → State → Outcome → State → Prop} {XC : String → State → State → Prop} (ho : y.cls = own) (hy : plainName y.cls = true) (hav : (lg_sl av).length ≤ nL)
    (body : ∀ (p : Program) (e : Env) (s : State) (m : MethodId) (below : List Frame) (meth : Method) (cd : Code), s.heap.size = sz → rX p s m av.toArray cd cc nL own W0 D cl tys (rA ad c sz) → cd.exceptionTable.toList = tableOf hh → meth.sig.returnType = ret → meth.locks = false → rN NW s → rE t0 (rA ad c sz) s s.heap →
      rW p l e rm s m av.toArray below meth cd nL D cl (rA ad c sz) 0 0 (vx_MQ below Qc XC av.toArray s rm.cells rm.slots (rA ad c sz)) ad c 0 (lv_args 0 av) []) :
    vx_Met l y (Cond.codeWith y cc nL ret hh :: W0) rm (va_Pc av (rPx D cl tys NW t0 ad c sz)) Qc XC rm.cells rm.slots (rA ad c sz) := by
  refine vx_ofWH (cc := cc) (maxL := nL) (ret := ret) (hh := hh) hy rfl ?_
  subst ho
  intro p e s m args below meth cd s₁ B hml hv
  obtain ⟨rfl, ⟨hsz, hP, hK, hN⟩, hE⟩ := hv
  have hts := atoms_spec (ws := Cond.codeWith y cc nL ret hh :: W0) B.pre
  have hown : s.vm.findClass y.cls = some m.cls := findClass_of_methodNamed B.named
  have hl := lv_entry av (n := nL) hav
  rw [lg_entry_eq]
  subst hsz
  have hb := body p e s m below meth cd rfl ⟨B.exec, B.bytes, hml, hown, fun w h => hts w (List.mem_cons_of_mem _ h), hK, fun q h => Or.inr h⟩ (vx_table (x := y) B (hts _ List.mem_cons_self)) B.returns B.notSynchronized hN hE
  exact hb s.heap [] _ (hP.self _) va_S.rf hl
section XROWS
variable {p : Program} {l : Launch} {e : Env} {R : Room} {s : State} {m : MethodId} {args : Array Value} {below : List Frame} {meth : Method} {cd : Code} {cc : ByteArray} {nL : Nat} {own : String} {Ts : List Cond} {D : va_G} {cl : List vw_C} {tys : List (ClassId × FieldType)} {A : Nat → Prop} {cells slots : Nat} {Q : State → Prop} {ad : Nat → Nat} {c : rC} {pc : Nat} {lv : List (Nat × Value)} {st : List Value}
variable {t0 : Nat} {st0 As : List Value} {rm : Room} {y : MethodName} {bytes : ByteArray} {maxL n i : Nat} {ret : Option FieldType} {C : String} {NW : List Cond} {mc ms : Nat}
/-- new E("text"), thrown out of the method -/
theorem x_throw (X : rX p s m args cd cc nL R_G W0 D cl tys A) (hE : rE t0 A s s.heap) (hl : l.stackTraces = false) (hno : ∀ x ∈ cd.exceptionTable.toList, False) (hlk : meth.locks = false) {E : String} {ik is ic : Nat} {text : String} (hfit : Bundle.fit E = true) (hk : Cond.classLink R_G ik E ∈ W0) (hini : Cond.initialized E ∈ W0) (hs : (is, text) ∈ xStr) (hat : ∀ w ∈ vx_atS R_G ic E E_sup, w ∈ lw_tbl ∧ rEk w = true ∧ w.onTables = true) {Qc : Array Value → State → Outcome → State → Prop} (hRf : 5 < R.frames) (hRl : (st.map fun v => v.category).sum + 82 ≤ R.locals) (hc : cells + 1 ≤ R.cells ∧ slots + 6 ≤ R.slots)
    (d0 : decode cc pc = .ok (.new ik, 3)) (d3 : decode cc (pc + 3) = .ok (.dup, 1)) (d4 : decode cc (pc + 4) = .ok (.ldc is, 2)) (d6 : decode cc (pc + 6) = .ok (.invokespecial ic, 3)) (d9 : decode cc (pc + 9) = .ok (.athrow, 1)) :
    rW p l e R s m args below meth cd nL D cl A cells slots (vx_MQ below Qc (xX D cl ad c A E) args s R.cells R.slots A) ad c pc lv st := by
  intro H locs ls hP hS hls
  obtain ⟨hx, hb, hml, hown, hts, hK, hA⟩ := X
  obtain ⟨e1, e2, e3, e4, e5, e6, e7, e8⟩ := hE
  obtain ⟨sa, hsa⟩ := e2 _ hs
  have h1 : ∀ w ∈ vx_atS R_G ic E E_sup, w.before args s = true := fun w hw => va_any (hat w hw).2.2 (e1 w (hat w hw).1 (hat w hw).2.1)
  refine vx_throwS (names := E_sup) (A := A) hx hb hl hown hfit (by decide +kernel) (hts _ hk) (hts _ hini) hsa h1 (fun w hw => ?_) e5 e6 hS (hls.1.trans hml.symm) d0 d3 d4 d6 d9 (fun x hx => (hno x hx).elim) hRf hRl hc.1 hc.2 hlk (fun t hA1 hz hk9 => ⟨(), trivial, ⟨rfl, ?_⟩, ?_⟩) hS.2.2 hc.1 hc.2
  · rcases List.mem_cons.mp hw with rfl | hw
    · rfl
    · rcases List.mem_cons.mp hw with rfl | hw
      · rfl
      · show (w.onTables || goodWord w) = true
        rw [(hat w hw).2.2]
        rfl
  · exact ⟨fun n x hn => ⟨(hP.1 n x hn).1.kept (hk9 _ (hP.1 n x hn).1.lt), (hP.1 n x hn).2⟩, hP.2⟩
  · exact ⟨Nat.le_trans hS.1 hz, fun q h1 h2 => by rw [hk9 q (Nat.lt_of_lt_of_le h1 hS.1)]; exact hS.2.1 q h1 h2⟩
theorem x_throwW (X : rX p s m args cd cc nL R_G W0 D cl tys A) (hE : rE t0 A s s.heap) (hl : l.stackTraces = false) (hno : ∀ x ∈ cd.exceptionTable.toList, False) (hlk : meth.locks = false) {E : String} {ik is ic : Nat} {text : String} (hfit : Bundle.fit E = true) (hk : Cond.classLink R_G ik E ∈ W0) (hini : Cond.initialized E ∈ W0) (hs : (is, text) ∈ xStr) (hat : ∀ w ∈ vx_atS R_G ic E E_sup, w ∈ lw_tbl ∧ rEk w = true ∧ w.onTables = true) {Qc : Array Value → State → Outcome → State → Prop} (hRf : 5 < R.frames) (hRl : (st.map fun v => v.category).sum + 82 ≤ R.locals) (hc : cells + 1 ≤ R.cells ∧ slots + 6 ≤ R.slots)
    (d0 : decode cc pc = .ok (.new ik, 3)) (d3 : decode cc (pc + 3) = .ok (.dup, 1)) (d4 : decode cc (pc + 4) = .ok (.ldc_w is, 3)) (d6 : decode cc (pc + 7) = .ok (.invokespecial ic, 3)) (d9 : decode cc (pc + 10) = .ok (.athrow, 1)) :
    rW p l e R s m args below meth cd nL D cl A cells slots (vx_MQ below Qc (xX D cl ad c A E) args s R.cells R.slots A) ad c pc lv st := by
  intro H locs ls hP hS hls
  obtain ⟨hx, hb, hml, hown, hts, hK, hA⟩ := X
  obtain ⟨e1, e2, e3, e4, e5, e6, e7, e8⟩ := hE
  obtain ⟨sa, hsa⟩ := e2 _ hs
  have h1 : ∀ w ∈ vx_atS R_G ic E E_sup, w.before args s = true := fun w hw => va_any (hat w hw).2.2 (e1 w (hat w hw).1 (hat w hw).2.1)
  refine vx_throwSW (names := E_sup) (A := A) hx hb hl hown hfit (by decide +kernel) (hts _ hk) (hts _ hini) hsa h1 (fun w hw => ?_) e5 e6 hS (hls.1.trans hml.symm) d0 d3 d4 d6 d9 (fun x hx => (hno x hx).elim) hRf hRl hc.1 hc.2 hlk (fun t hA1 hz hk9 => ⟨(), trivial, ⟨rfl, ?_⟩, ?_⟩) hS.2.2 hc.1 hc.2
  · rcases List.mem_cons.mp hw with rfl | hw
    · rfl
    · rcases List.mem_cons.mp hw with rfl | hw
      · rfl
      · show (w.onTables || goodWord w) = true
        rw [(hat w hw).2.2]
        rfl
  · exact ⟨fun n x hn => ⟨(hP.1 n x hn).1.kept (hk9 _ (hP.1 n x hn).1.lt), (hP.1 n x hn).2⟩, hP.2⟩
  · exact ⟨Nat.le_trans hS.1 hz, fun q h1 h2 => by rw [hk9 q (Nat.lt_of_lt_of_le h1 hS.1)]; exact hS.2.1 q h1 h2⟩
/-- a call that throws an E, and the handler that takes it -/
theorem x_Vt (X : rX p s m args cd cc nL own W0 D cl tys A) (hG : GoodIn W0 W0) (hN : rN NW s) (hE : rE t0 A s s.heap) {n0 ci : Nat} {r : vw_C} {fs : List Value} {E : String} (hM : xMt l D cl tys NW t0 y (Cond.code y bytes maxL ret :: W0) rm (Value.ref (ad n0) :: As) ad c E) (Y : rYV W0 y bytes maxL ret C n) (hw : Cond.methodLink own i y ∈ W0) (hc0 : c n0 = some (.inr (ci, fs))) (hcl : cl[ci]? = some r) (hr : r.1 = C) (hn : As.length = n) (hst : st0 = As.reverse ++ .ref (ad n0) :: st) (hR : rm.frames + 1 ≤ R.frames ∧ 8 + (maxL + 11) + rm.locals ≤ R.locals) (hroom : (st.map fun v => v.category).sum ≤ 8) (hf : cells + rm.cells ≤ R.cells ∧ slots + rm.slots ≤ R.slots) (hd : decode cc pc = .ok (.invokevirtual i, 3))
    {hh : List (Nat × Nat × Nat × Nat)} (htab : cd.exceptionTable.toList = tableOf hh) {name : String} (pre : List ExceptionTableEntry) (x : ExceptionTableEntry) (suf : List ExceptionTableEntry) (hsplit : tableOf hh = pre ++ x :: suf)
    (hpass : ∀ z ∈ pre, covers z pc = false ∨ (z.catchType ≠ 0 ∧ ∃ nm : String, Cond.classLink own z.catchType nm ∈ W0 ∧ va_Nc E nm s)) (hx : covers x pc = true) (h0 : x.catchType ≠ 0) (hlink : Cond.classLink own x.catchType name ∈ W0) (hcast : (Cond.castable E name).before #[] s = true)
    (kk : ∀ q : Nat, rW p l e R s m args below meth cd nL D cl A (cells + rm.cells) (slots + rm.slots) Q ad c x.handlerPc lv [.ref q]) : rW p l e R s m args below meth cd nL D cl A cells slots Q ad c pc lv st0 := by
  intro H locs ls hP hS hl
  have hF := rA.in hP hS X.2.2.2.2.2.2
  subst hst; subst hr
  obtain ⟨hx1, hb, hml, hown, hts, hK, hA⟩ := X
  obtain ⟨y1, y2, y3, y4, y5⟩ := Y
  have hT : GoodIn W0 (wsV own i r.1 y (Cond.code y bytes maxL ret :: W0)) := fun w h => by
    rcases List.mem_append.mp h with h | h
    · simp only [List.mem_cons, List.not_mem_nil, or_false] at h
      rcases h with rfl | rfl | rfl | rfl
      · exact hG _ hw
      · exact hG _ y2
      · exact hG _ y3
      · exact hG _ y4
    · exact rY_good hG y1 w h
  refine vx_calli (vx_runV (As := As) (rest := st) ⟨hx1, hb, hml, hown, hts⟩ (hM H.size) (cwV n hts hT rfl rfl rfl y5 hR) ⟨rPx.blind, va_recv hK (hP.one hc0) (q0 := 0) hcl rfl, fun U hU hW => ⟨rfl, rPx.at hU hW hP hS hA hK hN hE⟩⟩ rfl hn hl.1 rfl (lv_room hroom) hd hf) hS (fun q _ h => hF q h) hF (fun q _ h => hF q h) (fun E' ce q9 u t H1 locs1 ht hvm hu hB hz hk hS1 hcell hv hcl9 => ?_) (fun r u t H1 locs1 ht hvm hw' => hw'.elim)
  obtain ⟨rfl, hB⟩ := hB
  rw [ht] at hB
  refine vx_catch (E := E') (name := name) hown pre x suf (htab.trans hsplit) (fun z hz => ?_) hx h0 (hts _ hlink) (va_any rfl hcast) hcell hv hcl9 ?_
  · rcases hpass z hz with h | ⟨h1, nm, h2, h3⟩
    · exact Or.inl h
    · exact Or.inr ⟨h1, nm, hts _ h2, h3⟩
  · exact kk q9 H1 locs1 ls (hB.mono (fun n _ h => hF _ h)) hS1 hl
theorem x_iret {Qc : Array Value → State → Outcome → State → Prop} {XC : String → State → State → Prop} (kk : rW p l e R s m args below meth cd nL D cl A cells slots (MQ below Qc args s mc ms A) ad c pc lv st) : rW p l e R s m args below meth cd nL D cl A cells slots (vx_MQ below Qc XC args s mc ms A) ad c pc lv st := fun H locs ls hP hS hl => vx_ret (kk H locs ls hP hS hl)
/-- the static array that an empty list holds -/
theorem x_gets (X : rX p s m args cd cc nL R_AL W0 D cl tys A) (hE : rE t0 A s s.heap) {i : Nat} (hw : Cond.fieldLink R_AL i R_AL "DEFAULTCAPACITY_EMPTY_ELEMENTDATA" "[Ljava/lang/Object;" ∈ W0) (hd : decode cc pc = .ok (.getstatic i, 3)) (kk : rW p l e R s m args below meth cd nL D cl A cells slots Q ad c (pc + 3) lv (.ref t0 :: st)) : rW p l e R s m args below meth cd nL D cl A cells slots Q ad c pc lv st := fun H locs ls hP hS hl =>
  va_gets X.1 X.2.1 hE.2.2.2.2.2.2.1 hS X.2.2.2.1 (X.2.2.2.2.1 _ hw) (fun _ h => h) hd (kk H locs ls hP hS hl)
theorem x_alen (X : rX p s m args cd cc nL own W0 D cl tys A) (hE : rE t0 A s s.heap) (hd : decode cc pc = .ok (.arraylength, 1)) (kk : rW p l e R s m args below meth cd nL D cl A cells slots Q ad c (pc + 1) lv (.int 0 :: st)) : rW p l e R s m args below meth cd nL D cl A cells slots Q ad c pc lv (.ref t0 :: st) := fun H locs ls hP hS hl => by
  obtain ⟨cell, h1, h2, h3, h4, h5, h6, h7⟩ := hE.2.2.2.2.2.2.2
  exact W.alen (n := 0) X.1 X.2.1 (by rw [hS.2.1 t0 (Array.getElem?_eq_some_iff.mp h1).1 h7]; exact h1) h2 h5 rfl rfl hd (kk H locs ls hP hS hl)
theorem x_lald (X : rX p s m args cd cc nL own Ts D cl tys A) (t : Nat) {n N : Nat} {cA : ClassId} {f : Nat → Int64} {i : Int32} {v : Int64} (hc : c n = some (.inl (cA, N, .inr (.inl f)))) (ht : tys[t]? = some (cA, .long)) (hi : vp_in i N) (hv : f i.toNatClampNeg = v) (hd : decode cc pc = .ok (.laload, 1)) (kk : rW p l e R s m args below meth cd nL D cl A cells slots Q ad c (pc + 1) lv (.long v :: st)) : rW p l e R s m args below meth cd nL D cl A cells slots Q ad c pc lv (.int i :: .ref (ad n) :: st) := fun H locs ls hP hS hl => va_lald X.1 X.2.1 X.2.2.2.2.2.1 (hP.one hc) 0 t rfl ht hi hd (by rw [hv]; exact kk H locs ls hP hS hl)
theorem x_last (X : rX p s m args cd cc nL own Ts D cl tys A) (t : Nat) {n N : Nat} {cA : ClassId} {f f' : Nat → Int64} {i : Int32} {x : Int64} (hc : c n = some (.inl (cA, N, .inr (.inl f)))) (ht : tys[t]? = some (cA, .long)) (hi : vp_in i N) (hf : vp_updL f i.toNatClampNeg x = f') (c' : rC) (hc' : va_up c n (some (.inl (cA, N, .inr (.inl f')))) = c') (hd : decode cc pc = .ok (.lastore, 1)) (kk : rW p l e R s m args below meth cd nL D cl A cells slots Q ad c' (pc + 1) lv st) : rW p l e R s m args below meth cd nL D cl A cells slots Q ad c pc lv (.long x :: .int i :: .ref (ad n) :: st) := by
  intro H locs ls hP hS hl
  subst hf; subst hc'
  refine W.last X.1 X.2.1 (hP.1 n _ hc).1 ((X.2.2.2.2.2.1.2 t _ ht).1 N (fun j => .long (f j))) (fun q => by cases q) (by show ¬ (i < 0 ∨ (arrV _ _ _).slots.size ≤ _); rw [arrV_size]; exact hi) rfl rfl hd fun H1 e1 z oq => ?_
  refine kk H1 _ ls (hP.put hc ?_ oq) (hS.put z oq (hP.1 n _ hc).2) hl
  show H1[ad n]? = some (vp_cell _ _)
  rw [e1]
  rw [vp_cell_l, vp_cell_l, arrV_store]
  congr 2
  funext q
  by_cases hq : q = i.toNatClampNeg
  · subst hq
    simp [updV, vp_updL]
  · simp [updV, vp_updL, hq]
/-- an element that is an array -/
theorem x_aald (X : rX p s m args cd cc nL own Ts D cl tys A) (t : Nat) {n N : Nat} {cA : ClassId} {ty : FieldType} {f : Nat → Option Nat} {i : Int32} {v : Value} (hc : c n = some (.inl (cA, N, .inr (.inr (.inr (.inr f)))))) (ht : tys[t]? = some (cA, .array ty)) (hi : vp_in i N) (hv : va_rf (f i.toNatClampNeg) = v) (hd : decode cc pc = .ok (.aaload, 1)) (kk : rW p l e R s m args below meth cd nL D cl A cells slots Q ad c (pc + 1) lv (v :: st)) : rW p l e R s m args below meth cd nL D cl A cells slots Q ad c pc lv (.int i :: .ref (ad n) :: st) := fun H locs ls hP hS hl => by
  have hlt : i.toNatClampNeg < N := Nat.not_le.mp fun q => hi (Or.inr q)
  exact W.aald (v := va_rf (f i.toNatClampNeg)) (ty := .array ty) X.1 X.2.1 (hP.1 n _ hc).1 ((X.2.2.2.2.2.1.2 t _ ht).1 N (fun j => va_rf (f j))) rfl (fun q => by cases q) (by show ¬ (i < 0 ∨ (arrV _ _ _).slots.size ≤ _); rw [arrV_size]; exact hi) (by show (arrV _ _ _).slots[_]? = _; rw [arrV_read _ _ hlt]) rfl rfl hd (by rw [hv]; exact kk H locs ls hP hS hl)
/-- an object into an array of another class' type -/
theorem x_aastO (X : rX p s m args cd cc nL own Ts D cl tys A) (t : Nat) {n N n2 ci : Nat} {cA : ClassId} {r : vw_C} {E : String} {vs : List Value} {f f' : Nat → Option Nat} {i : Int32} (hc : c n = some (.inl (cA, N, .inr (.inr (.inr (.inr f)))))) (ht : tys[t]? = some (cA, .object E)) (hca : va_Nw (.castable r.1 E) s) (hc2 : c n2 = some (.inr (ci, vs))) (hcl : cl[ci]? = some r) (hi : vp_in i N) (hf : va_up f i.toNatClampNeg (some (ad n2)) = f') (c' : rC) (hc' : va_up c n (some (.inl (cA, N, .inr (.inr (.inr (.inr f')))))) = c') (hd : decode cc pc = .ok (.aastore, 1)) (kk : rW p l e R s m args below meth cd nL D cl A cells slots Q ad c' (pc + 1) lv st) : rW p l e R s m args below meth cd nL D cl A cells slots Q ad c pc lv (.ref (ad n2) :: .int i :: .ref (ad n) :: st) := by
  intro H locs ls hP hS hl
  subst hf; subst hc'
  have hlt : i.toNatClampNeg < N := Nat.not_le.mp fun q => hi (Or.inr q)
  have h0 : ¬ i < 0 := fun q => hi (Or.inl q)
  obtain ⟨r', hr', cellV, g1, g2, g3, -⟩ := (hP.1 n2 _ hc2).1
  have hcls := (X.2.2.2.2.2.1.1 ci r hcl).2
  obtain ⟨kA, comp, k1, k2, k3, -⟩ := (X.2.2.2.2.2.1.2 t _ ht).2
  obtain ⟨kE, hkE, -⟩ := Vm.findClass_spec k3
  obtain ⟨c0, t1, f1, f2, f3⟩ := Cond.castable_spec (va_Nw.use (A := args) rfl hca)
  cases hcls.1.symm.trans f1
  cases k3.symm.trans f2
  obtain ⟨kC, hkC, -⟩ := hcls.2
  refine W.aast X.1 X.2.1 (hP.1 n _ hc).1 (fun q h => by cases h) (fun h => by cases h) k1 k2 rfl hkE ⟨h0, by show _ < (arrV _ _ _).slots.size; rw [arrV_size]; exact hlt⟩ g1 (fun q h => by rw [g3] at h; cases h) (by rw [g2]; exact hkC) (by rw [g2]; exact f3) rfl rfl hd fun H1 e1 z oq => ?_
  refine kk H1 _ ls (hP.put hc ?_ oq) (hS.put z oq (hP.1 n _ hc).2) hl
  show H1[ad n]? = some (vp_cell _ _)
  rw [e1]
  rw [vp_cell_q, vp_cell_q, arrV_store]
  congr 2
  funext q
  by_cases hq : q = i.toNatClampNeg
  · subst hq
    simp [updV, va_up, va_rf]
  · simp [updV, va_up, hq]
/-- a field by the name of a class below -/
theorem x_get (X : rX p s m args cd cc nL own Ts D cl tys A) {ci : Nat} {C : String} {T : u_T} {N : Nat} {ty : Nat → FieldType} (K : rF Ts cl ci C T N ty) (k : Nat) (hk : k < N) {n i : Nat} {fs : List Value} {v : Value} {ref : String} (hw : Cond.fieldLink own i ref (T k).2.1 (T k).2.2.1 ∈ Ts) (hsf : Cond.sameField ref (T k).1 (T k).2.1 (T k).2.2.1 ∈ Ts) (hc : c n = some (.inr (ci, fs))) (hv : fs[k]? = some v) (hd : decode cc pc = .ok (.getfield i, 3)) (kk : rW p l e R s m args below meth cd nL D cl A cells slots Q ad c (pc + 3) lv (v :: st)) : rW p l e R s m args below meth cd nL D cl A cells slots Q ad c pc lv (.ref (ad n) :: st) := fun H locs ls hP hS hl =>
  va_get (ws := [(ad n, .inr (ci, fs))]) X.1 X.2.1 X.2.2.2.2.1 K.1 X.2.2.2.1 X.2.2.2.2.2.1 (hP.one hc) 0 rfl K.2.1 k hk (X.2.2.2.2.1 _ hw) (u_same (X.2.2.2.2.1 _ hsf)) hv hd (kk H locs ls hP hS hl)
theorem x_put (X : rX p s m args cd cc nL own Ts D cl tys A) {ci : Nat} {C : String} {T : u_T} {N : Nat} {ty : Nat → FieldType} (K : rF Ts cl ci C T N ty) (k : Nat) (hk : k < N) {n i : Nat} {fs : List Value} {v : Value} {ref : String} (hw : Cond.fieldLink own i ref (T k).2.1 (T k).2.2.1 ∈ Ts) (hsf : Cond.sameField ref (T k).1 (T k).2.1 (T k).2.2.1 ∈ Ts) (hc : c n = some (.inr (ci, fs))) (hfin : (T k).2.2.2 = false) (hn : narrow (ty k) v = v) (hv : fits (ty k) v = true) (hlen : k < fs.length) (fs' : List Value) (hfs : fs.set k v = fs') (c' : rC) (hc' : va_up c n (some (.inr (ci, fs'))) = c') (hd : decode cc pc = .ok (.putfield i, 3)) (kk : rW p l e R s m args below meth cd nL D cl A cells slots Q ad c' (pc + 3) lv st) : rW p l e R s m args below meth cd nL D cl A cells slots Q ad c pc lv (v :: .ref (ad n) :: st) := by
  intro H locs ls hP hS hl
  subst hfs; subst hc'
  obtain ⟨hx, hb, hml, hown, hts, hK, hA⟩ := X
  obtain ⟨hin, hcl, hty, hnm⟩ := K
  have hap := va_apart (own := own) hts hin ty hty hnm hK hcl
  obtain ⟨r, h1, cell, q1, q2, q3, q4⟩ := (hP.1 n _ hc).1
  have hr : r = (C, T, N) := Option.some.inj (h1.symm.trans hcl)
  subst hr
  obtain ⟨hSl, hfc, kC, hkC, hkind⟩ := hK.1 ci _ hcl
  obtain ⟨cf, kf, fi, f, hi, hsl⟩ := hSl k hk
  have hlay := hts _ (hin _ (u_in_lay hk))
  unfold u_lay at hlay
  rw [if_neg (by rw [hfin]; decide)] at hlay
  have hst := (u_facts hfc hkC (u_lays hts hin hk) hi).1
  have h6 := u_store hfc hkC hkind hlay hi (hty k hk) hn hv
  have hi2 := u_same (hts _ hsf) _ hi
  refine W.putK hx hb (f := f) ⟨hown, hts _ hw, ⟨_, _, _, hi2⟩, hst⟩ (by rw [q2]; exact h6) q1 q3 (by rw [hsl]; exact k2_hasslot (q4 k hk)) rfl rfl hd fun H' e1 e2 e3 => ?_
  rw [hsl] at e1 ⊢
  exact kk H' _ ls (hP.put hc ⟨_, hcl, t_OB.to (V := updV (vp_V fs) k v) ⟨_, e1, q2, q3, t_set q4 hap hk v⟩ (fun j _ => vp_updV_set hlen v j)⟩ e3) (hS.put e2 e3 (hP.1 n _ hc).2) hl
end XROWS
theorem at_ioo : ∀ w ∈ vx_atS R_G 70 E_ioo E_sup, w ∈ lw_tbl ∧ rEk w = true ∧ w.onTables = true := by decide +kernel
theorem at_iae : ∀ w ∈ vx_atS R_G 77 E_iae E_sup, w ∈ lw_tbl ∧ rEk w = true ∧ w.onTables = true := by decide +kernel
