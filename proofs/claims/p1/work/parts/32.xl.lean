theorem x_outer (c : ClassId) (N h0 : Nat) : ∀ i : Nat, Jvm.Free.Multi.outerC c N h0 i = arrV c N (fun j => va_rf (if j < i then some (h0 + 1 + j) else none))
  | 0 => by
    show ({ cls := c, slots := Array.replicate N .null, vm := .none } : Cell) = _
    rw [arrV_new]
    refine congrArg (arrV c N) (funext fun j => ?_)
    simp [va_rf]
  | i + 1 => by
    show (Jvm.Free.Multi.outerC c N h0 i).setSlot i (.ref (h0 + 1 + i)) = _
    rw [x_outer c N h0 i, arrV_store]
    refine congrArg (arrV c N) (funext fun j => ?_)
    by_cases e : j = i
    · subst e
      simp [updV, va_rf]
    · by_cases h : j < i
      · simp [updV, e, h, Nat.lt_succ_of_lt h]
      · simp [updV, e, h, show ¬ j < i + 1 by omega]
section XLAW
variable {p : Program} {l : Launch} {e : Env} {R : Room} {s : State} {m : MethodId} {args : Array Value} {below : List Frame} {meth : Method} {cd : Code} {cc : ByteArray} {nL : Nat} {own : String} {W0 : List Cond} {D : va_G} {cl : List vw_C} {tys : List (ClassId × FieldType)} {A : Nat → Prop} {cells slots : Nat} {Q : State → Prop} {ad : Nat → Nat} {c : rC} {pc : Nat} {lv : List (Nat × Value)} {st : List Value}
variable {t0 : Nat} {st0 As : List Value} {rm : Room} {y : MethodName} {bytes : ByteArray} {maxL n i : Nat} {ret : Option FieldType} {NW : List Cond} {hh : List (Nat × Nat × Nat × Nat)}
/-- a static method with handlers, as its callers see it -/
def rYH (W0 : List Cond) (y : MethodName) (bytes : ByteArray) (maxL : Nat) (ret : Option FieldType) (hh : List (Nat × Nat × Nat × Nat)) (n : Nat) : Prop :=
  Cond.codeWith y bytes maxL ret hh ∈ W0 ∧ Cond.static y ∈ W0 ∧ Cond.initialized y.cls ∈ W0 ∧ y.cls ≠ "java/lang/invoke/MethodHandle" ∧ y.cls ≠ "java/lang/invoke/VarHandle" ∧ (parseMethodDescriptor y.desc).map (fun d => d.parameters.length) = some n
theorem x_Sh (X : rX p s m args cd cc nL own W0 D cl tys A) (hG : GoodIn W0 W0) (hN : rN NW s) (hE : rE t0 A s s.heap) {post : Int32 → (Nat → Nat) → rC → Prop} (hM : xMh l D cl tys NW t0 y (Cond.codeWith y bytes maxL ret hh :: W0) rm As ad c post) (Y : rYH W0 y bytes maxL ret hh n) (hw : Cond.methodLink own i y ∈ W0) (hn : As.length = n) (hst : st0 = As.reverse ++ st) (hR : rm.frames + 1 ≤ R.frames ∧ 8 + (maxL + 11) + rm.locals ≤ R.locals) (hroom : (st.map fun v => v.category).sum ≤ 8) (hf : cells + rm.cells ≤ R.cells ∧ slots + rm.slots ≤ R.slots) (hd : decode cc pc = .ok (.invokestatic i, 3)) (kk : ∀ (r : Int32) (ad' : Nat → Nat) (c' : rC), post r ad' c' → rW p l e R s m args below meth cd nL D cl A (cells + rm.cells) (slots + rm.slots) Q ad' c' (pc + 3) lv (.int r :: st)) : rW p l e R s m args below meth cd nL D cl A cells slots Q ad c pc lv st0 := by
  intro H locs ls hP hS hl
  have hF := rA.in hP hS X.2.2.2.2.2.2
  subst hst
  obtain ⟨hx1, hb, hml, hown, hts, hK, hA⟩ := X
  obtain ⟨y1, y2, y4, y5⟩ := Y
  have hT : GoodIn W0 (va_wsS own i y (Cond.codeWith y bytes maxL ret hh :: W0)) := fun w h => by
    rcases List.mem_append.mp h with h | h
    · simp only [List.mem_cons, List.not_mem_nil, or_false] at h
      rcases h with rfl | rfl | rfl
      · exact hG _ hw
      · exact hG _ y2
      · exact hG _ y4
    · rcases List.mem_cons.mp h with rfl | h
      · exact hG _ y1
      · exact hG w h
  refine vx_calli (vx_runSX (As := As) (rest := st) ⟨hx1, hb, hml, hown, hts⟩ (hM H.size) (vx_cwSW n hts hT rfl rfl rfl y5 hR) ⟨rPx.blind, fun U hU hW => ⟨rfl, rPx.at hU hW hP hS hA hK hN hE⟩⟩ rfl hn hl.1 rfl (lv_room hroom) hd hf) hS (fun q _ h => hF q h) hF (fun q _ h => hF q h) (fun E' ce q9 u t H1 locs1 ht hvm hu => hu.elim) (fun r u t H1 locs1 ht hvm hw' hB hz hk hS1 => ?_)
  rw [ht] at hB
  exact kk r u.1 u.2 hw' H1 locs1 ls (hB.mono (fun n _ h => hF _ h)) hS1 hl
theorem x_newl (X : rX p s m args cd cc nL own W0 D cl tys A) {cA : ClassId} (t : Nat) (ht : tys[t]? = some (cA, .long)) (hw : Cond.arrayClass .long ∈ W0) {n : Int32} {N : Nat} (hn : ¬ n < 0) (hN : n.toNatClampNeg = N) (hbytes : N * componentBytes .long ≤ 536870912) (hcells : cells + 1 ≤ R.cells) (hslots : slots + N ≤ R.slots) (hd : decode cc pc = .ok (.newarray .long, 2)) (k : Nat) (hk : c k = none) (lvf : (Nat → Nat) → List (Nat × Value)) (stf : (Nat → Nat) → List Value) (hlv : ∀ ad1 : Nat → Nat, (∀ j, j ≠ k → ad1 j = ad j) → lvf ad1 = lv) (hst : ∀ ad1 : Nat → Nat, (∀ j, j ≠ k → ad1 j = ad j) → stf ad1 = st)
    (kk : ∀ ad1 : Nat → Nat, (∀ j, j ≠ k → ad1 j = ad j) → rW p l e R s m args below meth cd nL D cl A (cells + 1) (slots + N) Q ad1 (va_up c k (some (.inl (cA, N, .inr (.inl (fun _ => 0)))))) (pc + 2) (lvf ad1) (.ref (ad1 k) :: stf ad1)) : rW p l e R s m args below meth cd nL D cl A cells slots Q ad c pc lv (.int n :: st) := by
  intro H locs ls hP hS hl
  refine va_newaK (atype := .long) X.1 X.2.1 (X.2.2.2.2.1 _ hw) rfl hd rfl hn hN hbytes hcells hslots rfl fun H1 cA' e1 z1 o1 _ f1 => ?_
  have hc : cA' = cA := Option.some.inj (f1.symm.trans (X.2.2.2.2.2.1.2 t _ ht).2)
  subst hc
  have ha : ∀ j, j ≠ k → va_up ad k H.size j = ad j := fun j hj => va_up_ne _ _ hj
  have e2 : H1[H.size]? = some (vp_cell cA' (N, .inr (.inl (fun _ => 0)))) := by
    rw [vp_cell_l, e1]
    rfl
  have hw := kk (va_up ad k H.size) ha H1 locs ls (hP.new hk e2 (X.2.2.2.2.2.2 _ hS.1) o1) (al_S hS z1 o1) (by rw [hlv _ ha]; exact hl)
  rw [va_up_self, hst _ ha] at hw
  exact hw
theorem x_newqO (X : rX p s m args cd cc nL own W0 D cl tys A) {index : Nat} {C : String} {cA : ClassId} (t : Nat) (ht : tys[t]? = some (cA, .object C)) (hcl : Cond.classLink own index C ∈ W0) (hov : va_AO C s) {n : Int32} {N : Nat} (hn : ¬ n < 0) (hN : n.toNatClampNeg = N) (hbytes : N * 4 ≤ 536870912) (hcells : cells + 1 ≤ R.cells) (hslots : slots + N ≤ R.slots) (hd : decode cc pc = .ok (.anewarray index, 3)) (k : Nat) (hk : c k = none) (lvf : (Nat → Nat) → List (Nat × Value)) (stf : (Nat → Nat) → List Value) (hlv : ∀ ad1 : Nat → Nat, (∀ j, j ≠ k → ad1 j = ad j) → lvf ad1 = lv) (hst : ∀ ad1 : Nat → Nat, (∀ j, j ≠ k → ad1 j = ad j) → stf ad1 = st)
    (kk : ∀ ad1 : Nat → Nat, (∀ j, j ≠ k → ad1 j = ad j) → rW p l e R s m args below meth cd nL D cl A (cells + 1) (slots + N) Q ad1 (va_up c k (some (.inl (cA, N, .inr (.inr (.inr (.inr (fun _ => none)))))))) (pc + 3) (lvf ad1) (.ref (ad1 k) :: stf ad1)) : rW p l e R s m args below meth cd nL D cl A cells slots Q ad c pc lv (.int n :: st) := by
  intro H locs ls hP hS hl
  subst hN
  refine W.anew X.1 X.2.1 X.2.2.2.1 (X.2.2.2.2.1 _ hcl) (va_AO.use hov) rfl hd rfl hn hbytes hcells hslots fun cA' kA comp f1 f2 f3 f4 => ?_
  obtain ⟨_, _, _, _, _, g4⟩ := (X.2.2.2.2.2.1.2 t _ ht).2
  have hc : cA' = cA := Option.some.inj (f1.symm.trans g4)
  subst hc
  have ha : ∀ j, j ≠ k → va_up ad k H.size j = ad j := fun j hj => va_up_ne _ _ hj
  generalize hH1 : H.push ({ cls := cA', slots := Array.replicate n.toNatClampNeg .null, vm := .none } : Cell) = H1
  have z1 : H1.size = H.size + 1 := by rw [← hH1, Array.size_push]
  have e1 : H1[H.size]? = some (vp_cell cA' (n.toNatClampNeg, .inr (.inr (.inr (.inr (fun _ => none)))))) := by
    rw [vp_cell_q, ← hH1, Array.getElem?_push_size, arrV_new]
    rfl
  have o1 : ∀ q : Nat, q < H.size → H1[q]? = H[q]? := fun q hq => by rw [← hH1, Array.getElem?_push, if_neg (Nat.ne_of_lt hq)]
  have hw := kk (va_up ad k H.size) ha H1 locs ls (hP.new hk e1 (X.2.2.2.2.2.2 _ hS.1) o1) (al_S hS z1 o1) (by rw [hlv _ ha]; exact hl)
  rw [va_up_self, hst _ ha] at hw
  exact hw
/-- new int[n][k]: the outer array and its first row are named, the other rows are nobody's -/
theorem x_mna (X : rX p s m args cd cc nL own W0 D cl tys A) {cA : ClassId} {cI : ClassId} (tA tI : Nat) (htA : tys[tA]? = some (cA, .array .int)) (htI : tys[tI]? = some (cI, .int)) {index : Nat} (hcl : Cond.classLink own index "[[I" ∈ W0) (hov : (Cond.arrayOver (.array .int)).before args s = true) (harr : Cond.arrayClass .int ∈ W0) {n k : Int32} {N K : Nat} (hn : ¬ n < 0) (hk : ¬ k < 0) (hN : n.toNatClampNeg = N) (hK : k.toNatClampNeg = K) (h0 : 0 < N) (hb1 : N * 4 ≤ 536870912) (hb2 : K * 4 ≤ 536870912) (hcells : cells + (1 + N) ≤ R.cells) (hslots : slots + (N + N * K) ≤ R.slots) (hd : decode cc pc = .ok (.multianewarray index 2, 4)) (k0 k1 : Nat) (hk01 : k0 ≠ k1) (hc0 : c k0 = none) (hc1 : c k1 = none) (lvf : (Nat → Nat) → List (Nat × Value)) (stf : (Nat → Nat) → List Value) (hlv : ∀ ad1 : Nat → Nat, (∀ j, j ≠ k0 → j ≠ k1 → ad1 j = ad j) → lvf ad1 = lv) (hst : ∀ ad1 : Nat → Nat, (∀ j, j ≠ k0 → j ≠ k1 → ad1 j = ad j) → stf ad1 = st)
    (kk : ∀ (ad1 : Nat → Nat) (f : Nat → Option Nat), (∀ j, j ≠ k0 → j ≠ k1 → ad1 j = ad j) → f 0 = some (ad1 k1) → rW p l e R s m args below meth cd nL D cl A (cells + (1 + N)) (slots + (N + N * K)) Q ad1 (va_up (va_up c k0 (some (.inl (cA, N, .inr (.inr (.inr (.inr f))))))) k1 (some (.inl (cI, K, .inl (fun _ => 0))))) (pc + 4) (lvf ad1) (.ref (ad1 k0) :: stf ad1)) : rW p l e R s m args below meth cd nL D cl A cells slots Q ad c pc lv (.int k :: .int n :: st) := by
  intro H locs ls hP hS hl
  subst hN; subst hK
  intro T hT Xs
  obtain ⟨vm₁, cA', comp, -, fA, fC, hO, -, X', step⟩ := Xs.multianewarray2F X.1 X.2.2.2.1 (ty := .int) (X.2.2.2.2.1 _ hcl) hov (X.2.2.2.2.1 _ harr) (g := F0 m pc ls (.int k :: .int n :: st)) rfl (by rw [X.2.1]; exact hd) rfl hn hk hb1 hb2 (by have : k.toNatClampNeg * 4 ≤ 536870912 := hb2; omega) rfl rfl hcells hslots
  have eA : cA' = cA := Option.some.inj (fA.symm.trans (X.2.2.2.2.2.1.2 tA _ htA).2)
  have eC : comp = cI := Option.some.inj (fC.symm.trans (X.2.2.2.2.2.1.2 tI _ htI).2)
  subst eA; subst eC
  generalize hFe : Jvm.Free.Multi.fill (T.setVm vm₁) cA' comp n.toNatClampNeg k.toNatClampNeg (defaultValue .int) n.toNatClampNeg = F at X' step
  have hTh : (T.setVm vm₁).heap = H := hT
  obtain ⟨f1, f2, -, -⟩ := Jvm.Free.Multi.fill_facts (T.setVm vm₁) cA' comp n.toNatClampNeg k.toNatClampNeg (defaultValue .int) n.toNatClampNeg
  rw [hFe, hTh] at f1 f2
  have hold : ∀ x : Nat, x < H.size → F.heap[x]? = H[x]? := fun x hx => by
    have := Jvm.Free.Multi.fill_old (T.setVm vm₁) cA' comp n.toNatClampNeg k.toNatClampNeg (defaultValue .int) (a := x) (by rw [hTh]; exact hx) n.toNatClampNeg
    rw [hFe, hTh] at this
    exact this
  have hrow : F.heap[H.size + 1 + 0]? = some (vp_cell comp (k.toNatClampNeg, .inl (fun _ => 0))) := by
    have := Jvm.Free.Multi.fill_inner (T.setVm vm₁) cA' comp n.toNatClampNeg k.toNatClampNeg (defaultValue .int) n.toNatClampNeg 0 h0
    rw [hFe, hTh] at this
    rw [this, vp_cell_i, ← arrV_new]
    rfl
  have hout : Jvm.Free.Multi.outerC cA' n.toNatClampNeg H.size n.toNatClampNeg = vp_cell cA' (n.toNatClampNeg, .inr (.inr (.inr (.inr (fun i => if i < n.toNatClampNeg then some (H.size + 1 + i) else none))))) := by
    rw [vp_cell_q]
    exact x_outer cA' n.toNatClampNeg H.size n.toNatClampNeg
  rw [hout] at f2
  have hA0 := X.2.2.2.2.2.2 _ hS.1
  have hA1 := X.2.2.2.2.2.2 (H.size + 1) (Nat.le_trans hS.1 (by omega))
  have hP0 : rp D cl A (va_up ad k0 H.size) (va_up c k0 (some (.inl (cA', n.toNatClampNeg, .inr (.inr (.inr (.inr (fun i => if i < n.toNatClampNeg then some (H.size + 1 + i) else none)))))))) F.heap := hP.new hc0 f2 hA0 hold
  have hP1 : rp D cl A (va_up (va_up ad k0 H.size) k1 (H.size + 1)) (va_up (va_up c k0 (some (.inl (cA', n.toNatClampNeg, .inr (.inr (.inr (.inr (fun i => if i < n.toNatClampNeg then some (H.size + 1 + i) else none)))))))) k1 (some (.inl (comp, k.toNatClampNeg, .inl (fun _ => 0))))) F.heap := by
    have hne : va_up c k0 (some (.inl (cA', n.toNatClampNeg, .inr (.inr (.inr (.inr (fun i => if i < n.toNatClampNeg then some (H.size + 1 + i) else none))))))) k1 = none := by rw [va_up_ne _ _ (Ne.symm hk01)]; exact hc1
    have hb : ∀ j, va_up c k0 (some (.inl (cA', n.toNatClampNeg, .inr (.inr (.inr (.inr (fun i => if i < n.toNatClampNeg then some (H.size + 1 + i) else none))))))) j ≠ none → va_up ad k0 H.size j ≤ H.size := by
      intro j hj
      by_cases hj0 : j = k0
      · subst hj0; rw [va_up_self]; exact Nat.le_refl _
      · rw [va_up_ne _ _ hj0] at hj ⊢
        exact Nat.le_of_lt (hP.lt hj)
    refine ⟨fun j x hj => ?_, fun i j hi hj hij => ?_⟩
    · by_cases hj1 : j = k1
      · subst hj1
        rw [va_up_self] at hj ⊢
        cases hj
        exact ⟨hrow, hA1⟩
      · rw [va_up_ne _ _ hj1] at hj ⊢
        exact hP0.1 j x hj
    · by_cases hi1 : i = k1 <;> by_cases hj1 : j = k1
      · rw [hi1, hj1]
      · rw [hi1, va_up_self, va_up_ne _ _ hj1] at hij
        rw [va_up_ne _ _ hj1] at hj
        have := hb j hj
        omega
      · rw [hj1, va_up_self, va_up_ne _ _ hi1] at hij
        rw [va_up_ne _ _ hi1] at hi
        have := hb i hi
        omega
      · rw [va_up_ne _ _ hi1, va_up_ne _ _ hj1] at hij
        rw [va_up_ne _ _ hi1] at hi
        rw [va_up_ne _ _ hj1] at hj
        exact hP0.2 i j hi hj hij
  have ha : ∀ j, j ≠ k0 → j ≠ k1 → va_up (va_up ad k0 H.size) k1 (H.size + 1) j = ad j := fun j h1 h2 => by rw [va_up_ne _ _ h2, va_up_ne _ _ h1]
  have hw := kk (va_up (va_up ad k0 H.size) k1 (H.size + 1)) (fun i => if i < n.toNatClampNeg then some (H.size + 1 + i) else none) ha (by rw [va_up_self]; exact if_pos h0) F.heap locs ls hP1 ⟨Nat.le_trans hS.1 (by rw [f1]; omega), fun q h1 h2 => by rw [hold q (Nat.lt_of_lt_of_le h1 hS.1)]; exact hS.2.1 q h1 h2, hS.2.2⟩ (by rw [hlv _ ha]; exact hl)
  rw [hst _ ha, va_up_ne _ _ hk01, va_up_self] at hw
  obtain ⟨t, a1, b1⟩ := hw F rfl (by rw [← Nat.add_assoc cells, ← Nat.add_assoc slots]; exact X')
  have e : T.heap.size = H.size := by rw [hT]
  refine ⟨t, step t ?_, b1⟩
  rw [e]
  exact a1
/-- System.arraycopy between two int arrays -/
theorem x_copyi (X : rX p s m args cd cc nL own W0 D cl tys A) {i : Nat} (hlink : Cond.methodLink own i arraycopyName ∈ W0) (hnat : Cond.native arraycopyName ∈ W0) (hstat : Cond.static arraycopyName ∈ W0) (hini : Cond.initialized "java/lang/System" ∈ W0) (t0 t1 : Nat) {a0 a1 : Nat} (ha01 : a0 ≠ a1) {c0 c1 : ClassId} {n0 n1 : Nat} {f g : Nat → Int32} (ha0 : c a0 = some (.inl (c0, n0, .inl f))) (ha1 : c a1 = some (.inl (c1, n1, .inl g))) (ht0 : tys[t0]? = some (c0, .int)) (ht1 : tys[t1]? = some (c1, .int)) {sp dp n : Int32} (h1 : ¬ sp < 0) (h2 : ¬ dp < 0) (h3 : ¬ n < 0) (h4 : sp.toNatClampNeg + n.toNatClampNeg ≤ n0) (h5 : dp.toNatClampNeg + n.toNatClampNeg ≤ n1) (hR : 1 ≤ R.frames) (hlo : (st.map fun v => v.category).sum + (nativeFrameWords "java/lang/System" "arraycopy" 5 + 11) ≤ R.locals) (hd : decode cc pc = .ok (.invokestatic i, 3))
    (kk : ∀ g' : Nat → Int32, rW p l e R s m args below meth cd nL D cl A cells slots Q ad (va_up c a1 (some (.inl (c1, n1, .inl g')))) (pc + 3) lv st) : rW p l e R s m args below meth cd nL D cl A cells slots Q ad c pc lv (.int n :: .int dp :: .ref (ad a1) :: .int sp :: .ref (ad a0) :: st) := by
  intro H locs ls hP hS hl
  have hts := X.2.2.2.2.1
  have hK := X.2.2.2.2.2.1
  have nn : ∀ z : Int32, ¬ z < 0 → z.toInt = (z.toNatClampNeg : Int) := by
    intro z hz
    have hz0 : (0 : Int) ≤ z.toInt := by
      have := Int32.not_lt.mp hz
      simpa using Int32.le_iff_toInt_le.mp this
    show z.toInt = ((z.toInt.toNat : Nat) : Int)
    omega
  intro T hT Xs
  have hc0 : H[ad a0]? = some (vp_cell c0 (n0, .inl f)) := (hP.1 a0 _ ha0).1
  have hc1 : H[ad a1]? = some (vp_cell c1 (n1, .inl g)) := (hP.1 a1 _ ha1).1
  obtain ⟨-, k0, hk0, cm0, hkk0⟩ := (hK.2 t0 _ ht0).1 n0 (fun j => .int (f j))
  obtain ⟨-, k1, hk1, cm1, hkk1⟩ := (hK.2 t1 _ ht1).1 n1 (fun j => .int (g j))
  obtain ⟨vm', X', step⟩ := Xs.arraycopy X.1 X.2.2.2.1 (hts _ hlink) (hts _ hnat) (hts _ hstat) (hts _ hini) (src := ad a0) (dst := ad a1) (cs := vp_cell c0 (n0, .inl f)) (cd := vp_cell c1 (n1, .inl g)) (srcPos := sp) (destPos := dp) (n := n) (by rw [hT]; exact hc0) (by rw [hT]; exact hc1)
    (fun _ h => by cases h) (fun _ h => by cases h) (fun h => by cases h) (fun h => by cases h) hk0 hk1 hkk0 hkk1 (by simp [refKind]) h1 h2 h3
    (by rw [nn sp h1, nn n h3]; show ¬ _ > ((arrV c0 n0 (fun j => .int (f j))).slots.size : Int); rw [arrV_size]; omega)
    (by rw [nn dp h2, nn n h3]; show ¬ _ > ((arrV c1 n1 (fun j => .int (g j))).slots.size : Int); rw [arrV_size]; omega)
    (fun vm₁ _ i hi => by
      have e : (vp_cell c0 (n0, .inl f)).slots.getD (sp.toNatClampNeg + i) .null = .int (f (sp.toNatClampNeg + i)) := by
        show (arrV c0 n0 (fun j => .int (f j))).slots.getD _ _ = _
        rw [Array.getD_eq_getD_getElem?, arrV_read _ _ (by omega)]
        rfl
      refine ⟨?_, ?_⟩
      · rw [e]
        rfl
      · rw [e]
        exact trivial)
    (g := F0 m pc ls (.int n :: .int dp :: .ref (ad a1) :: .int sp :: .ref (ad a0) :: st)) rfl (hl.1.trans X.2.2.1.symm) (rest := st) rfl (by rw [X.2.1]; exact hd) hR (by show 2 * 0 + _ + _ ≤ _; omega)
  have e1 : copied (vp_cell c0 (n0, .inl f)) (vp_cell c1 (n1, .inl g)) sp dp n = vp_cell c1 (n1, .inl (va_cpy f g sp.toNatClampNeg dp.toNatClampNeg n.toNatClampNeg)) := va_copied (fun z => .int z) c0 c1 f g h4
  rw [e1] at X' step
  have hl9 : ad a1 < H.size := (Array.getElem?_eq_some_iff.mp hc1).1
  have hheap : ((T.setVm vm').setCell (ad a1) (vp_cell c1 (n1, .inl (va_cpy f g sp.toNatClampNeg dp.toNatClampNeg n.toNatClampNeg)))).heap = H.setIfInBounds (ad a1) (vp_cell c1 (n1, .inl (va_cpy f g sp.toNatClampNeg dp.toNatClampNeg n.toNatClampNeg))) := by rw [← hT]; rfl
  have oq : ∀ q : Nat, q ≠ ad a1 → (H.setIfInBounds (ad a1) (vp_cell c1 (n1, .inl (va_cpy f g sp.toNatClampNeg dp.toNatClampNeg n.toNatClampNeg))))[q]? = H[q]? := fun q hq => by simp [Array.getElem?_setIfInBounds, Ne.symm hq]
  have hAa : A (ad a1) := (hP.1 a1 _ ha1).2
  obtain ⟨t, b1, b2⟩ := kk (va_cpy f g sp.toNatClampNeg dp.toNatClampNeg n.toNatClampNeg) (H.setIfInBounds (ad a1) (vp_cell c1 (n1, .inl (va_cpy f g sp.toNatClampNeg dp.toNatClampNeg n.toNatClampNeg)))) _ ls (hP.put ha1 (show (H.setIfInBounds (ad a1) _)[ad a1]? = some _ by simp [Array.getElem?_setIfInBounds, hl9]) oq) ⟨by simp; exact hS.1, fun q g1 g2 => by
      rw [oq q (fun e => g2 (by rw [e]; exact hAa))]
      exact hS.2.1 q g1 g2, fun q hq => by
      rcases List.mem_append.mp hq with h | h
      · exact hS.2.2 q h
      · obtain ⟨z, -, hz⟩ := List.mem_map.mp h
        rw [← hz]
        exact hAa⟩ hl _ hheap X'
  exact ⟨t, step t b1, b2⟩
theorem x_sld (X : rX p s m args cd cc nL own W0 D cl tys A) {b L : Nat} {xs : Nat → Int32} (hX : va_X b L xs s s.heap) (hbl : b < s.heap.size) (hbA : ¬ A b) {i v : Int32} (hin : vp_in i L) (hv : xs i.toNatClampNeg = v) (hd : decode cc pc = .ok (.iaload, 1)) (kk : rW p l e R s m args below meth cd nL D cl A cells slots Q ad c (pc + 1) lv (.int v :: st)) : rW p l e R s m args below meth cd nL D cl A cells slots Q ad c pc lv (.int i :: .ref b :: st) := fun H locs ls hP hS hl =>
  va_sld X.1 X.2.1 hX hbl hbA hS hin hd (by rw [hv]; exact kk H locs ls hP hS hl)
theorem x_slen (X : rX p s m args cd cc nL own W0 D cl tys A) {b L : Nat} {xs : Nat → Int32} (hX : va_X b L xs s s.heap) (hbl : b < s.heap.size) (hbA : ¬ A b) (hd : decode cc pc = .ok (.arraylength, 1)) (kk : rW p l e R s m args below meth cd nL D cl A cells slots Q ad c (pc + 1) lv (.int (Int32.ofNat L) :: st)) : rW p l e R s m args below meth cd nL D cl A cells slots Q ad c pc lv (.ref b :: st) := fun H locs ls hP hS hl =>
  va_slen X.1 X.2.1 hX hbl hbA hS hd (kk H locs ls hP hS hl)
end XLAW
