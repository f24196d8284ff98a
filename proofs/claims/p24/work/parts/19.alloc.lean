/-! allocation: a new name k, its place in a new ad; lvf and stf tell locals and stack over any ad -/
section RALLOC
variable {p : Program} {l : Launch} {e : Env} {R : Room} {s : State} {m : MethodId} {args : Array Value} {below : List Frame} {meth : Method} {cd : Code} {cc : ByteArray} {nL : Nat} {own : String} {Ts : List Cond} {D : va_G} {cl : List vw_C} {tys : List (ClassId × FieldType)} {A : Nat → Prop} {cells slots : Nat} {Q : State → Prop} {ad : Nat → Nat} {c : rC} {pc : Nat} {lv : List (Nat × Value)} {st : List Value}
theorem al_S {A : Nat → Prop} {H0 H H1 : Heap} {locs : List Loc} (hS : va_S A H0 H locs) (z1 : H1.size = H.size + 1) (o1 : ∀ q : Nat, q < H.size → H1[q]? = H[q]?) : va_S A H0 H1 locs :=
  ⟨Nat.le_trans hS.1 (by omega), fun x h1 h2 => (o1 x (Nat.lt_of_lt_of_le h1 hS.1)).trans (hS.2.1 x h1 h2), hS.2.2⟩
theorem r_new (X : rX p s m args cd cc nL own Ts D cl tys A) {ci : Nat} {C : String} {T : u_T} {N : Nat} {ty : Nat → FieldType} (K : rF Ts cl ci C T N ty) {index : Nat} (hcl : Cond.classLink own index C ∈ Ts) (hinst : Cond.instantiable C N ∈ Ts) (hini : Cond.initialized C ∈ Ts) {fs : List Value} (hfs : ∀ j, j < N → defaultValue (ty j) = vp_V fs j) (hcells : cells + 1 ≤ R.cells) (hslots : slots + N ≤ R.slots) (hd : decode cc pc = .ok (.new index, 3)) (k : Nat) (hk : c k = none) (lvf : (Nat → Nat) → List (Nat × Value)) (stf : (Nat → Nat) → List Value) (hlv : ∀ ad1 : Nat → Nat, (∀ j, j ≠ k → ad1 j = ad j) → lvf ad1 = lv) (hst : ∀ ad1 : Nat → Nat, (∀ j, j ≠ k → ad1 j = ad j) → stf ad1 = st)
    (kk : ∀ ad1 : Nat → Nat, (∀ j, j ≠ k → ad1 j = ad j) → rW p l e R s m args below meth cd nL D cl A (cells + 1) (slots + N) Q ad1 (va_up c k (some (.inr (ci, fs)))) (pc + 3) (lvf ad1) (.ref (ad1 k) :: stf ad1)) : rW p l e R s m args below meth cd nL D cl A cells slots Q ad c pc lv st := by
  intro H locs ls hP hS hl
  have hKn := X.2.2.2.2.2.1.1 ci _ K.2.1
  refine W.newcK X.1 X.2.1 X.2.2.2.1 (X.2.2.2.2.1 _ hcl) (X.2.2.2.2.1 _ hinst) (X.2.2.2.2.1 _ hini) rfl hd hcells hslots hKn.2.1 rfl fun H1 kC hkC e1 z1 o1 => ?_
  have ha : ∀ j, j ≠ k → va_up ad k H.size j = ad j := fun j hj => va_up_ne _ _ hj
  have hw := kk (va_up ad k H.size) ha H1 locs ls (hP.new hk ⟨_, K.2.1, (u_born ty X.2.2.2.2.1 K.1 hKn hkC e1 K.2.2.1).to hfs⟩ (X.2.2.2.2.2.2 _ hS.1) o1) (al_S hS z1 o1) (by rw [hlv _ ha]; exact hl)
  rw [va_up_self, hst _ ha] at hw
  exact hw
theorem r_newa (X : rX p s m args cd cc nL own Ts D cl tys A) {atype : ArrayType} {ty : FieldType} {cA : ClassId} (t : Nat) (ht : tys[t]? = some (cA, ty)) (hty : newarray.typeOf atype = ty) (hdv : defaultValue ty = .int 0) (hRA : va_RA s cA ty → s.vm.findClass ("[" ++ ty.toString) = some cA) (hw : Cond.arrayClass ty ∈ Ts) {n : Int32} {N : Nat} (hn : ¬ n < 0) (hN : n.toNatClampNeg = N) (hbytes : N * componentBytes ty ≤ 536870912) (hcells : cells + 1 ≤ R.cells) (hslots : slots + N ≤ R.slots) (hd : decode cc pc = .ok (.newarray atype, 2)) (k : Nat) (hk : c k = none) (lvf : (Nat → Nat) → List (Nat × Value)) (stf : (Nat → Nat) → List Value) (hlv : ∀ ad1 : Nat → Nat, (∀ j, j ≠ k → ad1 j = ad j) → lvf ad1 = lv) (hst : ∀ ad1 : Nat → Nat, (∀ j, j ≠ k → ad1 j = ad j) → stf ad1 = st)
    (kk : ∀ ad1 : Nat → Nat, (∀ j, j ≠ k → ad1 j = ad j) → rW p l e R s m args below meth cd nL D cl A (cells + 1) (slots + N) Q ad1 (va_up c k (some (.inl (cA, N, .inl (fun _ => 0))))) (pc + 2) (lvf ad1) (.ref (ad1 k) :: stf ad1)) : rW p l e R s m args below meth cd nL D cl A cells slots Q ad c pc lv (.int n :: st) := by
  intro H locs ls hP hS hl
  subst hty
  refine va_newaK X.1 X.2.1 (X.2.2.2.2.1 _ hw) rfl hd rfl hn hN hbytes hcells hslots rfl fun H1 cA' e1 z1 o1 _ f1 => ?_
  have hc : cA' = cA := Option.some.inj (f1.symm.trans (hRA (X.2.2.2.2.2.1.2 t _ ht).2))
  subst hc
  have ha : ∀ j, j ≠ k → va_up ad k H.size j = ad j := fun j hj => va_up_ne _ _ hj
  have e2 : H1[H.size]? = some (vp_cell cA' (N, .inl (fun _ => 0))) := by
    rw [vp_cell_i, e1, hdv]
  have hw := kk (va_up ad k H.size) ha H1 locs ls (hP.new hk e2 (X.2.2.2.2.2.2 _ hS.1) o1) (al_S hS z1 o1) (by rw [hlv _ ha]; exact hl)
  rw [va_up_self, hst _ ha] at hw
  exact hw
theorem r_newq (X : rX p s m args cd cc nL own Ts D cl tys A) {index : Nat} {C : String} {cA : ClassId} (t : Nat) (ht : tys[t]? = some (cA, .object C)) (hcl : Cond.classLink own index C ∈ Ts) {NW : List Cond} (hN : rN NW s) (hov : Cond.arrayOver (.object C) ∈ NW) {n : Int32} {N : Nat} (hn : ¬ n < 0) (hN : n.toNatClampNeg = N) (hbytes : N * 4 ≤ 536870912) (hcells : cells + 1 ≤ R.cells) (hslots : slots + N ≤ R.slots) (hd : decode cc pc = .ok (.anewarray index, 3)) (k : Nat) (hk : c k = none) (lvf : (Nat → Nat) → List (Nat × Value)) (stf : (Nat → Nat) → List Value) (hlv : ∀ ad1 : Nat → Nat, (∀ j, j ≠ k → ad1 j = ad j) → lvf ad1 = lv) (hst : ∀ ad1 : Nat → Nat, (∀ j, j ≠ k → ad1 j = ad j) → stf ad1 = st)
    (kk : ∀ ad1 : Nat → Nat, (∀ j, j ≠ k → ad1 j = ad j) → rW p l e R s m args below meth cd nL D cl A (cells + 1) (slots + N) Q ad1 (va_up c k (some (.inl (cA, N, .inr (.inr (.inr (.inr (fun _ => none)))))))) (pc + 3) (lvf ad1) (.ref (ad1 k) :: stf ad1)) : rW p l e R s m args below meth cd nL D cl A cells slots Q ad c pc lv (.int n :: st) := by
  intro H locs ls hP hS hl
  subst hN
  refine W.anew X.1 X.2.1 X.2.2.2.1 (X.2.2.2.2.1 _ hcl) (va_AO.use (hN.2 _ hov)) rfl hd rfl hn hbytes hcells hslots fun cA' kA comp f1 f2 f3 f4 => ?_
  obtain ⟨_, _, _, _, _, g4⟩ := (X.2.2.2.2.2.1.2 t _ ht).2
  have hc : cA' = cA := Option.some.inj (f1.symm.trans g4)
  subst hc
  have ha : ∀ j, j ≠ k → va_up ad k H.size j = ad j := fun j hj => va_up_ne _ _ hj
  generalize hH1 : H.push ({ cls := cA', slots := Array.replicate n.toNatClampNeg .null, vm := .none } : Cell) = H1
  have z1 : H1.size = H.size + 1 := by rw [← hH1, Array.size_push]
  have e1 : H1[H.size]? = some (vp_cell cA' (n.toNatClampNeg, .inr (.inr (.inr (.inr (fun _ => none)))))) := by
    rw [vp_cell_q, ← hH1, Array.getElem?_push_size, arrV_new]
    rfl
  have o1 : ∀ q : Nat, q < H.size → H1[q]? = H[q]? := fun q hq => by rw [← hH1, Array.getElem?_push, if_neg (Nat.ne_of_lt hq)]
  have hw := kk (va_up ad k H.size) ha H1 locs ls (hP.new hk e1 (X.2.2.2.2.2.2 _ hS.1) o1) (al_S hS z1 o1) (by rw [hlv _ ha]; exact hl)
  rw [va_up_self, hst _ ha] at hw
  exact hw
end RALLOC
