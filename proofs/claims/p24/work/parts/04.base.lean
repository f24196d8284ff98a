/-! A LAYER OVER THE KIT: a heap told by names. c : Nat -> Option va_E says what the cell of a name holds, ad says where it lies; rp: the heap holds it. rW: from every heap that holds c the machine, at this pc with these locals and this stack, comes to Q. -/
abbrev rC : Type := Nat → Option va_E
def rp (D : va_G) (cl : List vw_C) (A : Nat → Prop) (ad : Nat → Nat) (c : rC) (H : Heap) : Prop := (∀ n e, c n = some e → va_at D cl (ad n, e) H ∧ A (ad n)) ∧ ∀ n k, c n ≠ none → c k ≠ none → ad n = ad k → n = k
def rA (ad : Nat → Nat) (c : rC) (sz : Nat) : Nat → Prop := fun q => (∃ n, c n ≠ none ∧ ad n = q) ∨ sz ≤ q
theorem rp.lt {D : va_G} {cl : List vw_C} {A : Nat → Prop} {ad : Nat → Nat} {c : rC} {H : Heap} (h : rp D cl A ad c H) {n : Nat} (hn : c n ≠ none) : ad n < H.size := by
  cases e : c n with
  | none => exact absurd e hn
  | some x => exact (h.1 n x e).1.lt
theorem rp.put {D : va_G} {cl : List vw_C} {A : Nat → Prop} {ad : Nat → Nat} {c : rC} {H H1 : Heap} {n : Nat} {e0 e : va_E} (h : rp D cl A ad c H) (hn : c n = some e0) (he : va_at D cl (ad n, e) H1) (oq : ∀ q : Nat, q ≠ ad n → H1[q]? = H[q]?) : rp D cl A ad (va_up c n (some e)) H1 := by
  have hd : ∀ k, va_up c n (some e) k ≠ none → c k ≠ none := by
    intro k hk
    by_cases hkn : k = n
    · subst hkn; rw [hn]; exact fun z => by cases z
    · rwa [va_up_ne _ _ hkn] at hk
  refine ⟨fun k x hk => ?_, fun i j hi hj => h.2 i j (hd i hi) (hd j hj)⟩
  by_cases hkn : k = n
  · subst hkn
    rw [va_up_self] at hk
    cases hk
    exact ⟨he, (h.1 k e0 hn).2⟩
  · rw [va_up_ne _ _ hkn] at hk
    obtain ⟨h1, h2⟩ := h.1 k x hk
    refine ⟨h1.kept (oq _ fun z => hkn (h.2 k n ?_ ?_ z)), h2⟩
    · rw [hk]; exact fun z => by cases z
    · rw [hn]; exact fun z => by cases z
theorem rp.new {D : va_G} {cl : List vw_C} {A : Nat → Prop} {ad : Nat → Nat} {c : rC} {H H1 : Heap} {n : Nat} {e : va_E} (h : rp D cl A ad c H) (hn : c n = none) (he : va_at D cl (H.size, e) H1) (hA : A H.size) (oq : ∀ q : Nat, q < H.size → H1[q]? = H[q]?) : rp D cl A (va_up ad n H.size) (va_up c n (some e)) H1 := by
  have hd : ∀ k, k ≠ n → va_up c n (some e) k ≠ none → c k ≠ none := by
    intro k hkn hk
    rwa [va_up_ne _ _ hkn] at hk
  refine ⟨fun k x hk => ?_, fun i j hi hj hij => ?_⟩
  · by_cases hkn : k = n
    · subst hkn
      rw [va_up_self] at hk ⊢
      cases hk
      exact ⟨he, hA⟩
    · rw [va_up_ne _ _ hkn] at hk ⊢
      obtain ⟨h1, h2⟩ := h.1 k x hk
      exact ⟨h1.kept (oq _ h1.lt), h2⟩
  · by_cases h1 : i = n
    · by_cases h2 : j = n
      · rw [h1, h2]
      · have := h.lt (hd j h2 hj)
        rw [h1, va_up_self, va_up_ne _ _ h2] at hij
        omega
    · by_cases h2 : j = n
      · have := h.lt (hd i h1 hi)
        rw [h2, va_up_self, va_up_ne _ _ h1] at hij
        omega
      · rw [va_up_ne _ _ h1, va_up_ne _ _ h2] at hij
        exact h.2 i j (hd i h1 hi) (hd j h2 hj) hij
/-- fewer names, other places for names that are dead -/
theorem rp.sub {D : va_G} {cl : List vw_C} {A : Nat → Prop} {ad ad' : Nat → Nat} {c c' : rC} {H : Heap} (h : rp D cl A ad c H) (hc : ∀ n e, c' n = some e → c n = some e ∧ ad' n = ad n) : rp D cl A ad' c' H := by
  have hd : ∀ k, c' k ≠ none → c k ≠ none ∧ ad' k = ad k := by
    intro k hk
    cases e : c' k with
    | none => exact absurd e hk
    | some x => exact ⟨by rw [(hc k x e).1]; exact (fun z => by cases z), (hc k x e).2⟩
  refine ⟨fun n e hn => ?_, fun i j hi hj hij => ?_⟩
  · obtain ⟨h1, h2⟩ := hc n e hn
    rw [h2]
    exact h.1 n e h1
  · rw [(hd i hi).2, (hd j hj).2] at hij
    exact h.2 i j (hd i hi).1 (hd j hj).1 hij
theorem rp.mono {D : va_G} {cl : List vw_C} {A B : Nat → Prop} {ad : Nat → Nat} {c : rC} {H : Heap} (h : rp D cl A ad c H) (hAB : ∀ n, c n ≠ none → A (ad n) → B (ad n)) : rp D cl B ad c H :=
  ⟨fun n e hn => ⟨(h.1 n e hn).1, hAB n (by rw [hn]; exact fun z => by cases z) (h.1 n e hn).2⟩, h.2⟩
theorem rp.self {D : va_G} {cl : List vw_C} {A : Nat → Prop} {ad : Nat → Nat} {c : rC} {H : Heap} (h : rp D cl A ad c H) (sz : Nat) : rp D cl (rA ad c sz) ad c H := h.mono fun n hn _ => Or.inl ⟨n, hn, rfl⟩
/-- a world that a call did not reach -/
theorem rp.frame {D : va_G} {cl : List vw_C} {A A1 : Nat → Prop} {ad : Nat → Nat} {c : rC} {H H1 : Heap} (h : rp D cl A ad c H) (hk : ∀ q : Nat, q < H.size → ¬ A1 q → H1[q]? = H[q]?) (hd : ∀ n, c n ≠ none → ¬ A1 (ad n)) : rp D cl A ad c H1 :=
  ⟨fun n e hn => ⟨(h.1 n e hn).1.kept (hk _ (h.1 n e hn).1.lt (hd n (by rw [hn]; exact fun z => by cases z))), (h.1 n e hn).2⟩, h.2⟩
theorem rup_self {c : rC} {n : Nat} {e : va_E} : va_up c n (some e) n = some e := va_up_self _ _ _
theorem rup_ne {c : rC} {n k : Nat} {e : Option va_E} {x : Option va_E} (h : k ≠ n) (hk : c k = x) : va_up c n e k = x := by rw [va_up_ne _ _ h]; exact hk
theorem rup_up {c : rC} {n : Nat} {e e' : Option va_E} : va_up (va_up c n e) n e' = va_up c n e' := by
  funext k
  by_cases h : k = n <;> simp [va_up, h]
theorem rup_id {c : rC} {n : Nat} {e : va_E} (h : c n = some e) : va_up c n (some e) = c := by
  funext k
  by_cases hk : k = n
  · subst hk; rw [va_up_self, h]
  · rw [va_up_ne _ _ hk]
theorem rup_comm {c : rC} {n k : Nat} {e e' : Option va_E} (h : n ≠ k) : va_up (va_up c n e) k e' = va_up (va_up c k e') n e := by
  funext j
  by_cases h1 : j = n
  · by_cases h2 : j = k
    · exact absurd (h1.symm.trans h2) h
    · simp [va_up, h1, h]
  · by_cases h2 : j = k <;> simp [va_up, h1, h2, Ne.symm h]

def rW (p : Program) (l : Launch) (e : Env) (R : Room) (s : State) (m : MethodId) (args : Array Value) (below : List Frame) (meth : Method) (cd : Code) (nL : Nat) (D : va_G) (cl : List vw_C) (A : Nat → Prop) (cells slots : Nat) (Q : State → Prop) (ad : Nat → Nat) (c : rC) (pc : Nat) (lv : List (Nat × Value)) (st : List Value) : Prop :=
  ∀ (H : Heap) (locs : List Loc) (ls : Array Slot), rp D cl A ad c H → va_S A s.heap H locs → lv_has ls nL lv → W p l e R s m args below meth cd H locs cells slots Q (F0 m pc ls st)
/-- what a walk rests on: the machine, the code, the words, the classes' layout -/
def rX (p : Program) (s : State) (m : MethodId) (args : Array Value) (cd : Code) (cc : ByteArray) (nL : Nat) (own : String) (Ts : List Cond) (D : va_G) (cl : List vw_C) (tys : List (ClassId × FieldType)) (A : Nat → Prop) : Prop :=
  p.tables.exec = Jvm.exec ∧ cd.code = cc ∧ cd.maxLocals = nL ∧ s.vm.findClass own = some m.cls ∧ (∀ w ∈ Ts, w.before args s = true) ∧ va_K D cl tys s ∧ ∀ q, s.heap.size ≤ q → A q
/-- a class of ours: its words, its place in the list, its fields -/
def rF (Ts : List Cond) (cl : List vw_C) (ci : Nat) (C : String) (T : u_T) (N : Nat) (ty : Nat → FieldType) : Prop := (∀ w ∈ u_ws C T N, w ∈ Ts) ∧ cl[ci]? = some (C, T, N) ∧ (∀ k, k < N → parseFieldDescriptor (T k).2.2.1 = some (ty k)) ∧ ∀ a, a < N → ∀ b, b < N → a ≠ b → (T a).2.1 ≠ (T b).2.1
section RROWS
variable {p : Program} {l : Launch} {e : Env} {R : Room} {s : State} {m : MethodId} {args : Array Value} {below : List Frame} {meth : Method} {cd : Code} {cc : ByteArray} {nL : Nat} {own : String} {Ts : List Cond} {D : va_G} {cl : List vw_C} {tys : List (ClassId × FieldType)} {A : Nat → Prop} {cells slots : Nat} {Q : State → Prop} {ad : Nat → Nat} {c : rC} {pc : Nat} {lv : List (Nat × Value)} {st : List Value}
theorem r_iload_n (X : rX p s m args cd cc nL own Ts D cl tys A) {k : Fin 4} {i : Nat} {x : Int32} (j : Nat) (hd : decode cc pc = .ok (.iload_n k, 1)) (hi : (k : Nat) = i) (hj : lv[j]? = some (i, .int x)) (kk : rW p l e R s m args below meth cd nL D cl A cells slots Q ad c (pc + 1) lv (.int x :: st)) : rW p l e R s m args below meth cd nL D cl A cells slots Q ad c pc lv st := fun H locs ls hP hS hl => lv_iload_n X.1 X.2.1 hd hi (lv_at hl j hj) (kk H locs ls hP hS hl)
theorem r_iload (X : rX p s m args cd cc nL own Ts D cl tys A) {i : Nat} {x : Int32} (j : Nat) (hd : decode cc pc = .ok (.iload i, 2)) (hj : lv[j]? = some (i, .int x)) (kk : rW p l e R s m args below meth cd nL D cl A cells slots Q ad c (pc + 2) lv (.int x :: st)) : rW p l e R s m args below meth cd nL D cl A cells slots Q ad c pc lv st := fun H locs ls hP hS hl => lv_iload X.1 X.2.1 hd (lv_at hl j hj) (kk H locs ls hP hS hl)
theorem r_lload_n (X : rX p s m args cd cc nL own Ts D cl tys A) {k : Fin 4} {i : Nat} {x : Int64} (j : Nat) (hd : decode cc pc = .ok (.lload_n k, 1)) (hi : (k : Nat) = i) (hj : lv[j]? = some (i, .long x)) (kk : rW p l e R s m args below meth cd nL D cl A cells slots Q ad c (pc + 1) lv (.long x :: st)) : rW p l e R s m args below meth cd nL D cl A cells slots Q ad c pc lv st := fun H locs ls hP hS hl => lv_lload_n X.1 X.2.1 hd hi (lv_at hl j hj) (kk H locs ls hP hS hl)
theorem r_lload (X : rX p s m args cd cc nL own Ts D cl tys A) {i : Nat} {x : Int64} (j : Nat) (hd : decode cc pc = .ok (.lload i, 2)) (hj : lv[j]? = some (i, .long x)) (kk : rW p l e R s m args below meth cd nL D cl A cells slots Q ad c (pc + 2) lv (.long x :: st)) : rW p l e R s m args below meth cd nL D cl A cells slots Q ad c pc lv st := fun H locs ls hP hS hl => lv_lload X.1 X.2.1 hd (lv_at hl j hj) (kk H locs ls hP hS hl)
theorem r_aload_n (X : rX p s m args cd cc nL own Ts D cl tys A) {k : Fin 4} {i : Nat} {x : Nat} (j : Nat) (hd : decode cc pc = .ok (.aload_n k, 1)) (hi : (k : Nat) = i) (hj : lv[j]? = some (i, .ref x)) (kk : rW p l e R s m args below meth cd nL D cl A cells slots Q ad c (pc + 1) lv (.ref x :: st)) : rW p l e R s m args below meth cd nL D cl A cells slots Q ad c pc lv st := fun H locs ls hP hS hl => lv_aload_n X.1 X.2.1 hd hi (lv_at hl j hj) (kk H locs ls hP hS hl)
theorem r_aload (X : rX p s m args cd cc nL own Ts D cl tys A) {i : Nat} {x : Nat} (j : Nat) (hd : decode cc pc = .ok (.aload i, 2)) (hj : lv[j]? = some (i, .ref x)) (kk : rW p l e R s m args below meth cd nL D cl A cells slots Q ad c (pc + 2) lv (.ref x :: st)) : rW p l e R s m args below meth cd nL D cl A cells slots Q ad c pc lv st := fun H locs ls hP hS hl => lv_aload X.1 X.2.1 hd (lv_at hl j hj) (kk H locs ls hP hS hl)
theorem r_dload_n (X : rX p s m args cd cc nL own Ts D cl tys A) {k : Fin 4} {i : Nat} {x : UInt64} (j : Nat) (hd : decode cc pc = .ok (.dload_n k, 1)) (hi : (k : Nat) = i) (hj : lv[j]? = some (i, .double x)) (kk : rW p l e R s m args below meth cd nL D cl A cells slots Q ad c (pc + 1) lv (.double x :: st)) : rW p l e R s m args below meth cd nL D cl A cells slots Q ad c pc lv st := fun H locs ls hP hS hl => lv_dload_n X.1 X.2.1 hd hi (lv_at hl j hj) (kk H locs ls hP hS hl)
theorem r_dload (X : rX p s m args cd cc nL own Ts D cl tys A) {i : Nat} {x : UInt64} (j : Nat) (hd : decode cc pc = .ok (.dload i, 2)) (hj : lv[j]? = some (i, .double x)) (kk : rW p l e R s m args below meth cd nL D cl A cells slots Q ad c (pc + 2) lv (.double x :: st)) : rW p l e R s m args below meth cd nL D cl A cells slots Q ad c pc lv st := fun H locs ls hP hS hl => lv_dload X.1 X.2.1 hd (lv_at hl j hj) (kk H locs ls hP hS hl)
theorem r_aload_nN (X : rX p s m args cd cc nL own Ts D cl tys A) {k : Fin 4} {i : Nat} (j : Nat) (hd : decode cc pc = .ok (.aload_n k, 1)) (hi : (k : Nat) = i) (hj : lv[j]? = some (i, .null)) (kk : rW p l e R s m args below meth cd nL D cl A cells slots Q ad c (pc + 1) lv (.null :: st)) : rW p l e R s m args below meth cd nL D cl A cells slots Q ad c pc lv st := fun H locs ls hP hS hl => lv_aload_nN X.1 X.2.1 hd hi (lv_at hl j hj) (kk H locs ls hP hS hl)
theorem r_aloadN (X : rX p s m args cd cc nL own Ts D cl tys A) {i : Nat} (j : Nat) (hd : decode cc pc = .ok (.aload i, 2)) (hj : lv[j]? = some (i, .null)) (kk : rW p l e R s m args below meth cd nL D cl A cells slots Q ad c (pc + 2) lv (.null :: st)) : rW p l e R s m args below meth cd nL D cl A cells slots Q ad c pc lv st := fun H locs ls hP hS hl => lv_aloadN X.1 X.2.1 hd (lv_at hl j hj) (kk H locs ls hP hS hl)
theorem r_iconst (X : rX p s m args cd cc nL own Ts D cl tys A) {n : Int} (v : Int32) (hd : decode cc pc = .ok (.iconst n, 1)) (hv : Int32.ofInt n = v) (kk : rW p l e R s m args below meth cd nL D cl A cells slots Q ad c (pc + 1) lv (.int v :: st)) : rW p l e R s m args below meth cd nL D cl A cells slots Q ad c pc lv st := fun H locs ls hP hS hl => lv_iconst X.1 X.2.1 hd hv (kk H locs ls hP hS hl)
theorem r_bipush (X : rX p s m args cd cc nL own Ts D cl tys A) {n : Int} (v : Int32) (hd : decode cc pc = .ok (.bipush n, 2)) (hv : (Int8.ofInt n).toInt32 = v) (kk : rW p l e R s m args below meth cd nL D cl A cells slots Q ad c (pc + 2) lv (.int v :: st)) : rW p l e R s m args below meth cd nL D cl A cells slots Q ad c pc lv st := fun H locs ls hP hS hl => lv_bipush X.1 X.2.1 hd hv (kk H locs ls hP hS hl)
theorem r_sipush (X : rX p s m args cd cc nL own Ts D cl tys A) {n : Int} (v : Int32) (hd : decode cc pc = .ok (.sipush n, 3)) (hv : (Int16.ofInt n).toInt32 = v) (kk : rW p l e R s m args below meth cd nL D cl A cells slots Q ad c (pc + 3) lv (.int v :: st)) : rW p l e R s m args below meth cd nL D cl A cells slots Q ad c pc lv st := fun H locs ls hP hS hl => lv_sipush X.1 X.2.1 hd hv (kk H locs ls hP hS hl)
theorem r_null (X : rX p s m args cd cc nL own Ts D cl tys A) (hd : decode cc pc = .ok (.aconst_null, 1)) (kk : rW p l e R s m args below meth cd nL D cl A cells slots Q ad c (pc + 1) lv (.null :: st)) : rW p l e R s m args below meth cd nL D cl A cells slots Q ad c pc lv st := fun H locs ls hP hS hl => lv_null X.1 X.2.1 hd (kk H locs ls hP hS hl)
theorem r_ldc (X : rX p s m args cd cc nL own Ts D cl tys A) {i : Nat} {v : Int32} (hw : Cond.constant own i v ∈ Ts) (hd : decode cc pc = .ok (.ldc i, 2)) (kk : rW p l e R s m args below meth cd nL D cl A cells slots Q ad c (pc + 2) lv (.int v :: st)) : rW p l e R s m args below meth cd nL D cl A cells slots Q ad c pc lv st := fun H locs ls hP hS hl => lv_ldc X.1 X.2.1 X.2.2.2.1 (X.2.2.2.2.1 _ hw) hd (kk H locs ls hP hS hl)
theorem r_ldc2 (X : rX p s m args cd cc nL own Ts D cl tys A) {i : Nat} {v : Int64} (hw : Cond.constantLong own i v ∈ Ts) (hd : decode cc pc = .ok (.ldc2_w i, 3)) (kk : rW p l e R s m args below meth cd nL D cl A cells slots Q ad c (pc + 3) lv (.long v :: st)) : rW p l e R s m args below meth cd nL D cl A cells slots Q ad c pc lv st := fun H locs ls hP hS hl => lv_ldc2 X.1 X.2.1 X.2.2.2.1 (X.2.2.2.2.1 _ hw) hd (kk H locs ls hP hS hl)
theorem r_dconst0 (X : rX p s m args cd cc nL own Ts D cl tys A) (hd : decode cc pc = .ok (.dconst 0, 1)) (kk : rW p l e R s m args below meth cd nL D cl A cells slots Q ad c (pc + 1) lv (.double FP.dconst0 :: st)) : rW p l e R s m args below meth cd nL D cl A cells slots Q ad c pc lv st := fun H locs ls hP hS hl => lv_dconst0 X.1 X.2.1 hd (kk H locs ls hP hS hl)
theorem r_iadd (X : rX p s m args cd cc nL own Ts D cl tys A) {x y : Int32} (hd : decode cc pc = .ok (.iadd, 1)) (kk : rW p l e R s m args below meth cd nL D cl A cells slots Q ad c (pc + 1) lv (.int (x + y) :: st)) : rW p l e R s m args below meth cd nL D cl A cells slots Q ad c pc lv (.int y :: .int x :: st) := fun H locs ls hP hS hl => lv_iadd X.1 X.2.1 hd (kk H locs ls hP hS hl)
theorem r_isub (X : rX p s m args cd cc nL own Ts D cl tys A) {x y : Int32} (hd : decode cc pc = .ok (.isub, 1)) (kk : rW p l e R s m args below meth cd nL D cl A cells slots Q ad c (pc + 1) lv (.int (x - y) :: st)) : rW p l e R s m args below meth cd nL D cl A cells slots Q ad c pc lv (.int y :: .int x :: st) := fun H locs ls hP hS hl => lv_isub X.1 X.2.1 hd (kk H locs ls hP hS hl)
theorem r_imul (X : rX p s m args cd cc nL own Ts D cl tys A) {x y : Int32} (hd : decode cc pc = .ok (.imul, 1)) (kk : rW p l e R s m args below meth cd nL D cl A cells slots Q ad c (pc + 1) lv (.int (x * y) :: st)) : rW p l e R s m args below meth cd nL D cl A cells slots Q ad c pc lv (.int y :: .int x :: st) := fun H locs ls hP hS hl => lv_imul X.1 X.2.1 hd (kk H locs ls hP hS hl)
theorem r_iand (X : rX p s m args cd cc nL own Ts D cl tys A) {x y : Int32} (hd : decode cc pc = .ok (.iand, 1)) (kk : rW p l e R s m args below meth cd nL D cl A cells slots Q ad c (pc + 1) lv (.int (x &&& y) :: st)) : rW p l e R s m args below meth cd nL D cl A cells slots Q ad c pc lv (.int y :: .int x :: st) := fun H locs ls hP hS hl => lv_iand X.1 X.2.1 hd (kk H locs ls hP hS hl)
theorem r_ior (X : rX p s m args cd cc nL own Ts D cl tys A) {x y : Int32} (hd : decode cc pc = .ok (.ior, 1)) (kk : rW p l e R s m args below meth cd nL D cl A cells slots Q ad c (pc + 1) lv (.int (x ||| y) :: st)) : rW p l e R s m args below meth cd nL D cl A cells slots Q ad c pc lv (.int y :: .int x :: st) := fun H locs ls hP hS hl => lv_ior X.1 X.2.1 hd (kk H locs ls hP hS hl)
theorem r_ixor (X : rX p s m args cd cc nL own Ts D cl tys A) {x y : Int32} (hd : decode cc pc = .ok (.ixor, 1)) (kk : rW p l e R s m args below meth cd nL D cl A cells slots Q ad c (pc + 1) lv (.int (x ^^^ y) :: st)) : rW p l e R s m args below meth cd nL D cl A cells slots Q ad c pc lv (.int y :: .int x :: st) := fun H locs ls hP hS hl => lv_ixor X.1 X.2.1 hd (kk H locs ls hP hS hl)
theorem r_idiv (X : rX p s m args cd cc nL own Ts D cl tys A) {x y : Int32} (hd : decode cc pc = .ok (.idiv, 1)) (hy : ¬ y = 0) (kk : rW p l e R s m args below meth cd nL D cl A cells slots Q ad c (pc + 1) lv (.int (x / y) :: st)) : rW p l e R s m args below meth cd nL D cl A cells slots Q ad c pc lv (.int y :: .int x :: st) := fun H locs ls hP hS hl => lv_idiv X.1 X.2.1 hd hy (kk H locs ls hP hS hl)
theorem r_irem (X : rX p s m args cd cc nL own Ts D cl tys A) {x y : Int32} (hd : decode cc pc = .ok (.irem, 1)) (hy : ¬ y = 0) (kk : rW p l e R s m args below meth cd nL D cl A cells slots Q ad c (pc + 1) lv (.int (x - x / y * y) :: st)) : rW p l e R s m args below meth cd nL D cl A cells slots Q ad c pc lv (.int y :: .int x :: st) := fun H locs ls hP hS hl => lv_irem X.1 X.2.1 hd hy (kk H locs ls hP hS hl)
theorem r_ineg (X : rX p s m args cd cc nL own Ts D cl tys A) {x : Int32} (hd : decode cc pc = .ok (.ineg, 1)) (kk : rW p l e R s m args below meth cd nL D cl A cells slots Q ad c (pc + 1) lv (.int (-x) :: st)) : rW p l e R s m args below meth cd nL D cl A cells slots Q ad c pc lv (.int x :: st) := fun H locs ls hP hS hl => lv_ineg X.1 X.2.1 hd (kk H locs ls hP hS hl)
theorem r_ishl (X : rX p s m args cd cc nL own Ts D cl tys A) {x y : Int32} (hd : decode cc pc = .ok (.ishl, 1)) (kk : rW p l e R s m args below meth cd nL D cl A cells slots Q ad c (pc + 1) lv (.int (x <<< (y &&& 31)) :: st)) : rW p l e R s m args below meth cd nL D cl A cells slots Q ad c pc lv (.int y :: .int x :: st) := fun H locs ls hP hS hl => lv_ishl X.1 X.2.1 hd (kk H locs ls hP hS hl)
theorem r_ishr (X : rX p s m args cd cc nL own Ts D cl tys A) {x y : Int32} (hd : decode cc pc = .ok (.ishr, 1)) (kk : rW p l e R s m args below meth cd nL D cl A cells slots Q ad c (pc + 1) lv (.int (x >>> (y &&& 31)) :: st)) : rW p l e R s m args below meth cd nL D cl A cells slots Q ad c pc lv (.int y :: .int x :: st) := fun H locs ls hP hS hl => lv_ishr X.1 X.2.1 hd (kk H locs ls hP hS hl)
theorem r_ladd (X : rX p s m args cd cc nL own Ts D cl tys A) {x y : Int64} (hd : decode cc pc = .ok (.ladd, 1)) (kk : rW p l e R s m args below meth cd nL D cl A cells slots Q ad c (pc + 1) lv (.long (x + y) :: st)) : rW p l e R s m args below meth cd nL D cl A cells slots Q ad c pc lv (.long y :: .long x :: st) := fun H locs ls hP hS hl => lv_ladd X.1 X.2.1 hd (kk H locs ls hP hS hl)
theorem r_lmul (X : rX p s m args cd cc nL own Ts D cl tys A) {x y : Int64} (hd : decode cc pc = .ok (.lmul, 1)) (kk : rW p l e R s m args below meth cd nL D cl A cells slots Q ad c (pc + 1) lv (.long (x * y) :: st)) : rW p l e R s m args below meth cd nL D cl A cells slots Q ad c pc lv (.long y :: .long x :: st) := fun H locs ls hP hS hl => lv_lmul X.1 X.2.1 hd (kk H locs ls hP hS hl)
theorem r_i2l (X : rX p s m args cd cc nL own Ts D cl tys A) {x : Int32} (hd : decode cc pc = .ok (.i2l, 1)) (kk : rW p l e R s m args below meth cd nL D cl A cells slots Q ad c (pc + 1) lv (.long x.toInt64 :: st)) : rW p l e R s m args below meth cd nL D cl A cells slots Q ad c pc lv (.int x :: st) := fun H locs ls hP hS hl => lv_i2l X.1 X.2.1 hd rfl (kk H locs ls hP hS hl)
theorem r_lcmp (X : rX p s m args cd cc nL own Ts D cl tys A) {x y : Int64} (hd : decode cc pc = .ok (.lcmp, 1)) (kk : rW p l e R s m args below meth cd nL D cl A cells slots Q ad c (pc + 1) lv (.int (lg_cmp x y) :: st)) : rW p l e R s m args below meth cd nL D cl A cells slots Q ad c pc lv (.long y :: .long x :: st) := fun H locs ls hP hS hl => W.lcmp X.1 X.2.1 hd (kk H locs ls hP hS hl)
theorem r_i2d (X : rX p s m args cd cc nL own Ts D cl tys A) {x : Int32} (hd : decode cc pc = .ok (.i2d, 1)) (kk : rW p l e R s m args below meth cd nL D cl A cells slots Q ad c (pc + 1) lv (.double (FP.i2d x) :: st)) : rW p l e R s m args below meth cd nL D cl A cells slots Q ad c pc lv (.int x :: st) := fun H locs ls hP hS hl => lv_i2d X.1 X.2.1 hd (kk H locs ls hP hS hl)
theorem r_ddiv (X : rX p s m args cd cc nL own Ts D cl tys A) {x y : UInt64} (hd : decode cc pc = .ok (.ddiv, 1)) (hn : vf_n64 (FP.ddiv x y)) (kk : rW p l e R s m args below meth cd nL D cl A cells slots Q ad c (pc + 1) lv (.double (FP.ddiv x y) :: st)) : rW p l e R s m args below meth cd nL D cl A cells slots Q ad c pc lv (.double y :: .double x :: st) := fun H locs ls hP hS hl => lv_ddiv X.1 X.2.1 hd hn (kk H locs ls hP hS hl)
theorem r_dcmp (X : rX p s m args cd cc nL own Ts D cl tys A) {x y : UInt64} {op : CmpOp} (hd : decode cc pc = .ok (.dcmp op, 1)) (kk : rW p l e R s m args below meth cd nL D cl A cells slots Q ad c (pc + 1) lv (.int (Op.cmpValue (FP.dcmp x y) op) :: st)) : rW p l e R s m args below meth cd nL D cl A cells slots Q ad c pc lv (.double y :: .double x :: st) := fun H locs ls hP hS hl => lv_dcmp X.1 X.2.1 hd (kk H locs ls hP hS hl)
theorem r_dup (X : rX p s m args cd cc nL own Ts D cl tys A) {v : Value} (hd : decode cc pc = .ok (.dup, 1)) (hv : v.category = 1) (kk : rW p l e R s m args below meth cd nL D cl A cells slots Q ad c (pc + 1) lv (v :: v :: st)) : rW p l e R s m args below meth cd nL D cl A cells slots Q ad c pc lv (v :: st) := fun H locs ls hP hS hl => lv_dup X.1 X.2.1 hd hv (kk H locs ls hP hS hl)
theorem r_pop (X : rX p s m args cd cc nL own Ts D cl tys A) {v : Value} (hd : decode cc pc = .ok (.pop, 1)) (hv : v.category = 1) (kk : rW p l e R s m args below meth cd nL D cl A cells slots Q ad c (pc + 1) lv st) : rW p l e R s m args below meth cd nL D cl A cells slots Q ad c pc lv (v :: st) := fun H locs ls hP hS hl => lv_pop X.1 X.2.1 hd hv (kk H locs ls hP hS hl)
theorem r_dup_x1 (X : rX p s m args cd cc nL own Ts D cl tys A) {v w : Value} (hd : decode cc pc = .ok (.dup_x1, 1)) (hv : v.category = 1) (hw : w.category = 1) (kk : rW p l e R s m args below meth cd nL D cl A cells slots Q ad c (pc + 1) lv (v :: w :: v :: st)) : rW p l e R s m args below meth cd nL D cl A cells slots Q ad c pc lv (v :: w :: st) := fun H locs ls hP hS hl => lv_dup_x1 X.1 X.2.1 hd hv hw (kk H locs ls hP hS hl)
theorem r_istore_n (X : rX p s m args cd cc nL own Ts D cl tys A) {k : Fin 4} {i : Nat} {x : Int32} (lv' : List (Nat × Value)) (hd : decode cc pc = .ok (.istore_n k, 1)) (hi : (k : Nat) = i) (hn : i < nL) (hl9 : (i, Value.int x) :: lv.filter (fun q => !(q.1 == i) && !(q.1 + 1 == i && q.2.category == 2)) = lv') (kk : rW p l e R s m args below meth cd nL D cl A cells slots Q ad c (pc + 1) lv' st) : rW p l e R s m args below meth cd nL D cl A cells slots Q ad c pc lv (.int x :: st) := fun H locs ls hP hS hl => lv_istore_n X.1 X.2.1 hd hi hl hn hl9 (fun ls hl => kk H locs ls hP hS hl)
theorem r_istore (X : rX p s m args cd cc nL own Ts D cl tys A) {i : Nat} {x : Int32} (lv' : List (Nat × Value)) (hd : decode cc pc = .ok (.istore i, 2)) (hn : i < nL) (hl9 : (i, Value.int x) :: lv.filter (fun q => !(q.1 == i) && !(q.1 + 1 == i && q.2.category == 2)) = lv') (kk : rW p l e R s m args below meth cd nL D cl A cells slots Q ad c (pc + 2) lv' st) : rW p l e R s m args below meth cd nL D cl A cells slots Q ad c pc lv (.int x :: st) := fun H locs ls hP hS hl => lv_istore X.1 X.2.1 hd hl hn hl9 (fun ls hl => kk H locs ls hP hS hl)
theorem r_astore_n (X : rX p s m args cd cc nL own Ts D cl tys A) {k : Fin 4} {i : Nat} {x : Nat} (lv' : List (Nat × Value)) (hd : decode cc pc = .ok (.astore_n k, 1)) (hi : (k : Nat) = i) (hn : i < nL) (hl9 : (i, Value.ref x) :: lv.filter (fun q => !(q.1 == i) && !(q.1 + 1 == i && q.2.category == 2)) = lv') (kk : rW p l e R s m args below meth cd nL D cl A cells slots Q ad c (pc + 1) lv' st) : rW p l e R s m args below meth cd nL D cl A cells slots Q ad c pc lv (.ref x :: st) := fun H locs ls hP hS hl => lv_astore_n X.1 X.2.1 hd hi hl hn hl9 (fun ls hl => kk H locs ls hP hS hl)
theorem r_astore (X : rX p s m args cd cc nL own Ts D cl tys A) {i : Nat} {x : Nat} (lv' : List (Nat × Value)) (hd : decode cc pc = .ok (.astore i, 2)) (hn : i < nL) (hl9 : (i, Value.ref x) :: lv.filter (fun q => !(q.1 == i) && !(q.1 + 1 == i && q.2.category == 2)) = lv') (kk : rW p l e R s m args below meth cd nL D cl A cells slots Q ad c (pc + 2) lv' st) : rW p l e R s m args below meth cd nL D cl A cells slots Q ad c pc lv (.ref x :: st) := fun H locs ls hP hS hl => lv_astore X.1 X.2.1 hd hl hn hl9 (fun ls hl => kk H locs ls hP hS hl)
theorem r_astore_nN (X : rX p s m args cd cc nL own Ts D cl tys A) {k : Fin 4} {i : Nat} (lv' : List (Nat × Value)) (hd : decode cc pc = .ok (.astore_n k, 1)) (hi : (k : Nat) = i) (hn : i < nL) (hl9 : (i, Value.null) :: lv.filter (fun q => !(q.1 == i) && !(q.1 + 1 == i && q.2.category == 2)) = lv') (kk : rW p l e R s m args below meth cd nL D cl A cells slots Q ad c (pc + 1) lv' st) : rW p l e R s m args below meth cd nL D cl A cells slots Q ad c pc lv (.null :: st) := fun H locs ls hP hS hl => lv_astore_nN X.1 X.2.1 hd hi hl hn hl9 (fun ls hl => kk H locs ls hP hS hl)
theorem r_astoreN (X : rX p s m args cd cc nL own Ts D cl tys A) {i : Nat} (lv' : List (Nat × Value)) (hd : decode cc pc = .ok (.astore i, 2)) (hn : i < nL) (hl9 : (i, Value.null) :: lv.filter (fun q => !(q.1 == i) && !(q.1 + 1 == i && q.2.category == 2)) = lv') (kk : rW p l e R s m args below meth cd nL D cl A cells slots Q ad c (pc + 2) lv' st) : rW p l e R s m args below meth cd nL D cl A cells slots Q ad c pc lv (.null :: st) := fun H locs ls hP hS hl => lv_astoreN X.1 X.2.1 hd hl hn hl9 (fun ls hl => kk H locs ls hP hS hl)
theorem r_lstore_n (X : rX p s m args cd cc nL own Ts D cl tys A) {k : Fin 4} {i : Nat} {x : Int64} (lv' : List (Nat × Value)) (hd : decode cc pc = .ok (.lstore_n k, 1)) (hi : (k : Nat) = i) (hn : i + 1 < nL) (hl9 : (i, Value.long x) :: lv.filter (fun q => !(q.1 == i) && (!(q.1 == i + 1) && !(q.1 + 1 == i && q.2.category == 2))) = lv') (kk : rW p l e R s m args below meth cd nL D cl A cells slots Q ad c (pc + 1) lv' st) : rW p l e R s m args below meth cd nL D cl A cells slots Q ad c pc lv (.long x :: st) := fun H locs ls hP hS hl => lv_lstore_n X.1 X.2.1 hd hi hl hn hl9 (fun ls hl => kk H locs ls hP hS hl)
theorem r_lstore (X : rX p s m args cd cc nL own Ts D cl tys A) {i : Nat} {x : Int64} (lv' : List (Nat × Value)) (hd : decode cc pc = .ok (.lstore i, 2)) (hn : i + 1 < nL) (hl9 : (i, Value.long x) :: lv.filter (fun q => !(q.1 == i) && (!(q.1 == i + 1) && !(q.1 + 1 == i && q.2.category == 2))) = lv') (kk : rW p l e R s m args below meth cd nL D cl A cells slots Q ad c (pc + 2) lv' st) : rW p l e R s m args below meth cd nL D cl A cells slots Q ad c pc lv (.long x :: st) := fun H locs ls hP hS hl => lv_lstore X.1 X.2.1 hd hl hn hl9 (fun ls hl => kk H locs ls hP hS hl)
theorem r_iinc (X : rX p s m args cd cc nL own Ts D cl tys A) {i : Nat} {n : Int} {x v : Int32} (j : Nat) (lv' : List (Nat × Value)) (hd : decode cc pc = .ok (.iinc i n, 3)) (hj : lv[j]? = some (i, .int x)) (hv : x + Int32.ofInt n = v) (hn : i < nL) (hl9 : (i, Value.int v) :: lv.filter (fun q => !(q.1 == i) && !(q.1 + 1 == i && q.2.category == 2)) = lv') (kk : rW p l e R s m args below meth cd nL D cl A cells slots Q ad c (pc + 3) lv' st) : rW p l e R s m args below meth cd nL D cl A cells slots Q ad c pc lv st := fun H locs ls hP hS hl => lv_iinc X.1 X.2.1 hd hl hj hv hn hl9 (fun ls hl => kk H locs ls hP hS hl)
theorem r_goto (X : rX p s m args cd cc nL own Ts D cl tys A) {off : Int} (tgt : Nat) (hd : decode cc pc = .ok (.goto off, 3)) (ht : (pc : Int) + off = (tgt : Int)) (kk : rW p l e R s m args below meth cd nL D cl A cells slots Q ad c tgt lv st) : rW p l e R s m args below meth cd nL D cl A cells slots Q ad c pc lv st := fun H locs ls hP hS hl => lv_goto X.1 X.2.1 hd ht (kk H locs ls hP hS hl)
theorem r_if_eq (X : rX p s m args cd cc nL own Ts D cl tys A) {x : Int32} {off : Int} (tgt : Nat) (hd : decode cc pc = .ok (.ifCond .eq off, 3)) (ht : (pc : Int) + off = (tgt : Int)) (kt : x = 0 → rW p l e R s m args below meth cd nL D cl A cells slots Q ad c tgt lv st) (kf : ¬ x = 0 → rW p l e R s m args below meth cd nL D cl A cells slots Q ad c (pc + 3) lv st) : rW p l e R s m args below meth cd nL D cl A cells slots Q ad c pc lv (.int x :: st) := fun H locs ls hP hS hl => lv_if_eq X.1 X.2.1 hd ht (fun h => kt h H locs ls hP hS hl) (fun h => kf h H locs ls hP hS hl)
theorem r_icmp_eq (X : rX p s m args cd cc nL own Ts D cl tys A) {x y : Int32} {off : Int} (tgt : Nat) (hd : decode cc pc = .ok (.if_icmp .eq off, 3)) (ht : (pc : Int) + off = (tgt : Int)) (kt : x = y → rW p l e R s m args below meth cd nL D cl A cells slots Q ad c tgt lv st) (kf : ¬ x = y → rW p l e R s m args below meth cd nL D cl A cells slots Q ad c (pc + 3) lv st) : rW p l e R s m args below meth cd nL D cl A cells slots Q ad c pc lv (.int y :: .int x :: st) := fun H locs ls hP hS hl => lv_icmp_eq X.1 X.2.1 hd ht (fun h => kt h H locs ls hP hS hl) (fun h => kf h H locs ls hP hS hl)
theorem r_if_ne (X : rX p s m args cd cc nL own Ts D cl tys A) {x : Int32} {off : Int} (tgt : Nat) (hd : decode cc pc = .ok (.ifCond .ne off, 3)) (ht : (pc : Int) + off = (tgt : Int)) (kt : ¬ x = 0 → rW p l e R s m args below meth cd nL D cl A cells slots Q ad c tgt lv st) (kf : x = 0 → rW p l e R s m args below meth cd nL D cl A cells slots Q ad c (pc + 3) lv st) : rW p l e R s m args below meth cd nL D cl A cells slots Q ad c pc lv (.int x :: st) := fun H locs ls hP hS hl => lv_if_ne X.1 X.2.1 hd ht (fun h => kt h H locs ls hP hS hl) (fun h => kf h H locs ls hP hS hl)
theorem r_icmp_ne (X : rX p s m args cd cc nL own Ts D cl tys A) {x y : Int32} {off : Int} (tgt : Nat) (hd : decode cc pc = .ok (.if_icmp .ne off, 3)) (ht : (pc : Int) + off = (tgt : Int)) (kt : ¬ x = y → rW p l e R s m args below meth cd nL D cl A cells slots Q ad c tgt lv st) (kf : x = y → rW p l e R s m args below meth cd nL D cl A cells slots Q ad c (pc + 3) lv st) : rW p l e R s m args below meth cd nL D cl A cells slots Q ad c pc lv (.int y :: .int x :: st) := fun H locs ls hP hS hl => lv_icmp_ne X.1 X.2.1 hd ht (fun h => kt h H locs ls hP hS hl) (fun h => kf h H locs ls hP hS hl)
theorem r_if_lt (X : rX p s m args cd cc nL own Ts D cl tys A) {x : Int32} {off : Int} (tgt : Nat) (hd : decode cc pc = .ok (.ifCond .lt off, 3)) (ht : (pc : Int) + off = (tgt : Int)) (kt : x < 0 → rW p l e R s m args below meth cd nL D cl A cells slots Q ad c tgt lv st) (kf : ¬ x < 0 → rW p l e R s m args below meth cd nL D cl A cells slots Q ad c (pc + 3) lv st) : rW p l e R s m args below meth cd nL D cl A cells slots Q ad c pc lv (.int x :: st) := fun H locs ls hP hS hl => lv_if_lt X.1 X.2.1 hd ht (fun h => kt h H locs ls hP hS hl) (fun h => kf h H locs ls hP hS hl)
theorem r_icmp_lt (X : rX p s m args cd cc nL own Ts D cl tys A) {x y : Int32} {off : Int} (tgt : Nat) (hd : decode cc pc = .ok (.if_icmp .lt off, 3)) (ht : (pc : Int) + off = (tgt : Int)) (kt : x < y → rW p l e R s m args below meth cd nL D cl A cells slots Q ad c tgt lv st) (kf : ¬ x < y → rW p l e R s m args below meth cd nL D cl A cells slots Q ad c (pc + 3) lv st) : rW p l e R s m args below meth cd nL D cl A cells slots Q ad c pc lv (.int y :: .int x :: st) := fun H locs ls hP hS hl => lv_icmp_lt X.1 X.2.1 hd ht (fun h => kt h H locs ls hP hS hl) (fun h => kf h H locs ls hP hS hl)
theorem r_if_ge (X : rX p s m args cd cc nL own Ts D cl tys A) {x : Int32} {off : Int} (tgt : Nat) (hd : decode cc pc = .ok (.ifCond .ge off, 3)) (ht : (pc : Int) + off = (tgt : Int)) (kt : 0 ≤ x → rW p l e R s m args below meth cd nL D cl A cells slots Q ad c tgt lv st) (kf : ¬ 0 ≤ x → rW p l e R s m args below meth cd nL D cl A cells slots Q ad c (pc + 3) lv st) : rW p l e R s m args below meth cd nL D cl A cells slots Q ad c pc lv (.int x :: st) := fun H locs ls hP hS hl => lv_if_ge X.1 X.2.1 hd ht (fun h => kt h H locs ls hP hS hl) (fun h => kf h H locs ls hP hS hl)
theorem r_icmp_ge (X : rX p s m args cd cc nL own Ts D cl tys A) {x y : Int32} {off : Int} (tgt : Nat) (hd : decode cc pc = .ok (.if_icmp .ge off, 3)) (ht : (pc : Int) + off = (tgt : Int)) (kt : y ≤ x → rW p l e R s m args below meth cd nL D cl A cells slots Q ad c tgt lv st) (kf : ¬ y ≤ x → rW p l e R s m args below meth cd nL D cl A cells slots Q ad c (pc + 3) lv st) : rW p l e R s m args below meth cd nL D cl A cells slots Q ad c pc lv (.int y :: .int x :: st) := fun H locs ls hP hS hl => lv_icmp_ge X.1 X.2.1 hd ht (fun h => kt h H locs ls hP hS hl) (fun h => kf h H locs ls hP hS hl)
theorem r_if_gt (X : rX p s m args cd cc nL own Ts D cl tys A) {x : Int32} {off : Int} (tgt : Nat) (hd : decode cc pc = .ok (.ifCond .gt off, 3)) (ht : (pc : Int) + off = (tgt : Int)) (kt : 0 < x → rW p l e R s m args below meth cd nL D cl A cells slots Q ad c tgt lv st) (kf : ¬ 0 < x → rW p l e R s m args below meth cd nL D cl A cells slots Q ad c (pc + 3) lv st) : rW p l e R s m args below meth cd nL D cl A cells slots Q ad c pc lv (.int x :: st) := fun H locs ls hP hS hl => lv_if_gt X.1 X.2.1 hd ht (fun h => kt h H locs ls hP hS hl) (fun h => kf h H locs ls hP hS hl)
theorem r_icmp_gt (X : rX p s m args cd cc nL own Ts D cl tys A) {x y : Int32} {off : Int} (tgt : Nat) (hd : decode cc pc = .ok (.if_icmp .gt off, 3)) (ht : (pc : Int) + off = (tgt : Int)) (kt : y < x → rW p l e R s m args below meth cd nL D cl A cells slots Q ad c tgt lv st) (kf : ¬ y < x → rW p l e R s m args below meth cd nL D cl A cells slots Q ad c (pc + 3) lv st) : rW p l e R s m args below meth cd nL D cl A cells slots Q ad c pc lv (.int y :: .int x :: st) := fun H locs ls hP hS hl => lv_icmp_gt X.1 X.2.1 hd ht (fun h => kt h H locs ls hP hS hl) (fun h => kf h H locs ls hP hS hl)
theorem r_if_le (X : rX p s m args cd cc nL own Ts D cl tys A) {x : Int32} {off : Int} (tgt : Nat) (hd : decode cc pc = .ok (.ifCond .le off, 3)) (ht : (pc : Int) + off = (tgt : Int)) (kt : x ≤ 0 → rW p l e R s m args below meth cd nL D cl A cells slots Q ad c tgt lv st) (kf : ¬ x ≤ 0 → rW p l e R s m args below meth cd nL D cl A cells slots Q ad c (pc + 3) lv st) : rW p l e R s m args below meth cd nL D cl A cells slots Q ad c pc lv (.int x :: st) := fun H locs ls hP hS hl => lv_if_le X.1 X.2.1 hd ht (fun h => kt h H locs ls hP hS hl) (fun h => kf h H locs ls hP hS hl)
theorem r_icmp_le (X : rX p s m args cd cc nL own Ts D cl tys A) {x y : Int32} {off : Int} (tgt : Nat) (hd : decode cc pc = .ok (.if_icmp .le off, 3)) (ht : (pc : Int) + off = (tgt : Int)) (kt : x ≤ y → rW p l e R s m args below meth cd nL D cl A cells slots Q ad c tgt lv st) (kf : ¬ x ≤ y → rW p l e R s m args below meth cd nL D cl A cells slots Q ad c (pc + 3) lv st) : rW p l e R s m args below meth cd nL D cl A cells slots Q ad c pc lv (.int y :: .int x :: st) := fun H locs ls hP hS hl => lv_icmp_le X.1 X.2.1 hd ht (fun h => kt h H locs ls hP hS hl) (fun h => kf h H locs ls hP hS hl)
theorem r_acmp_eq (X : rX p s m args cd cc nL own Ts D cl tys A) {x y : Option Nat} {off : Int} (tgt : Nat) (hd : decode cc pc = .ok (.if_acmp .eq off, 3)) (ht : (pc : Int) + off = (tgt : Int)) (kt : x = y → rW p l e R s m args below meth cd nL D cl A cells slots Q ad c tgt lv st) (kf : ¬ x = y → rW p l e R s m args below meth cd nL D cl A cells slots Q ad c (pc + 3) lv st) : rW p l e R s m args below meth cd nL D cl A cells slots Q ad c pc lv (va_rf y :: va_rf x :: st) := fun H locs ls hP hS hl => lv_acmp_eq X.1 X.2.1 hd ht (fun h => kt h H locs ls hP hS hl) (fun h => kf h H locs ls hP hS hl)
theorem r_acmp_ne (X : rX p s m args cd cc nL own Ts D cl tys A) {x y : Option Nat} {off : Int} (tgt : Nat) (hd : decode cc pc = .ok (.if_acmp .ne off, 3)) (ht : (pc : Int) + off = (tgt : Int)) (kt : ¬ x = y → rW p l e R s m args below meth cd nL D cl A cells slots Q ad c tgt lv st) (kf : x = y → rW p l e R s m args below meth cd nL D cl A cells slots Q ad c (pc + 3) lv st) : rW p l e R s m args below meth cd nL D cl A cells slots Q ad c pc lv (va_rf y :: va_rf x :: st) := fun H locs ls hP hS hl => lv_acmp_ne X.1 X.2.1 hd ht (fun h => kt h H locs ls hP hS hl) (fun h => kf h H locs ls hP hS hl)
theorem r_ifnull (X : rX p s m args cd cc nL own Ts D cl tys A) {x : Nat} {off : Int} (hd : decode cc pc = .ok (.ifnull off, 3)) (kk : rW p l e R s m args below meth cd nL D cl A cells slots Q ad c (pc + 3) lv st) : rW p l e R s m args below meth cd nL D cl A cells slots Q ad c pc lv (.ref x :: st) := fun H locs ls hP hS hl => lv_ifnull X.1 X.2.1 hd (kk H locs ls hP hS hl)
theorem r_ifnullN (X : rX p s m args cd cc nL own Ts D cl tys A) {off : Int} (tgt : Nat) (hd : decode cc pc = .ok (.ifnull off, 3)) (ht : (pc : Int) + off = (tgt : Int)) (kk : rW p l e R s m args below meth cd nL D cl A cells slots Q ad c tgt lv st) : rW p l e R s m args below meth cd nL D cl A cells slots Q ad c pc lv (.null :: st) := fun H locs ls hP hS hl => lv_ifnullN X.1 X.2.1 hd ht (kk H locs ls hP hS hl)
theorem r_ifnonnull (X : rX p s m args cd cc nL own Ts D cl tys A) {x : Nat} {off : Int} (tgt : Nat) (hd : decode cc pc = .ok (.ifnonnull off, 3)) (ht : (pc : Int) + off = (tgt : Int)) (kk : rW p l e R s m args below meth cd nL D cl A cells slots Q ad c tgt lv st) : rW p l e R s m args below meth cd nL D cl A cells slots Q ad c pc lv (.ref x :: st) := fun H locs ls hP hS hl => lv_ifnonnull X.1 X.2.1 hd ht (kk H locs ls hP hS hl)
theorem r_ifnonnullN (X : rX p s m args cd cc nL own Ts D cl tys A) {off : Int} (hd : decode cc pc = .ok (.ifnonnull off, 3)) (kk : rW p l e R s m args below meth cd nL D cl A cells slots Q ad c (pc + 3) lv st) : rW p l e R s m args below meth cd nL D cl A cells slots Q ad c pc lv (.null :: st) := fun H locs ls hP hS hl => lv_ifnonnullN X.1 X.2.1 hd (kk H locs ls hP hS hl)
theorem r_tableIn (X : rX p s m args cd cc nL own Ts D cl tys A) {dflt lo hi : Int} {offs : Array Int} {len : Nat} {x : Int32} {off : Int} (tgt : Nat) (hd : decode cc pc = .ok (.tableswitch dflt lo hi offs, len)) (h1 : ¬ x.toInt < lo) (h2 : ¬ hi < x.toInt) (ho : offs[(x.toInt - lo).toNat]? = some off) (ht : (pc : Int) + off = (tgt : Int)) (kk : rW p l e R s m args below meth cd nL D cl A cells slots Q ad c tgt lv st) : rW p l e R s m args below meth cd nL D cl A cells slots Q ad c pc lv (.int x :: st) := fun H locs ls hP hS hl => lv_tableIn X.1 X.2.1 hd h1 h2 ho ht (kk H locs ls hP hS hl)
theorem r_tableOut (X : rX p s m args cd cc nL own Ts D cl tys A) {dflt lo hi : Int} {offs : Array Int} {len : Nat} {x : Int32} (tgt : Nat) (hd : decode cc pc = .ok (.tableswitch dflt lo hi offs, len)) (h : x.toInt < lo ∨ hi < x.toInt) (ht : (pc : Int) + dflt = (tgt : Int)) (kk : rW p l e R s m args below meth cd nL D cl A cells slots Q ad c tgt lv st) : rW p l e R s m args below meth cd nL D cl A cells slots Q ad c pc lv (.int x :: st) := fun H locs ls hP hS hl => lv_tableOut X.1 X.2.1 hd h ht (kk H locs ls hP hS hl)
theorem r_topi {x : Int32} (k : ∀ y : Int32, y = x → rW p l e R s m args below meth cd nL D cl A cells slots Q ad c pc lv (.int y :: st)) : rW p l e R s m args below meth cd nL D cl A cells slots Q ad c pc lv (.int x :: st) := k x rfl
theorem r_top {x y : Int32} (h : x = y) (k : rW p l e R s m args below meth cd nL D cl A cells slots Q ad c pc lv (.int y :: st)) : rW p l e R s m args below meth cd nL D cl A cells slots Q ad c pc lv (.int x :: st) := h ▸ k
theorem r_lv (js : List Nat) (lv' : List (Nat × Value)) (hl9 : lv_pick lv js = lv') (kk : rW p l e R s m args below meth cd nL D cl A cells slots Q ad c pc lv' st) : rW p l e R s m args below meth cd nL D cl A cells slots Q ad c pc lv st := fun H locs ls hP hS hl => kk H locs ls hP hS (lv_sub hl js hl9)
theorem r_c (c' : rC) (h : c = c') (kk : rW p l e R s m args below meth cd nL D cl A cells slots Q ad c' pc lv st) : rW p l e R s m args below meth cd nL D cl A cells slots Q ad c pc lv st := h ▸ kk
theorem r_drop (ad' : Nat → Nat) (c' : rC) (hc : ∀ n x, c' n = some x → c n = some x ∧ ad' n = ad n) (kk : rW p l e R s m args below meth cd nL D cl A cells slots Q ad' c' pc lv st) : rW p l e R s m args below meth cd nL D cl A cells slots Q ad c pc lv st := fun H locs ls hP hS hl => kk H locs ls (hP.sub hc) hS hl
theorem r_get (X : rX p s m args cd cc nL own Ts D cl tys A) {ci : Nat} {C : String} {T : u_T} {N : Nat} {ty : Nat → FieldType} (K : rF Ts cl ci C T N ty) (k : Nat) (hk : k < N) {n i : Nat} {fs : List Value} {v : Value} {ref : String} (hw : Cond.fieldLink own i ref (T k).2.1 (T k).2.2.1 ∈ Ts) (hr : (T k).1 = ref) (hc : c n = some (.inr (ci, fs))) (hv : fs[k]? = some v) (hd : decode cc pc = .ok (.getfield i, 3)) (kk : rW p l e R s m args below meth cd nL D cl A cells slots Q ad c (pc + 3) lv (v :: st)) : rW p l e R s m args below meth cd nL D cl A cells slots Q ad c pc lv (.ref (ad n) :: st) := fun H locs ls hP hS hl =>
  va_get (ws := [(ad n, .inr (ci, fs))]) X.1 X.2.1 X.2.2.2.2.1 K.1 X.2.2.2.1 X.2.2.2.2.2.1 (fun j q h => by
    cases j with
    | zero => cases h; exact (hP.1 n _ hc).1
    | succ j => cases h) 0 rfl K.2.1 k hk (X.2.2.2.2.1 _ hw) (fun x h => hr ▸ h) hv hd (kk H locs ls hP hS hl)
theorem r_put (X : rX p s m args cd cc nL own Ts D cl tys A) {ci : Nat} {C : String} {T : u_T} {N : Nat} {ty : Nat → FieldType} (K : rF Ts cl ci C T N ty) (k : Nat) (hk : k < N) {n i : Nat} {fs : List Value} {v : Value} {ref : String} (hw : Cond.fieldLink own i ref (T k).2.1 (T k).2.2.1 ∈ Ts) (hr : (T k).1 = ref) (hc : c n = some (.inr (ci, fs))) (hfin : (T k).2.2.2 = false) (hn : narrow (ty k) v = v) (hv : fits (ty k) v = true) (hlen : k < fs.length) (fs' : List Value) (hfs : fs.set k v = fs') (c' : rC) (hc' : va_up c n (some (.inr (ci, fs'))) = c') (hd : decode cc pc = .ok (.putfield i, 3)) (kk : rW p l e R s m args below meth cd nL D cl A cells slots Q ad c' (pc + 3) lv st) : rW p l e R s m args below meth cd nL D cl A cells slots Q ad c pc lv (v :: .ref (ad n) :: st) := by
  intro H locs ls hP hS hl
  subst hr; subst hfs; subst hc'
  obtain ⟨hx, hb, hml, hown, hts, hK, hA⟩ := X
  obtain ⟨hin, hcl, hty, hnm⟩ := K
  have hap := va_apart (own := own) hts hin ty hty hnm hK hcl
  obtain ⟨r, h1, cell, q1, q2, q3, q4⟩ := (hP.1 n _ hc).1
  have hr : r = (C, T, N) := Option.some.inj (h1.symm.trans hcl)
  subst hr
  obtain ⟨hSl, hfc, kC, hkC, hkind⟩ := hK.1 ci _ hcl
  obtain ⟨cf, kf, fi, f, hi, hsl⟩ := hSl k hk
  have hlay := hts _ (hin _ (u_in_lay hk))
  unfold u_lay at hlay
  rw [if_neg (by rw [hfin]; decide)] at hlay
  have hst := (u_facts hfc hkC (u_lays hts hin hk) hi).1
  have h6 := u_store hfc hkC hkind hlay hi (hty k hk) hn hv
  refine W.putK hx hb (f := f) ⟨hown, hts _ hw, ⟨_, _, _, hi⟩, hst⟩ (by rw [q2]; exact h6) q1 q3 (by rw [hsl]; exact k2_hasslot (q4 k hk)) rfl rfl hd fun H' e1 e2 e3 => ?_
  rw [hsl] at e1 ⊢
  exact kk H' _ ls (hP.put hc ⟨_, hcl, t_OB.to (V := updV (vp_V fs) k v) ⟨_, e1, q2, q3, t_set q4 hap hk v⟩ (fun j _ => vp_updV_set hlen v j)⟩ e3) (hS.put e2 e3 (hP.1 n _ hc).2) hl
theorem r_putF (X : rX p s m args cd cc nL own Ts D cl tys A) {ci : Nat} {C : String} {T : u_T} {N : Nat} {ty : Nat → FieldType} (K : rF Ts cl ci C T N ty) (k : Nat) (hk : k < N) {n i : Nat} {fs : List Value} {v : Value} {ref : String} (hw : Cond.fieldLink own i ref (T k).2.1 (T k).2.2.1 ∈ Ts) (hr : (T k).1 = ref) (hc : c n = some (.inr (ci, fs))) (hfin : (T k).2.2.2 = true) (hdecl : (T k).1 = own) (hin2 : meth.name = "<init>") (hn : narrow (ty k) v = v) (hv : fits (ty k) v = true) (hlen : k < fs.length) (fs' : List Value) (hfs : fs.set k v = fs') (c' : rC) (hc' : va_up c n (some (.inr (ci, fs'))) = c') (hd : decode cc pc = .ok (.putfield i, 3)) (kk : rW p l e R s m args below meth cd nL D cl A cells slots Q ad c' (pc + 3) lv st) : rW p l e R s m args below meth cd nL D cl A cells slots Q ad c pc lv (v :: .ref (ad n) :: st) := by
  intro H locs ls hP hS hl
  subst hr; subst hfs; subst hc'
  obtain ⟨hx, hb, hml, hown, hts, hK, hA⟩ := X
  obtain ⟨hin, hcl, hty, hnm⟩ := K
  have hap := va_apart (own := own) hts hin ty hty hnm hK hcl
  obtain ⟨r, h1, cell, q1, q2, q3, q4⟩ := (hP.1 n _ hc).1
  have hr : r = (C, T, N) := Option.some.inj (h1.symm.trans hcl)
  subst hr
  obtain ⟨hSl, hfc, kC, hkC, hkind⟩ := hK.1 ci _ hcl
  obtain ⟨cf, kf, fi, f, hi, hsl⟩ := hSl k hk
  have hlay := hts _ (hin _ (u_in_lay hk))
  unfold u_lay at hlay
  rw [if_pos hfin] at hlay
  have hst := (u_facts hfc hkC (u_lays hts hin hk) hi).1
  have hcf : m.cls = cf := by
    obtain ⟨_, _, c', _, _, _, -, -, hf', -, -, -, hown2, -⟩ := Cond.laysFinal_spec hlay
    have e1 : c' = cf := by have := hi.symm.trans hf'; simp at this; exact this.1.symm
    rw [hdecl] at hown2
    rw [← e1]; exact Option.some.inj (hown.symm.trans hown2)
  have h6 := u_fits hfc hkC hkind (Or.inr hlay) hi (hty k hk) hn hv
  refine W.putFinK hx hb hown (hts _ hw) hi hst hcf hin2 (by rw [q2]; exact h6) q1 q3 (by rw [hsl]; exact k2_hasslot (q4 k hk)) rfl rfl hd fun H' e1 e2 e3 => ?_
  rw [hsl] at e1 ⊢
  exact kk H' _ ls (hP.put hc ⟨_, hcl, t_OB.to (V := updV (vp_V fs) k v) ⟨_, e1, q2, q3, t_set q4 hap hk v⟩ (fun j _ => vp_updV_set hlen v j)⟩ e3) (hS.put e2 e3 (hP.1 n _ hc).2) hl
theorem rp.one {H : Heap} (hP : rp D cl A ad c H) {n : Nat} {x : va_E} (hc : c n = some x) : va_P D cl [(ad n, x)] H := fun j q h => by
  cases j with
  | zero => cases h; exact (hP.1 n _ hc).1
  | succ j => cases h
theorem r_iald (X : rX p s m args cd cc nL own Ts D cl tys A) (t : Nat) {n N : Nat} {cA : ClassId} {f : Nat → Int32} {i v : Int32} (hc : c n = some (.inl (cA, N, .inl f))) (ht : tys[t]? = some (cA, .int)) (hi : vp_in i N) (hv : f i.toNatClampNeg = v) (hd : decode cc pc = .ok (.iaload, 1)) (kk : rW p l e R s m args below meth cd nL D cl A cells slots Q ad c (pc + 1) lv (.int v :: st)) : rW p l e R s m args below meth cd nL D cl A cells slots Q ad c pc lv (.int i :: .ref (ad n) :: st) := fun H locs ls hP hS hl => va_iald X.1 X.2.1 X.2.2.2.2.2.1 (hP.one hc) 0 t rfl ht hi hd (by rw [hv]; exact kk H locs ls hP hS hl)
theorem r_zald (X : rX p s m args cd cc nL own Ts D cl tys A) (t : Nat) {n N : Nat} {cA : ClassId} {f : Nat → Int32} {i v : Int32} (hc : c n = some (.inl (cA, N, .inl f))) (ht : tys[t]? = some (cA, .boolean)) (hi : vp_in i N) (hv : f i.toNatClampNeg = v) (hd : decode cc pc = .ok (.baload, 1)) (kk : rW p l e R s m args below meth cd nL D cl A cells slots Q ad c (pc + 1) lv (.int v :: st)) : rW p l e R s m args below meth cd nL D cl A cells slots Q ad c pc lv (.int i :: .ref (ad n) :: st) := fun H locs ls hP hS hl => va_zald X.1 X.2.1 X.2.2.2.2.2.1 (hP.one hc) 0 t rfl ht hi hd (by rw [hv]; exact kk H locs ls hP hS hl)
theorem r_aald (X : rX p s m args cd cc nL own Ts D cl tys A) (t : Nat) {n N : Nat} {cA : ClassId} {C : String} {f : Nat → Option Nat} {i : Int32} {v : Value} (hc : c n = some (.inl (cA, N, .inr (.inr (.inr (.inr f)))))) (ht : tys[t]? = some (cA, .object C)) (hi : vp_in i N) (hv : va_rf (f i.toNatClampNeg) = v) (hd : decode cc pc = .ok (.aaload, 1)) (kk : rW p l e R s m args below meth cd nL D cl A cells slots Q ad c (pc + 1) lv (v :: st)) : rW p l e R s m args below meth cd nL D cl A cells slots Q ad c pc lv (.int i :: .ref (ad n) :: st) := fun H locs ls hP hS hl => va_aldq X.1 X.2.1 X.2.2.2.2.2.1 (hP.one hc) 0 t rfl ht hi hd (by rw [hv]; exact kk H locs ls hP hS hl)
theorem r_alen (X : rX p s m args cd cc nL own Ts D cl tys A) (t : Nat) {n : Nat} {cA : ClassId} {x : vp_A} {ty : FieldType} {v : Int32} (hc : c n = some (.inl (cA, x))) (ht : tys[t]? = some (cA, ty)) (hv : Int32.ofNat x.1 = v) (hd : decode cc pc = .ok (.arraylength, 1)) (kk : rW p l e R s m args below meth cd nL D cl A cells slots Q ad c (pc + 1) lv (.int v :: st)) : rW p l e R s m args below meth cd nL D cl A cells slots Q ad c pc lv (.ref (ad n) :: st) := fun H locs ls hP hS hl => va_alen X.1 X.2.1 X.2.2.2.2.2.1 (hP.one hc) 0 t rfl ht hv hd (kk H locs ls hP hS hl)
theorem r_iast (X : rX p s m args cd cc nL own Ts D cl tys A) (t : Nat) {n N : Nat} {cA : ClassId} {f f' : Nat → Int32} {i x : Int32} (hc : c n = some (.inl (cA, N, .inl f))) (ht : tys[t]? = some (cA, .int)) (hi : vp_in i N) (hf : upd f i.toNatClampNeg x = f') (c' : rC) (hc' : va_up c n (some (.inl (cA, N, .inl f'))) = c') (hd : decode cc pc = .ok (.iastore, 1)) (kk : rW p l e R s m args below meth cd nL D cl A cells slots Q ad c' (pc + 1) lv st) : rW p l e R s m args below meth cd nL D cl A cells slots Q ad c pc lv (.int x :: .int i :: .ref (ad n) :: st) := by
  intro H locs ls hP hS hl
  subst hf; subst hc'
  refine W.iast X.1 X.2.1 (hP.1 n _ hc).1 ((X.2.2.2.2.2.1.2 t _ ht).1 N (fun j => .int (f j))) (fun q => by cases q) (by show ¬ (i < 0 ∨ (arrV _ _ _).slots.size ≤ _); rw [arrV_size]; exact hi) rfl rfl hd fun H1 e1 z oq => ?_
  refine kk H1 _ ls (hP.put hc ?_ oq) (hS.put z oq (hP.1 n _ hc).2) hl
  show H1[ad n]? = some (vp_cell _ _)
  rw [e1]
  rw [vp_cell_i, vp_cell_i, arrV_store]
  congr 2
  funext q
  by_cases hq : q = i.toNatClampNeg
  · subst hq
    simp [updV, upd]
  · simp [updV, upd, hq]
theorem r_zast (X : rX p s m args cd cc nL own Ts D cl tys A) (t : Nat) {n N : Nat} {cA : ClassId} {f f' : Nat → Int32} {i x : Int32} (hc : c n = some (.inl (cA, N, .inl f))) (ht : tys[t]? = some (cA, .boolean)) (hi : vp_in i N) (hx : narrow .boolean (.int x) = .int x) (hf : upd f i.toNatClampNeg x = f') (c' : rC) (hc' : va_up c n (some (.inl (cA, N, .inl f'))) = c') (hd : decode cc pc = .ok (.bastore, 1)) (kk : rW p l e R s m args below meth cd nL D cl A cells slots Q ad c' (pc + 1) lv st) : rW p l e R s m args below meth cd nL D cl A cells slots Q ad c pc lv (.int x :: .int i :: .ref (ad n) :: st) := by
  intro H locs ls hP hS hl
  subst hf; subst hc'
  refine W.zast X.1 X.2.1 (hP.1 n _ hc).1 ((X.2.2.2.2.2.1.2 t _ ht).1 N (fun j => .int (f j))) (fun q => by cases q) (by show ¬ (i < 0 ∨ (arrV _ _ _).slots.size ≤ _); rw [arrV_size]; exact hi) rfl rfl hd fun H1 e1 z oq => ?_
  refine kk H1 _ ls (hP.put hc ?_ oq) (hS.put z oq (hP.1 n _ hc).2) hl
  show H1[ad n]? = some (vp_cell _ _)
  rw [e1, hx]
  rw [vp_cell_i, vp_cell_i, arrV_store]
  congr 2
  funext q
  by_cases hq : q = i.toNatClampNeg
  · subst hq
    simp [updV, upd]
  · simp [updV, upd, hq]
theorem r_aast (X : rX p s m args cd cc nL own Ts D cl tys A) (t : Nat) {n N n2 ci : Nat} {cA : ClassId} {r : vw_C} {vs : List Value} {f f' : Nat → Option Nat} {i : Int32} (hc : c n = some (.inl (cA, N, .inr (.inr (.inr (.inr f)))))) (ht : tys[t]? = some (cA, .object r.1)) (hc2 : c n2 = some (.inr (ci, vs))) (hcl : cl[ci]? = some r) (hi : vp_in i N) (hf : va_up f i.toNatClampNeg (some (ad n2)) = f') (c' : rC) (hc' : va_up c n (some (.inl (cA, N, .inr (.inr (.inr (.inr f')))))) = c') (hd : decode cc pc = .ok (.aastore, 1)) (kk : rW p l e R s m args below meth cd nL D cl A cells slots Q ad c' (pc + 1) lv st) : rW p l e R s m args below meth cd nL D cl A cells slots Q ad c pc lv (.ref (ad n2) :: .int i :: .ref (ad n) :: st) := by
  intro H locs ls hP hS hl
  subst hf; subst hc'
  have hlt : i.toNatClampNeg < N := Nat.not_le.mp fun q => hi (Or.inr q)
  have h0 : ¬ i < 0 := fun q => hi (Or.inl q)
  obtain ⟨r', hr', cellV, g1, g2, g3, -⟩ := (hP.1 n2 _ hc2).1
  have hcls := (X.2.2.2.2.2.1.1 ci r hcl).2
  obtain ⟨kA, comp, k1, k2, k3, -⟩ := (X.2.2.2.2.2.1.2 t _ ht).2
  have hcomp : comp = D.1 ci := Option.some.inj (k3.symm.trans hcls.1)
  subst hcomp
  obtain ⟨kC, hkC, -⟩ := hcls.2
  refine W.aast X.1 X.2.1 (hP.1 n _ hc).1 (fun q h => by cases h) (fun h => by cases h) k1 k2 rfl hkC ⟨h0, by show _ < (arrV _ _ _).slots.size; rw [arrV_size]; exact hlt⟩ g1 (fun q h => by rw [g3] at h; cases h) (by rw [g2]; exact hkC) (by rw [g2]; exact va_assign hcls) rfl rfl hd fun H1 e1 z oq => ?_
  refine kk H1 _ ls (hP.put hc ?_ oq) (hS.put z oq (hP.1 n _ hc).2) hl
  show H1[ad n]? = some (vp_cell _ _)
  rw [e1]
  rw [vp_cell_q, vp_cell_q, arrV_store]
  congr 2
  funext q
  by_cases hq : q = i.toNatClampNeg
  · subst hq
    simp [updV, va_up, va_rf]
  · simp [updV, va_up, hq]
end RROWS
-- ===== contracts: a method's end tells places and contents; calls =====
/-- words that are no good words (they are carried by hand): nests, casts -/
def rNk : Cond → Bool
  | .methodLinkNest _ _ _ _ => true
  | .fieldLinkNest _ _ _ _ _ _ => true
  | .castable _ _ => true
  | .arrayOver (.object _) => true
  | _ => false
/-- the words of arrays of arrays -/
def rAW : List Cond := [.arrayOver (.array .int), .arrayOver (.array .boolean)]
theorem rAW_warm {s U : State} (hA : s.vm.Alike U.vm) (h : ∀ w ∈ rAW, w.before #[] s = true) : ∀ w ∈ rAW, w.before #[] U = true := by
  intro w hw
  have h1 := h w hw
  simp only [rAW, List.mem_cons, List.not_mem_nil, or_false] at hw
  rcases hw with rfl | rfl
  · exact Stand.arrayOver_alikeB (o := none) (idx := []) (args := #[]) (first := s) hA h1
  · exact Stand.arrayOver_alikeB (o := none) (idx := []) (args := #[]) (first := s) hA h1
def rN (NW : List Cond) (U : State) : Prop := ((∀ w ∈ NW, rNk w = true) ∧ ∀ w ∈ rAW, w.before #[] U = true) ∧ ∀ w ∈ NW, va_Nw w U
theorem rN.warm {NW : List Cond} {s U : State} (hW : s.WarmedH U.vm) (h : rN NW s) : rN NW U := by
  refine ⟨⟨h.1.1, rAW_warm hW.alike h.1.2⟩, fun w hw => ?_⟩
  have h1 := h.1.1 w hw
  have h2 := h.2 w hw
  cases w <;> first | exact absurd (show (false = true) from h1) (by decide) | exact va_Nw.warmM hW h2 | exact va_Nw.warmF hW h2 | exact va_Nw.warmC hW h2 | (rename_i t9; cases t9 <;> first | exact absurd (show (false = true) from h1) (by decide) | exact va_AO.moved hW.alike h2)
theorem rN.same {NW : List Cond} {u U : State} (hv : u.vm = U.vm) (h : rN NW u) : rN NW U := by
  refine ⟨⟨h.1.1, rAW_warm (hv ▸ Vm.Alike.refl u.vm) h.1.2⟩, fun w hw => ?_⟩
  have h1 := h.1.1 w hw
  have h2 := h.2 w hw
  cases w <;> first | exact absurd (show (false = true) from h1) (by decide) | exact va_Nw.same rfl hv h2 | (rename_i t9; cases t9 <;> first | exact absurd (show (false = true) from h1) (by decide) | exact va_AO.moved (hv ▸ Vm.Alike.refl u.vm) h2)
/-- a method's start: places, contents, the classes, the words by hand -/
def rP (D : va_G) (cl : List vw_C) (tys : List (ClassId × FieldType)) (NW : List Cond) (ad : Nat → Nat) (c : rC) (sz : Nat) (U : State) : Prop := U.heap.size = sz ∧ rp D cl (fun _ => True) ad c U.heap ∧ va_K D cl tys U ∧ rN NW U
abbrev rU : Type := (Nat → Nat) × rC
def rMi (l : Launch) (D : va_G) (cl : List vw_C) (tys : List (ClassId × FieldType)) (NW : List Cond) (y : MethodName) (ws : List Cond) (rm : Room) (args : List Value) (ad : Nat → Nat) (c : rC) (post : Int32 → (Nat → Nat) → rC → Prop) : Prop :=
  ∀ sz : Nat, Met l y ws rm (va_Pc args (rP D cl tys NW ad c sz)) (va_Qi (fun r (u : rU) => post r u.1 u.2) (fun u t => rp D cl (rA ad c sz) u.1 u.2 t.heap) (rA ad c sz)) rm.cells rm.slots (rA ad c sz)
def rMl (l : Launch) (D : va_G) (cl : List vw_C) (tys : List (ClassId × FieldType)) (NW : List Cond) (y : MethodName) (ws : List Cond) (rm : Room) (args : List Value) (ad : Nat → Nat) (c : rC) (post : Int64 → (Nat → Nat) → rC → Prop) : Prop :=
  ∀ sz : Nat, Met l y ws rm (va_Pc args (rP D cl tys NW ad c sz)) (va_Ql (fun r (u : rU) => post r u.1 u.2) (fun u t => rp D cl (rA ad c sz) u.1 u.2 t.heap) (rA ad c sz)) rm.cells rm.slots (rA ad c sz)
def rMd (l : Launch) (D : va_G) (cl : List vw_C) (tys : List (ClassId × FieldType)) (NW : List Cond) (y : MethodName) (ws : List Cond) (rm : Room) (args : List Value) (ad : Nat → Nat) (c : rC) (post : UInt64 → (Nat → Nat) → rC → Prop) : Prop :=
  ∀ sz : Nat, Met l y ws rm (va_Pc args (rP D cl tys NW ad c sz)) (va_Qd (fun r (u : rU) => post r u.1 u.2) (fun u t => rp D cl (rA ad c sz) u.1 u.2 t.heap) (rA ad c sz)) rm.cells rm.slots (rA ad c sz)
def rMv (l : Launch) (D : va_G) (cl : List vw_C) (tys : List (ClassId × FieldType)) (NW : List Cond) (y : MethodName) (ws : List Cond) (rm : Room) (args : List Value) (ad : Nat → Nat) (c : rC) (post : (Nat → Nat) → rC → Prop) : Prop :=
  ∀ sz : Nat, Met l y ws rm (va_Pc args (rP D cl tys NW ad c sz)) (va_Qv (fun (u : rU) => post u.1 u.2) (fun u t => rp D cl (rA ad c sz) u.1 u.2 t.heap) (rA ad c sz)) rm.cells rm.slots (rA ad c sz)
def rMq (l : Launch) (D : va_G) (cl : List vw_C) (tys : List (ClassId × FieldType)) (NW : List Cond) (y : MethodName) (ws : List Cond) (rm : Room) (args : List Value) (ad : Nat → Nat) (c : rC) (post : Option Nat → (Nat → Nat) → rC → Prop) : Prop :=
  ∀ sz : Nat, Met l y ws rm (va_Pc args (rP D cl tys NW ad c sz)) (va_Qq (fun r (u : rU) => post r u.1 u.2) (fun u t => rp D cl (rA ad c sz) u.1 u.2 t.heap) (rA ad c sz)) rm.cells rm.slots (rA ad c sz)
theorem rP.blind {D : va_G} {cl : List vw_C} {tys : List (ClassId × FieldType)} {NW : List Cond} {ad : Nat → Nat} {c : rC} {sz : Nat} {av : List Value} : FrameBlind (va_Pc av (rP D cl tys NW ad c sz)) := fun a U g mk q => by
  obtain ⟨q0, q1, qP, qK, qN⟩ := q
  exact ⟨q0, q1, qP, va_K.moved (u := U) (U := U.calling g mk a) (Vm.Alike.refl U.vm) qK, qN.same (u := U) (U := U.calling g mk a) rfl⟩
theorem rP.at {D : va_G} {cl : List vw_C} {tys : List (ClassId × FieldType)} {NW : List Cond} {A : Nat → Prop} {ad : Nat → Nat} {c : rC} {s U : State} {H : Heap} (hU : U.heap = H) (hW : s.WarmedH U.vm) (hP : rp D cl A ad c H) (hK : va_K D cl tys s) (hN : rN NW s) : rP D cl tys NW ad c H.size U :=
  ⟨by rw [hU], by rw [hU]; exact hP.mono (fun _ _ _ => trivial), va_K.moved hW.alike hK, hN.warm hW⟩
theorem rA.in {D : va_G} {cl : List vw_C} {A : Nat → Prop} {ad : Nat → Nat} {c : rC} {H0 H : Heap} {locs : List Loc} (hP : rp D cl A ad c H) (hS : va_S A H0 H locs) (hA : ∀ q, H0.size ≤ q → A q) : ∀ q, rA ad c H.size q → A q := fun q h => by
  rcases h with ⟨n, h1, rfl⟩ | h
  · cases e : c n with
    | none => exact absurd e h1
    | some x => exact (hP.1 n x e).2
  · exact hA q (Nat.le_trans hS.1 h)
/-- a method of ours as its callers see it: code and words -/
def rYV (W0 : List Cond) (y : MethodName) (bytes : ByteArray) (maxL : Nat) (ret : Option FieldType) (C : String) (n : Nat) : Prop :=
  Cond.code y bytes maxL ret ∈ W0 ∧ Cond.instanceMethod y ∈ W0 ∧ Cond.selects C y y ∈ W0 ∧ Cond.initialized C ∈ W0 ∧ y.cls = C ∧ y.cls ≠ "java/lang/invoke/MethodHandle" ∧ y.cls ≠ "java/lang/invoke/VarHandle" ∧ (parseMethodDescriptor y.desc).map (fun d => d.parameters.length) = some n
def rYS (W0 : List Cond) (y : MethodName) (bytes : ByteArray) (maxL : Nat) (ret : Option FieldType) (n : Nat) : Prop :=
  Cond.code y bytes maxL ret ∈ W0 ∧ Cond.static y ∈ W0 ∧ Cond.initialized y.cls ∈ W0 ∧ y.cls ≠ "java/lang/invoke/MethodHandle" ∧ y.cls ≠ "java/lang/invoke/VarHandle" ∧ (parseMethodDescriptor y.desc).map (fun d => d.parameters.length) = some n
def rYI (W0 : List Cond) (y : MethodName) (bytes : ByteArray) (maxL : Nat) (n : Nat) : Prop :=
  Cond.code y bytes maxL none ∈ W0 ∧ Cond.instanceMethod y ∈ W0 ∧ Cond.initialized y.cls ∈ W0 ∧ y.name = "<init>" ∧ y.cls ≠ "java/lang/invoke/MethodHandle" ∧ y.cls ≠ "java/lang/invoke/VarHandle" ∧ (parseMethodDescriptor y.desc).map (fun d => d.parameters.length) = some n
theorem rY_good {W0 : List Cond} {y : MethodName} {bytes : ByteArray} {maxL : Nat} {ret : Option FieldType} (hG : GoodIn W0 W0) (h : Cond.code y bytes maxL ret ∈ W0) : GoodIn W0 (Cond.code y bytes maxL ret :: W0) := fun w hw => by
  rcases List.mem_cons.mp hw with rfl | hw
  · exact hG _ h
  · exact hG w hw
section RCALL
variable {p : Program} {l : Launch} {e : Env} {R : Room} {s : State} {m : MethodId} {args : Array Value} {below : List Frame} {meth : Method} {cd : Code} {cc : ByteArray} {nL : Nat} {own : String} {W0 : List Cond} {D : va_G} {cl : List vw_C} {tys : List (ClassId × FieldType)} {NW : List Cond} {A : Nat → Prop} {cells slots : Nat} {Q : State → Prop} {ad : Nat → Nat} {c : rC} {pc : Nat} {lv : List (Nat × Value)} {st st0 : List Value} {rm : Room} {y : MethodName} {bytes : ByteArray} {maxL n i : Nat} {ret : Option FieldType} {C : String} {As : List Value}
def rRunQ (p : Program) (l : Launch) (e : Env) (R : Room) (s : State) (m : MethodId) (args : Array Value) (below : List Frame) (meth : Method) (cd : Code) (nL : Nat) (D : va_G) (cl : List vw_C) (A : Nat → Prop) (cells slots : Nat) (ad : Nat → Nat) (c : rC) (pc : Nat) (st0 st : List Value) (rm : Room) (a : Array Value) (Qc : Nat → Array Value → State → Outcome → State → Prop) : Prop :=
  ∀ (H : Heap) (locs : List Loc) (ls : Array Slot), rp D cl A ad c H → va_S A s.heap H locs → ls.size = nL → va_Run p l e R s m args below meth cd H locs cells slots rm.cells rm.slots (F0 m pc ls st0) st (Qc H.size a) (rA ad c H.size)
/-- a call of an instance method on the object of the name n0 -/
theorem r_runV (X : rX p s m args cd cc nL own W0 D cl tys A) (hG : GoodIn W0 W0) (hN : rN NW s) {n0 ci : Nat} {r : vw_C} {fs : List Value} {Qc : Nat → Array Value → State → Outcome → State → Prop} (hM : ∀ sz, Met l y (Cond.code y bytes maxL ret :: W0) rm (va_Pc (Value.ref (ad n0) :: As) (rP D cl tys NW ad c sz)) (Qc sz) rm.cells rm.slots (rA ad c sz)) (Y : rYV W0 y bytes maxL ret C n) (hw : Cond.methodLink own i y ∈ W0) (hc0 : c n0 = some (.inr (ci, fs))) (hcl : cl[ci]? = some r) (hr : r.1 = C) (hn : As.length = n) (hst : st0 = As.reverse ++ .ref (ad n0) :: st) (hR : rm.frames + 1 ≤ R.frames ∧ 8 + (maxL + 11) + rm.locals ≤ R.locals) (hroom : (st.map fun v => v.category).sum ≤ 8) (hf : cells + rm.cells ≤ R.cells ∧ slots + rm.slots ≤ R.slots) (hd : decode cc pc = .ok (.invokevirtual i, 3)) :
    rRunQ p l e R s m args below meth cd nL D cl A cells slots ad c pc st0 st rm (Value.ref (ad n0) :: As).toArray Qc := by
  intro H locs ls hP hS hls
  subst hst; subst hr
  obtain ⟨hx, hb, hml, hown, hts, hK, hA⟩ := X
  obtain ⟨y1, y2, y3, y4, y5⟩ := Y
  have hT : GoodIn W0 (wsV own i r.1 y (Cond.code y bytes maxL ret :: W0)) := fun w h => by
    rcases List.mem_append.mp h with h | h
    · simp only [List.mem_cons, List.not_mem_nil, or_false] at h
      rcases h with rfl | rfl | rfl | rfl
      · exact hG _ hw
      · exact hG _ y2
      · exact hG _ y3
      · exact hG _ y4
    · exact rY_good hG y1 w h
  exact va_runV (As := As) (rest := st) ⟨hx, hb, hml, hown, hts⟩ (hM H.size) (cwV n hts hT rfl rfl rfl y5 hR) ⟨rP.blind, va_recv hK (hP.one hc0) (q0 := 0) hcl rfl, fun U hU hW => ⟨rfl, rP.at hU hW hP hK hN⟩⟩ rfl hn hls rfl (lv_room hroom) hd hf
theorem r_runS (X : rX p s m args cd cc nL own W0 D cl tys A) (hG : GoodIn W0 W0) (hN : rN NW s) {Qc : Nat → Array Value → State → Outcome → State → Prop} (hM : ∀ sz, Met l y (Cond.code y bytes maxL ret :: W0) rm (va_Pc As (rP D cl tys NW ad c sz)) (Qc sz) rm.cells rm.slots (rA ad c sz)) (Y : rYS W0 y bytes maxL ret n) (hw : Cond.methodLink own i y ∈ W0) (hn : As.length = n) (hst : st0 = As.reverse ++ st) (hR : rm.frames + 1 ≤ R.frames ∧ 8 + (maxL + 11) + rm.locals ≤ R.locals) (hroom : (st.map fun v => v.category).sum ≤ 8) (hf : cells + rm.cells ≤ R.cells ∧ slots + rm.slots ≤ R.slots) (hd : decode cc pc = .ok (.invokestatic i, 3)) :
    rRunQ p l e R s m args below meth cd nL D cl A cells slots ad c pc st0 st rm As.toArray Qc := by
  intro H locs ls hP hS hls
  subst hst
  obtain ⟨hx, hb, hml, hown, hts, hK, hA⟩ := X
  obtain ⟨y1, y2, y4, y5⟩ := Y
  have hT : GoodIn W0 (va_wsS own i y (Cond.code y bytes maxL ret :: W0)) := fun w h => by
    rcases List.mem_append.mp h with h | h
    · simp only [List.mem_cons, List.not_mem_nil, or_false] at h
      rcases h with rfl | rfl | rfl
      · exact hG _ hw
      · exact hG _ y2
      · exact hG _ y4
    · exact rY_good hG y1 w h
  exact va_runS (As := As) (rest := st) ⟨hx, hb, hml, hown, hts⟩ (hM H.size) (va_cwS n hts hT rfl rfl rfl y5 hR) ⟨rP.blind, fun U hU hW => ⟨rfl, rP.at hU hW hP hK hN⟩⟩ rfl hn hls rfl (lv_room hroom) hd hf
/-- a static method of a nest mate -/
theorem r_runSN (X : rX p s m args cd cc nL own W0 D cl tys A) (hG : GoodIn W0 W0) (hN : rN NW s) {host : String} {Qc : Nat → Array Value → State → Outcome → State → Prop} (hM : ∀ sz, Met l y (Cond.code y bytes maxL ret :: W0) rm (va_Pc As (rP D cl tys NW ad c sz)) (Qc sz) rm.cells rm.slots (rA ad c sz)) (Y : rYS W0 y bytes maxL ret n) (hw : Cond.methodLinkNest own i y host ∈ NW) (hn : As.length = n) (hst : st0 = As.reverse ++ st) (hR : rm.frames + 1 ≤ R.frames ∧ 8 + (maxL + 11) + rm.locals ≤ R.locals) (hroom : (st.map fun v => v.category).sum ≤ 8) (hf : cells + rm.cells ≤ R.cells ∧ slots + rm.slots ≤ R.slots) (hd : decode cc pc = .ok (.invokestatic i, 3)) :
    rRunQ p l e R s m args below meth cd nL D cl A cells slots ad c pc st0 st rm As.toArray Qc := by
  intro H locs ls hP hS hls
  subst hst
  obtain ⟨hx, hb, hml, hown, hts, hK, hA⟩ := X
  obtain ⟨y1, y2, y4, y5⟩ := Y
  exact va_runSN (As := As) (rest := st) ⟨hx, hb, hml, hown, hts⟩ (hM H.size) ⟨va_cnB n hts (rY_good hG y1) rfl rfl rfl (hN.2 _ hw) (hts _ y4) y5 hR, hts _ y2, trivial⟩ ⟨rP.blind, fun U hU hW => ⟨rfl, rP.at hU hW hP hK hN⟩⟩ rfl hn hls rfl (lv_room hroom) hd hf
theorem r_runI (X : rX p s m args cd cc nL own W0 D cl tys A) (hG : GoodIn W0 W0) (hN : rN NW s) {b : Nat} {Qc : Nat → Array Value → State → Outcome → State → Prop} (hM : ∀ sz, Met l y (Cond.code y bytes maxL none :: W0) rm (va_Pc (Value.ref b :: As) (rP D cl tys NW ad c sz)) (Qc sz) rm.cells rm.slots (rA ad c sz)) (Y : rYI W0 y bytes maxL n) (hw : Cond.methodLink own i y ∈ W0) (hn : As.length = n) (hst : st0 = As.reverse ++ .ref b :: st) (hR : rm.frames + 1 ≤ R.frames ∧ 8 + (maxL + 11) + rm.locals ≤ R.locals) (hroom : (st.map fun v => v.category).sum ≤ 8) (hf : cells + rm.cells ≤ R.cells ∧ slots + rm.slots ≤ R.slots) (hd : decode cc pc = .ok (.invokespecial i, 3)) :
    rRunQ p l e R s m args below meth cd nL D cl A cells slots ad c pc st0 st rm (Value.ref b :: As).toArray Qc := by
  intro H locs ls hP hS hls
  subst hst
  obtain ⟨hx, hb, hml, hown, hts, hK, hA⟩ := X
  obtain ⟨y1, y2, y3, y4, y5⟩ := Y
  exact va_runI (As := As) (rest := st) ⟨hx, hb, hml, hown, hts⟩ (hM H.size) (cwI n hts (rY_good hG y1) rfl rfl rfl (hts _ y3) (hts _ hw) (hts _ y2) y4 y5 hR) ⟨rP.blind, fun U hU hW => ⟨rfl, rP.at hU hW hP hK hN⟩⟩ rfl hn hls rfl (lv_room hroom) hd hf
theorem r_runIN (X : rX p s m args cd cc nL own W0 D cl tys A) (hG : GoodIn W0 W0) (hN : rN NW s) {b : Nat} {host : String} {Qc : Nat → Array Value → State → Outcome → State → Prop} (hM : ∀ sz, Met l y (Cond.code y bytes maxL none :: W0) rm (va_Pc (Value.ref b :: As) (rP D cl tys NW ad c sz)) (Qc sz) rm.cells rm.slots (rA ad c sz)) (Y : rYI W0 y bytes maxL n) (hw : Cond.methodLinkNest own i y host ∈ NW) (hn : As.length = n) (hst : st0 = As.reverse ++ .ref b :: st) (hR : rm.frames + 1 ≤ R.frames ∧ 8 + (maxL + 11) + rm.locals ≤ R.locals) (hroom : (st.map fun v => v.category).sum ≤ 8) (hf : cells + rm.cells ≤ R.cells ∧ slots + rm.slots ≤ R.slots) (hd : decode cc pc = .ok (.invokespecial i, 3)) :
    rRunQ p l e R s m args below meth cd nL D cl A cells slots ad c pc st0 st rm (Value.ref b :: As).toArray Qc := by
  intro H locs ls hP hS hls
  subst hst
  obtain ⟨hx, hb, hml, hown, hts, hK, hA⟩ := X
  obtain ⟨y1, y2, y3, y4, y5⟩ := Y
  exact va_runIN (As := As) (rest := st) ⟨hx, hb, hml, hown, hts⟩ (hM H.size) ⟨va_cnB n hts (rY_good hG y1) rfl rfl rfl (hN.2 _ hw) (hts _ y3) y5 hR, y4, hts _ y2⟩ ⟨rP.blind, fun U hU hW => ⟨rfl, rP.at hU hW hP hK hN⟩⟩ rfl hn hls rfl (lv_room hroom) hd hf
-- behind a call
theorem r_calli (X : rX p s m args cd cc nL own W0 D cl tys A) {a : Array Value} {post : Int32 → (Nat → Nat) → rC → Prop} (hr : rRunQ p l e R s m args below meth cd nL D cl A cells slots ad c pc st0 st rm a (fun sz => va_Qi (fun r (u : rU) => post r u.1 u.2) (fun u t => rp D cl (rA ad c sz) u.1 u.2 t.heap) (rA ad c sz))) (kk : ∀ (r : Int32) (ad' : Nat → Nat) (c' : rC), post r ad' c' → rW p l e R s m args below meth cd nL D cl A (cells + rm.cells) (slots + rm.slots) Q ad' c' (pc + 3) lv (.int r :: st)) : rW p l e R s m args below meth cd nL D cl A cells slots Q ad c pc lv st0 := fun H locs ls hP hS hl => by
  have hF := rA.in hP hS X.2.2.2.2.2.2
  refine va_calli (hr H locs ls hP hS hl.1) hS (fun q _ h => hF q h) hF (fun r u t H1 locs1 ht hvm hw hB hz hk hS1 => ?_)
  rw [ht] at hB
  exact kk r u.1 u.2 hw H1 locs1 ls (hB.mono (fun n _ h => hF _ h)) hS1 hl
theorem r_calll (X : rX p s m args cd cc nL own W0 D cl tys A) {a : Array Value} {post : Int64 → (Nat → Nat) → rC → Prop} (hr : rRunQ p l e R s m args below meth cd nL D cl A cells slots ad c pc st0 st rm a (fun sz => va_Ql (fun r (u : rU) => post r u.1 u.2) (fun u t => rp D cl (rA ad c sz) u.1 u.2 t.heap) (rA ad c sz))) (kk : ∀ (r : Int64) (ad' : Nat → Nat) (c' : rC), post r ad' c' → rW p l e R s m args below meth cd nL D cl A (cells + rm.cells) (slots + rm.slots) Q ad' c' (pc + 3) lv (.long r :: st)) : rW p l e R s m args below meth cd nL D cl A cells slots Q ad c pc lv st0 := fun H locs ls hP hS hl => by
  have hF := rA.in hP hS X.2.2.2.2.2.2
  refine va_calll (hr H locs ls hP hS hl.1) hS (fun q _ h => hF q h) hF (fun r u t H1 locs1 ht hvm hw hB hz hk hS1 => ?_)
  rw [ht] at hB
  exact kk r u.1 u.2 hw H1 locs1 ls (hB.mono (fun n _ h => hF _ h)) hS1 hl
theorem r_calld (X : rX p s m args cd cc nL own W0 D cl tys A) {a : Array Value} {post : UInt64 → (Nat → Nat) → rC → Prop} (hr : rRunQ p l e R s m args below meth cd nL D cl A cells slots ad c pc st0 st rm a (fun sz => va_Qd (fun r (u : rU) => post r u.1 u.2) (fun u t => rp D cl (rA ad c sz) u.1 u.2 t.heap) (rA ad c sz))) (kk : ∀ (r : UInt64) (ad' : Nat → Nat) (c' : rC), post r ad' c' → rW p l e R s m args below meth cd nL D cl A (cells + rm.cells) (slots + rm.slots) Q ad' c' (pc + 3) lv (.double r :: st)) : rW p l e R s m args below meth cd nL D cl A cells slots Q ad c pc lv st0 := fun H locs ls hP hS hl => by
  have hF := rA.in hP hS X.2.2.2.2.2.2
  refine va_calld (hr H locs ls hP hS hl.1) hS (fun q _ h => hF q h) hF (fun r u t H1 locs1 ht hvm hw hB hz hk hS1 => ?_)
  rw [ht] at hB
  exact kk r u.1 u.2 hw H1 locs1 ls (hB.mono (fun n _ h => hF _ h)) hS1 hl
theorem r_callv (X : rX p s m args cd cc nL own W0 D cl tys A) {a : Array Value} {post : (Nat → Nat) → rC → Prop} (hr : rRunQ p l e R s m args below meth cd nL D cl A cells slots ad c pc st0 st rm a (fun sz => va_Qv (fun (u : rU) => post u.1 u.2) (fun u t => rp D cl (rA ad c sz) u.1 u.2 t.heap) (rA ad c sz))) (kk : ∀ (ad' : Nat → Nat) (c' : rC), post ad' c' → rW p l e R s m args below meth cd nL D cl A (cells + rm.cells) (slots + rm.slots) Q ad' c' (pc + 3) lv st) : rW p l e R s m args below meth cd nL D cl A cells slots Q ad c pc lv st0 := fun H locs ls hP hS hl => by
  have hF := rA.in hP hS X.2.2.2.2.2.2
  refine va_callv (hr H locs ls hP hS hl.1) hS (fun q _ h => hF q h) hF (fun u t H1 locs1 ht hvm hw hB hz hk hS1 => ?_)
  rw [ht] at hB
  exact kk u.1 u.2 hw H1 locs1 ls (hB.mono (fun n _ h => hF _ h)) hS1 hl
theorem r_callq (X : rX p s m args cd cc nL own W0 D cl tys A) {a : Array Value} {post : Option Nat → (Nat → Nat) → rC → Prop} (hr : rRunQ p l e R s m args below meth cd nL D cl A cells slots ad c pc st0 st rm a (fun sz => va_Qq (fun r (u : rU) => post r u.1 u.2) (fun u t => rp D cl (rA ad c sz) u.1 u.2 t.heap) (rA ad c sz))) (kk : ∀ (r : Option Nat) (ad' : Nat → Nat) (c' : rC), post r ad' c' → rW p l e R s m args below meth cd nL D cl A (cells + rm.cells) (slots + rm.slots) Q ad' c' (pc + 3) lv (va_rf r :: st)) : rW p l e R s m args below meth cd nL D cl A cells slots Q ad c pc lv st0 := fun H locs ls hP hS hl => by
  have hF := rA.in hP hS X.2.2.2.2.2.2
  refine va_callq (hr H locs ls hP hS hl.1) hS (fun q _ h => hF q h) hF (fun r u t H1 locs1 ht hvm hw hB hz hk hS1 => ?_)
  rw [ht] at hB
  exact kk r u.1 u.2 hw H1 locs1 ls (hB.mono (fun n _ h => hF _ h)) hS1 hl
-- Math.min, Math.max, Object.<init>
theorem r_min (X : rX p s m args cd cc nL own W0 D cl tys A) (hw : Cond.methodLink own i Lib.Math.min.name ∈ W0) (h1 : Cond.static Lib.Math.min.name ∈ W0) (h2 : Cond.initialized "java/lang/Math" ∈ W0) (h3 : Cond.code Lib.Math.min.name Lib.Math.min.code 2 (some .int) ∈ W0) (hR : 1 ≤ R.frames ∧ 21 ≤ R.locals ∧ cells ≤ R.cells ∧ slots ≤ R.slots) (hroom : (st.map fun v => v.category).sum ≤ 8) {x z : Int32} (hd : decode cc pc = .ok (.invokestatic i, 3)) (kk : rW p l e R s m args below meth cd nL D cl A cells slots Q ad c (pc + 3) lv (.int (if z < x then z else x) :: st)) : rW p l e R s m args below meth cd nL D cl A cells slots Q ad c pc lv (.int z :: .int x :: st) := fun H locs ls hP hS hl => by
  have hts := X.2.2.2.2.1
  exact va_mmin X.1 X.2.1 (X.2.2.1.trans hl.1.symm) X.2.2.2.1 (hts _ hw) (hts _ h1) (hts _ h2) (hts _ h3) hR.1 (Nat.le_trans (Nat.add_le_add_right hroom 13) hR.2.1) hR.2.2.1 hR.2.2.2 hd (kk H locs ls hP hS hl)
theorem r_max (X : rX p s m args cd cc nL own W0 D cl tys A) (hw : Cond.methodLink own i Lib.Math.max.name ∈ W0) (h1 : Cond.static Lib.Math.max.name ∈ W0) (h2 : Cond.initialized "java/lang/Math" ∈ W0) (h3 : Cond.code Lib.Math.max.name Lib.Math.max.code 2 (some .int) ∈ W0) (hR : 1 ≤ R.frames ∧ 21 ≤ R.locals ∧ cells ≤ R.cells ∧ slots ≤ R.slots) (hroom : (st.map fun v => v.category).sum ≤ 8) {x z : Int32} (hd : decode cc pc = .ok (.invokestatic i, 3)) (kk : rW p l e R s m args below meth cd nL D cl A cells slots Q ad c (pc + 3) lv (.int (if x < z then z else x) :: st)) : rW p l e R s m args below meth cd nL D cl A cells slots Q ad c pc lv (.int z :: .int x :: st) := fun H locs ls hP hS hl => by
  have hts := X.2.2.2.2.1
  exact va_mmax X.1 X.2.1 (X.2.2.1.trans hl.1.symm) X.2.2.2.1 (hts _ hw) (hts _ h1) (hts _ h2) (hts _ h3) hR.1 (Nat.le_trans (Nat.add_le_add_right hroom 13) hR.2.1) hR.2.2.1 hR.2.2.2 hd (kk H locs ls hP hS hl)
theorem r_obj (X : rX p s m args cd cc nL own W0 D cl tys A) (hw : Cond.methodLink own i objectInit ∈ W0) (h1 : Cond.instanceMethod objectInit ∈ W0) (h2 : Cond.code objectInit ⟨#[0xb1]⟩ 1 none ∈ W0) (hR : 1 ≤ R.frames ∧ 20 ≤ R.locals) (hroom : (st.map fun v => v.category).sum ≤ 8) {b : Nat} (hd : decode cc pc = .ok (.invokespecial i, 3)) (kk : rW p l e R s m args below meth cd nL D cl A cells slots Q ad c (pc + 3) lv st) : rW p l e R s m args below meth cd nL D cl A cells slots Q ad c pc lv (.ref b :: st) := fun H locs ls hP hS hl => by
  have hts := X.2.2.2.2.1
  exact W.objInit X.1 X.2.1 X.2.2.2.1 (hts _ hw) (hts _ h1) (hts _ h2) rfl (hl.1.trans X.2.2.1.symm) rfl hd hR.1 (by show 2 * 0 + _ + 12 ≤ _; omega) (kk H locs ls hP hS hl)
end RCALL
section REND
variable {p : Program} {l : Launch} {e : Env} {R : Room} {s : State} {m : MethodId} {args : Array Value} {below : List Frame} {meth : Method} {cd : Code} {cc : ByteArray} {nL : Nat} {own : String} {W0 : List Cond} {D : va_G} {cl : List vw_C} {tys : List (ClassId × FieldType)} {A : Nat → Prop} {cells slots mc ms : Nat} {ad : Nat → Nat} {c : rC} {pc : Nat} {lv : List (Nat × Value)}
theorem r_iret (X : rX p s m args cd cc nL own W0 D cl tys A) (hr : meth.sig.returnType = some .int) (hlk : meth.locks = false) {post : Int32 → (Nat → Nat) → rC → Prop} {v : Int32} (hd : decode cc pc = .ok (.ireturn, 1)) (hc : cells ≤ mc) (hs : slots ≤ ms) (hp : post v ad c) : rW p l e R s m args below meth cd nL D cl A cells slots (MQ below (va_Qi (fun r (u : rU) => post r u.1 u.2) (fun u t => rp D cl A u.1 u.2 t.heap) A) args s mc ms A) ad c pc lv [.int v] := fun H locs ls hP hS hl =>
  W.widen hc hs (W.iret X.1 X.2.1 hr (fun t ht hW => ⟨⟨v, (ad, c), rfl, hp, by show rp D cl A ad c t.heap; rw [ht]; exact hP⟩, hS.F ht⟩) hS.2.2 hd hlk)
theorem r_zret (X : rX p s m args cd cc nL own W0 D cl tys A) (hr : meth.sig.returnType = some .boolean) (hlk : meth.locks = false) {post : Int32 → (Nat → Nat) → rC → Prop} {v : Int32} (hv : narrow .boolean (.int v) = .int v) (hd : decode cc pc = .ok (.ireturn, 1)) (hc : cells ≤ mc) (hs : slots ≤ ms) (hp : post v ad c) : rW p l e R s m args below meth cd nL D cl A cells slots (MQ below (va_Qi (fun r (u : rU) => post r u.1 u.2) (fun u t => rp D cl A u.1 u.2 t.heap) A) args s mc ms A) ad c pc lv [.int v] := fun H locs ls hP hS hl =>
  W.widen hc hs (W.zret X.1 X.2.1 hr hv (fun t ht hW => ⟨⟨v, (ad, c), rfl, hp, by show rp D cl A ad c t.heap; rw [ht]; exact hP⟩, hS.F ht⟩) hS.2.2 hd hlk)
theorem r_lret (X : rX p s m args cd cc nL own W0 D cl tys A) (hr : meth.sig.returnType = some .long) (hlk : meth.locks = false) {post : Int64 → (Nat → Nat) → rC → Prop} {v : Int64} (hd : decode cc pc = .ok (.lreturn, 1)) (hc : cells ≤ mc) (hs : slots ≤ ms) (hp : post v ad c) : rW p l e R s m args below meth cd nL D cl A cells slots (MQ below (va_Ql (fun r (u : rU) => post r u.1 u.2) (fun u t => rp D cl A u.1 u.2 t.heap) A) args s mc ms A) ad c pc lv [.long v] := fun H locs ls hP hS hl =>
  W.widen hc hs (W.lret X.1 X.2.1 hr (fun t ht hW => ⟨⟨v, (ad, c), rfl, hp, by show rp D cl A ad c t.heap; rw [ht]; exact hP⟩, hS.F ht⟩) hS.2.2 hd hlk)
theorem r_dret (X : rX p s m args cd cc nL own W0 D cl tys A) (hr : meth.sig.returnType = some .double) (hlk : meth.locks = false) {post : UInt64 → (Nat → Nat) → rC → Prop} {v : UInt64} (hd : decode cc pc = .ok (.dreturn, 1)) (hc : cells ≤ mc) (hs : slots ≤ ms) (hp : post v ad c) : rW p l e R s m args below meth cd nL D cl A cells slots (MQ below (va_Qd (fun r (u : rU) => post r u.1 u.2) (fun u t => rp D cl A u.1 u.2 t.heap) A) args s mc ms A) ad c pc lv [.double v] := fun H locs ls hP hS hl =>
  W.widen hc hs (W.dret X.1 X.2.1 hr (fun t ht hW => ⟨⟨v, (ad, c), rfl, hp, by show rp D cl A ad c t.heap; rw [ht]; exact hP⟩, hS.F ht⟩) hS.2.2 hd hlk)
theorem r_vret (X : rX p s m args cd cc nL own W0 D cl tys A) (hr : meth.sig.returnType = none) (hlk : meth.locks = false) {post : (Nat → Nat) → rC → Prop} (hd : decode cc pc = .ok (.return_, 1)) (hc : cells ≤ mc) (hs : slots ≤ ms) (hp : post ad c) : rW p l e R s m args below meth cd nL D cl A cells slots (MQ below (va_Qv (fun (u : rU) => post u.1 u.2) (fun u t => rp D cl A u.1 u.2 t.heap) A) args s mc ms A) ad c pc lv [] := fun H locs ls hP hS hl =>
  W.widen hc hs (W.vret X.1 X.2.1 hr (fun t ht hW => ⟨⟨(ad, c), rfl, hp, by show rp D cl A ad c t.heap; rw [ht]; exact hP⟩, hS.F ht⟩) hS.2.2 hd hlk)
theorem r_aret (X : rX p s m args cd cc nL own W0 D cl tys A) {ty : FieldType} (hr : meth.sig.returnType = some ty) (hlk : meth.locks = false) (hty : (∃ n, ty = .object n) ∨ ∃ t, ty = .array t) {post : Option Nat → (Nat → Nat) → rC → Prop} {v : Option Nat} {w : Value} (hv : va_rf v = w) (hd : decode cc pc = .ok (.areturn, 1)) (hc : cells ≤ mc) (hs : slots ≤ ms) (hp : post v ad c) : rW p l e R s m args below meth cd nL D cl A cells slots (MQ below (va_Qq (fun r (u : rU) => post r u.1 u.2) (fun u t => rp D cl A u.1 u.2 t.heap) A) args s mc ms A) ad c pc lv [w] := fun H locs ls hP hS hl =>
  W.widen hc hs (W.aret (v := w) X.1 X.2.1 hr hty (hv ▸ va_rf_or v) (fun t ht hW => ⟨⟨v, (ad, c), by rw [hv], hp, by show rp D cl A ad c t.heap; rw [ht]; exact hP⟩, hS.F ht⟩) hS.2.2 hd hlk)
end REND
/-- a method's body, from its entry -/
theorem r_of {own : String} {l : Launch} {D : va_G} {cl : List vw_C} {tys : List (ClassId × FieldType)} {NW W0 : List Cond} {y : MethodName} {rm : Room} {av : List Value} {ad : Nat → Nat} {c : rC} {sz : Nat} {cc : ByteArray} {nL : Nat} {ret : Option FieldType} {Qc : Array Value → State → Outcome → State → Prop} (ho : y.cls = own) (hy : plainName y.cls = true) (hav : (lg_sl av).length ≤ nL)
    (body : ∀ (p : Program) (e : Env) (s : State) (m : MethodId) (below : List Frame) (meth : Method) (cd : Code), s.heap.size = sz → rX p s m av.toArray cd cc nL own W0 D cl tys (rA ad c sz) → meth.sig.returnType = ret → meth.locks = false → rN NW s → meth.name = y.name →
      rW p l e rm s m av.toArray below meth cd nL D cl (rA ad c sz) 0 0 (MQ below Qc av.toArray s rm.cells rm.slots (rA ad c sz)) ad c 0 (lv_args 0 av) []) :
    Met l y (Cond.code y cc nL ret :: W0) rm (va_Pc av (rP D cl tys NW ad c sz)) Qc rm.cells rm.slots (rA ad c sz) := by
  refine Met.ofW (cc := cc) (maxL := nL) (ret := ret) hy rfl ?_
  subst ho
  intro p e s m args below meth cd s₁ B hml hv
  obtain ⟨rfl, hsz, hP, hK, hN⟩ := hv
  have hts := atoms_spec (ws := Cond.code y cc nL ret :: W0) B.pre
  have hown : s.vm.findClass y.cls = some m.cls := findClass_of_methodNamed B.named
  have hin : meth.name = y.name := (name_of_methodNamed B.named B.method).1
  have hl := lv_entry av (n := nL) hav
  rw [lg_entry_eq]
  subst hsz
  have hb := body p e s m below meth cd rfl ⟨B.exec, B.bytes, hml, hown, fun w h => hts w (List.mem_cons_of_mem _ h), hK, fun q h => Or.inr h⟩ B.returns B.notSynchronized hN hin
  exact hb s.heap [] _ (hP.self _) va_S.rf hl
section RCUT
variable {p : Program} {l : Launch} {e : Env} {R : Room} {s : State} {m : MethodId} {args : Array Value} {below : List Frame} {meth : Method} {cd : Code} {nL : Nat} {D : va_G} {cl : List vw_C} {A : Nat → Prop} {cells slots : Nat} {Q : State → Prop} {ad : Nat → Nat} {c : rC} {pc : Nat} {lv : List (Nat × Value)} {st : List Value}
/-- roads that meet: the rest once, for all that come -/
theorem r_cut {σ : Type} (I : σ → Prop) (cf : σ → rC) (pcJ : Nat) (lvf : σ → List (Nat × Value)) (stf : σ → List Value) (hJ : (∀ u : σ, I u → rW p l e R s m args below meth cd nL D cl A cells slots Q ad (cf u) pcJ (lvf u) (stf u)) → rW p l e R s m args below meth cd nL D cl A cells slots Q ad c pc lv st) (hK : ∀ u : σ, I u → rW p l e R s m args below meth cd nL D cl A cells slots Q ad (cf u) pcJ (lvf u) (stf u)) : rW p l e R s m args below meth cd nL D cl A cells slots Q ad c pc lv st := hJ hK
theorem r_loop {σ : Type} (I : Nat → σ → Prop) (cf : σ → rC) (pcJ : Nat) (lvf : σ → List (Nat × Value)) (stf : σ → List Value) (h0 : ∀ u : σ, ¬ I 0 u) (hs : ∀ (n : Nat) (u : σ), (∀ u' : σ, I n u' → rW p l e R s m args below meth cd nL D cl A cells slots Q ad (cf u') pcJ (lvf u') (stf u')) → I (n + 1) u → rW p l e R s m args below meth cd nL D cl A cells slots Q ad (cf u) pcJ (lvf u) (stf u)) : ∀ (n : Nat) (u : σ), I n u → rW p l e R s m args below meth cd nL D cl A cells slots Q ad (cf u) pcJ (lvf u) (stf u) := by
  intro n
  induction n with
  | zero => exact fun u h => absurd h (h0 u)
  | succ n ih => exact fun u h => hs n u ih h
theorem r_at {c' : rC} {pc' : Nat} {lv' : List (Nat × Value)} {st' : List Value} (kk : rW p l e R s m args below meth cd nL D cl A cells slots Q ad c' pc' lv' st') (hc : c' = c) (hp : pc' = pc) (hl : lv' = lv) (hs : st' = st) : rW p l e R s m args below meth cd nL D cl A cells slots Q ad c pc lv st := by
  subst hc; subst hp; subst hl; subst hs; exact kk
theorem r_show (c' : rC) (lv' : List (Nat × Value)) (st' : List Value) (hc : c = c') (hl : lv = lv') (hs : st = st') (kk : rW p l e R s m args below meth cd nL D cl A cells slots Q ad c' pc lv' st') : rW p l e R s m args below meth cd nL D cl A cells slots Q ad c pc lv st := by
  subst hc; subst hl; subst hs; exact kk
end RCUT
theorem nb_if {c : Prop} [Decidable c] : narrow .boolean (.int (if c then 1 else 0)) = .int (if c then 1 else 0) := by
  split <;> decide
theorem rup_in {C C' C'' : rC} {a b : Nat} {y : Option va_E} {z : Option va_E} (h : b ≠ a) (hC : va_up C a z = C') (hC' : va_up C' b y = C'') : va_up (va_up C b y) a z = C'' := by rw [rup_comm h, hC, hC']
section RVK
variable {p : Program} {l : Launch} {e : Env} {R : Room} {s : State} {m : MethodId} {args : Array Value} {below : List Frame} {meth : Method} {cd : Code} {cc : ByteArray} {nL : Nat} {own : String} {W0 : List Cond} {D : va_G} {cl : List vw_C} {tys : List (ClassId × FieldType)} {NW : List Cond} {A : Nat → Prop} {cells slots : Nat} {Q : State → Prop} {ad : Nat → Nat} {c : rC} {pc : Nat} {lv : List (Nat × Value)} {st st0 : List Value} {rm : Room} {y : MethodName} {bytes : ByteArray} {maxL n i : Nat} {ret : Option FieldType} {C : String} {As : List Value}
theorem r_Vi (X : rX p s m args cd cc nL own W0 D cl tys A) (hG : GoodIn W0 W0) (hN : rN NW s) {n0 ci : Nat} {r9 : vw_C} {fs : List Value} {post : Int32 → (Nat → Nat) → rC → Prop} (hM : rMi l D cl tys NW y (Cond.code y bytes maxL ret :: W0) rm (Value.ref (ad n0) :: As) ad c post) (Y : rYV W0 y bytes maxL ret C n) (hw : Cond.methodLink own i y ∈ W0) (hc0 : c n0 = some (.inr (ci, fs))) (hcl : cl[ci]? = some r9) (hr9 : r9.1 = C) (hn : As.length = n) (hst : st0 = As.reverse ++ .ref (ad n0) :: st) (hR : rm.frames + 1 ≤ R.frames ∧ 8 + (maxL + 11) + rm.locals ≤ R.locals) (hroom : (st.map fun v => v.category).sum ≤ 8) (hf : cells + rm.cells ≤ R.cells ∧ slots + rm.slots ≤ R.slots) (hd : decode cc pc = .ok (.invokevirtual i, 3)) (kk : ∀ (r : Int32) (ad' : Nat → Nat) (c' : rC), post r ad' c' → rW p l e R s m args below meth cd nL D cl A (cells + rm.cells) (slots + rm.slots) Q ad' c' (pc + 3) lv (.int r :: st)) : rW p l e R s m args below meth cd nL D cl A cells slots Q ad c pc lv st0 := r_calli X (r_runV X hG hN (fun sz => hM sz) Y hw hc0 hcl hr9 hn hst hR hroom hf hd) kk
theorem r_Si (X : rX p s m args cd cc nL own W0 D cl tys A) (hG : GoodIn W0 W0) (hN : rN NW s) {post : Int32 → (Nat → Nat) → rC → Prop} (hM : rMi l D cl tys NW y (Cond.code y bytes maxL ret :: W0) rm As ad c post) (Y : rYS W0 y bytes maxL ret n) (hw : Cond.methodLink own i y ∈ W0) (hn : As.length = n) (hst : st0 = As.reverse ++ st) (hR : rm.frames + 1 ≤ R.frames ∧ 8 + (maxL + 11) + rm.locals ≤ R.locals) (hroom : (st.map fun v => v.category).sum ≤ 8) (hf : cells + rm.cells ≤ R.cells ∧ slots + rm.slots ≤ R.slots) (hd : decode cc pc = .ok (.invokestatic i, 3)) (kk : ∀ (r : Int32) (ad' : Nat → Nat) (c' : rC), post r ad' c' → rW p l e R s m args below meth cd nL D cl A (cells + rm.cells) (slots + rm.slots) Q ad' c' (pc + 3) lv (.int r :: st)) : rW p l e R s m args below meth cd nL D cl A cells slots Q ad c pc lv st0 := r_calli X (r_runS X hG hN (fun sz => hM sz) Y hw hn hst hR hroom hf hd) kk
theorem r_SNi (X : rX p s m args cd cc nL own W0 D cl tys A) (hG : GoodIn W0 W0) (hN : rN NW s) {host : String} {post : Int32 → (Nat → Nat) → rC → Prop} (hM : rMi l D cl tys NW y (Cond.code y bytes maxL ret :: W0) rm As ad c post) (Y : rYS W0 y bytes maxL ret n) (hw : Cond.methodLinkNest own i y host ∈ NW) (hn : As.length = n) (hst : st0 = As.reverse ++ st) (hR : rm.frames + 1 ≤ R.frames ∧ 8 + (maxL + 11) + rm.locals ≤ R.locals) (hroom : (st.map fun v => v.category).sum ≤ 8) (hf : cells + rm.cells ≤ R.cells ∧ slots + rm.slots ≤ R.slots) (hd : decode cc pc = .ok (.invokestatic i, 3)) (kk : ∀ (r : Int32) (ad' : Nat → Nat) (c' : rC), post r ad' c' → rW p l e R s m args below meth cd nL D cl A (cells + rm.cells) (slots + rm.slots) Q ad' c' (pc + 3) lv (.int r :: st)) : rW p l e R s m args below meth cd nL D cl A cells slots Q ad c pc lv st0 := r_calli X (r_runSN X hG hN (fun sz => hM sz) Y hw hn hst hR hroom hf hd) kk
theorem r_Vl (X : rX p s m args cd cc nL own W0 D cl tys A) (hG : GoodIn W0 W0) (hN : rN NW s) {n0 ci : Nat} {r9 : vw_C} {fs : List Value} {post : Int64 → (Nat → Nat) → rC → Prop} (hM : rMl l D cl tys NW y (Cond.code y bytes maxL ret :: W0) rm (Value.ref (ad n0) :: As) ad c post) (Y : rYV W0 y bytes maxL ret C n) (hw : Cond.methodLink own i y ∈ W0) (hc0 : c n0 = some (.inr (ci, fs))) (hcl : cl[ci]? = some r9) (hr9 : r9.1 = C) (hn : As.length = n) (hst : st0 = As.reverse ++ .ref (ad n0) :: st) (hR : rm.frames + 1 ≤ R.frames ∧ 8 + (maxL + 11) + rm.locals ≤ R.locals) (hroom : (st.map fun v => v.category).sum ≤ 8) (hf : cells + rm.cells ≤ R.cells ∧ slots + rm.slots ≤ R.slots) (hd : decode cc pc = .ok (.invokevirtual i, 3)) (kk : ∀ (r : Int64) (ad' : Nat → Nat) (c' : rC), post r ad' c' → rW p l e R s m args below meth cd nL D cl A (cells + rm.cells) (slots + rm.slots) Q ad' c' (pc + 3) lv (.long r :: st)) : rW p l e R s m args below meth cd nL D cl A cells slots Q ad c pc lv st0 := r_calll X (r_runV X hG hN (fun sz => hM sz) Y hw hc0 hcl hr9 hn hst hR hroom hf hd) kk
theorem r_Sl (X : rX p s m args cd cc nL own W0 D cl tys A) (hG : GoodIn W0 W0) (hN : rN NW s) {post : Int64 → (Nat → Nat) → rC → Prop} (hM : rMl l D cl tys NW y (Cond.code y bytes maxL ret :: W0) rm As ad c post) (Y : rYS W0 y bytes maxL ret n) (hw : Cond.methodLink own i y ∈ W0) (hn : As.length = n) (hst : st0 = As.reverse ++ st) (hR : rm.frames + 1 ≤ R.frames ∧ 8 + (maxL + 11) + rm.locals ≤ R.locals) (hroom : (st.map fun v => v.category).sum ≤ 8) (hf : cells + rm.cells ≤ R.cells ∧ slots + rm.slots ≤ R.slots) (hd : decode cc pc = .ok (.invokestatic i, 3)) (kk : ∀ (r : Int64) (ad' : Nat → Nat) (c' : rC), post r ad' c' → rW p l e R s m args below meth cd nL D cl A (cells + rm.cells) (slots + rm.slots) Q ad' c' (pc + 3) lv (.long r :: st)) : rW p l e R s m args below meth cd nL D cl A cells slots Q ad c pc lv st0 := r_calll X (r_runS X hG hN (fun sz => hM sz) Y hw hn hst hR hroom hf hd) kk
theorem r_SNl (X : rX p s m args cd cc nL own W0 D cl tys A) (hG : GoodIn W0 W0) (hN : rN NW s) {host : String} {post : Int64 → (Nat → Nat) → rC → Prop} (hM : rMl l D cl tys NW y (Cond.code y bytes maxL ret :: W0) rm As ad c post) (Y : rYS W0 y bytes maxL ret n) (hw : Cond.methodLinkNest own i y host ∈ NW) (hn : As.length = n) (hst : st0 = As.reverse ++ st) (hR : rm.frames + 1 ≤ R.frames ∧ 8 + (maxL + 11) + rm.locals ≤ R.locals) (hroom : (st.map fun v => v.category).sum ≤ 8) (hf : cells + rm.cells ≤ R.cells ∧ slots + rm.slots ≤ R.slots) (hd : decode cc pc = .ok (.invokestatic i, 3)) (kk : ∀ (r : Int64) (ad' : Nat → Nat) (c' : rC), post r ad' c' → rW p l e R s m args below meth cd nL D cl A (cells + rm.cells) (slots + rm.slots) Q ad' c' (pc + 3) lv (.long r :: st)) : rW p l e R s m args below meth cd nL D cl A cells slots Q ad c pc lv st0 := r_calll X (r_runSN X hG hN (fun sz => hM sz) Y hw hn hst hR hroom hf hd) kk
theorem r_Vd (X : rX p s m args cd cc nL own W0 D cl tys A) (hG : GoodIn W0 W0) (hN : rN NW s) {n0 ci : Nat} {r9 : vw_C} {fs : List Value} {post : UInt64 → (Nat → Nat) → rC → Prop} (hM : rMd l D cl tys NW y (Cond.code y bytes maxL ret :: W0) rm (Value.ref (ad n0) :: As) ad c post) (Y : rYV W0 y bytes maxL ret C n) (hw : Cond.methodLink own i y ∈ W0) (hc0 : c n0 = some (.inr (ci, fs))) (hcl : cl[ci]? = some r9) (hr9 : r9.1 = C) (hn : As.length = n) (hst : st0 = As.reverse ++ .ref (ad n0) :: st) (hR : rm.frames + 1 ≤ R.frames ∧ 8 + (maxL + 11) + rm.locals ≤ R.locals) (hroom : (st.map fun v => v.category).sum ≤ 8) (hf : cells + rm.cells ≤ R.cells ∧ slots + rm.slots ≤ R.slots) (hd : decode cc pc = .ok (.invokevirtual i, 3)) (kk : ∀ (r : UInt64) (ad' : Nat → Nat) (c' : rC), post r ad' c' → rW p l e R s m args below meth cd nL D cl A (cells + rm.cells) (slots + rm.slots) Q ad' c' (pc + 3) lv (.double r :: st)) : rW p l e R s m args below meth cd nL D cl A cells slots Q ad c pc lv st0 := r_calld X (r_runV X hG hN (fun sz => hM sz) Y hw hc0 hcl hr9 hn hst hR hroom hf hd) kk
theorem r_Sd (X : rX p s m args cd cc nL own W0 D cl tys A) (hG : GoodIn W0 W0) (hN : rN NW s) {post : UInt64 → (Nat → Nat) → rC → Prop} (hM : rMd l D cl tys NW y (Cond.code y bytes maxL ret :: W0) rm As ad c post) (Y : rYS W0 y bytes maxL ret n) (hw : Cond.methodLink own i y ∈ W0) (hn : As.length = n) (hst : st0 = As.reverse ++ st) (hR : rm.frames + 1 ≤ R.frames ∧ 8 + (maxL + 11) + rm.locals ≤ R.locals) (hroom : (st.map fun v => v.category).sum ≤ 8) (hf : cells + rm.cells ≤ R.cells ∧ slots + rm.slots ≤ R.slots) (hd : decode cc pc = .ok (.invokestatic i, 3)) (kk : ∀ (r : UInt64) (ad' : Nat → Nat) (c' : rC), post r ad' c' → rW p l e R s m args below meth cd nL D cl A (cells + rm.cells) (slots + rm.slots) Q ad' c' (pc + 3) lv (.double r :: st)) : rW p l e R s m args below meth cd nL D cl A cells slots Q ad c pc lv st0 := r_calld X (r_runS X hG hN (fun sz => hM sz) Y hw hn hst hR hroom hf hd) kk
theorem r_SNd (X : rX p s m args cd cc nL own W0 D cl tys A) (hG : GoodIn W0 W0) (hN : rN NW s) {host : String} {post : UInt64 → (Nat → Nat) → rC → Prop} (hM : rMd l D cl tys NW y (Cond.code y bytes maxL ret :: W0) rm As ad c post) (Y : rYS W0 y bytes maxL ret n) (hw : Cond.methodLinkNest own i y host ∈ NW) (hn : As.length = n) (hst : st0 = As.reverse ++ st) (hR : rm.frames + 1 ≤ R.frames ∧ 8 + (maxL + 11) + rm.locals ≤ R.locals) (hroom : (st.map fun v => v.category).sum ≤ 8) (hf : cells + rm.cells ≤ R.cells ∧ slots + rm.slots ≤ R.slots) (hd : decode cc pc = .ok (.invokestatic i, 3)) (kk : ∀ (r : UInt64) (ad' : Nat → Nat) (c' : rC), post r ad' c' → rW p l e R s m args below meth cd nL D cl A (cells + rm.cells) (slots + rm.slots) Q ad' c' (pc + 3) lv (.double r :: st)) : rW p l e R s m args below meth cd nL D cl A cells slots Q ad c pc lv st0 := r_calld X (r_runSN X hG hN (fun sz => hM sz) Y hw hn hst hR hroom hf hd) kk
theorem r_Vq (X : rX p s m args cd cc nL own W0 D cl tys A) (hG : GoodIn W0 W0) (hN : rN NW s) {n0 ci : Nat} {r9 : vw_C} {fs : List Value} {post : Option Nat → (Nat → Nat) → rC → Prop} (hM : rMq l D cl tys NW y (Cond.code y bytes maxL ret :: W0) rm (Value.ref (ad n0) :: As) ad c post) (Y : rYV W0 y bytes maxL ret C n) (hw : Cond.methodLink own i y ∈ W0) (hc0 : c n0 = some (.inr (ci, fs))) (hcl : cl[ci]? = some r9) (hr9 : r9.1 = C) (hn : As.length = n) (hst : st0 = As.reverse ++ .ref (ad n0) :: st) (hR : rm.frames + 1 ≤ R.frames ∧ 8 + (maxL + 11) + rm.locals ≤ R.locals) (hroom : (st.map fun v => v.category).sum ≤ 8) (hf : cells + rm.cells ≤ R.cells ∧ slots + rm.slots ≤ R.slots) (hd : decode cc pc = .ok (.invokevirtual i, 3)) (kk : ∀ (r : Option Nat) (ad' : Nat → Nat) (c' : rC), post r ad' c' → rW p l e R s m args below meth cd nL D cl A (cells + rm.cells) (slots + rm.slots) Q ad' c' (pc + 3) lv (va_rf r :: st)) : rW p l e R s m args below meth cd nL D cl A cells slots Q ad c pc lv st0 := r_callq X (r_runV X hG hN (fun sz => hM sz) Y hw hc0 hcl hr9 hn hst hR hroom hf hd) kk
theorem r_Sq (X : rX p s m args cd cc nL own W0 D cl tys A) (hG : GoodIn W0 W0) (hN : rN NW s) {post : Option Nat → (Nat → Nat) → rC → Prop} (hM : rMq l D cl tys NW y (Cond.code y bytes maxL ret :: W0) rm As ad c post) (Y : rYS W0 y bytes maxL ret n) (hw : Cond.methodLink own i y ∈ W0) (hn : As.length = n) (hst : st0 = As.reverse ++ st) (hR : rm.frames + 1 ≤ R.frames ∧ 8 + (maxL + 11) + rm.locals ≤ R.locals) (hroom : (st.map fun v => v.category).sum ≤ 8) (hf : cells + rm.cells ≤ R.cells ∧ slots + rm.slots ≤ R.slots) (hd : decode cc pc = .ok (.invokestatic i, 3)) (kk : ∀ (r : Option Nat) (ad' : Nat → Nat) (c' : rC), post r ad' c' → rW p l e R s m args below meth cd nL D cl A (cells + rm.cells) (slots + rm.slots) Q ad' c' (pc + 3) lv (va_rf r :: st)) : rW p l e R s m args below meth cd nL D cl A cells slots Q ad c pc lv st0 := r_callq X (r_runS X hG hN (fun sz => hM sz) Y hw hn hst hR hroom hf hd) kk
theorem r_SNq (X : rX p s m args cd cc nL own W0 D cl tys A) (hG : GoodIn W0 W0) (hN : rN NW s) {host : String} {post : Option Nat → (Nat → Nat) → rC → Prop} (hM : rMq l D cl tys NW y (Cond.code y bytes maxL ret :: W0) rm As ad c post) (Y : rYS W0 y bytes maxL ret n) (hw : Cond.methodLinkNest own i y host ∈ NW) (hn : As.length = n) (hst : st0 = As.reverse ++ st) (hR : rm.frames + 1 ≤ R.frames ∧ 8 + (maxL + 11) + rm.locals ≤ R.locals) (hroom : (st.map fun v => v.category).sum ≤ 8) (hf : cells + rm.cells ≤ R.cells ∧ slots + rm.slots ≤ R.slots) (hd : decode cc pc = .ok (.invokestatic i, 3)) (kk : ∀ (r : Option Nat) (ad' : Nat → Nat) (c' : rC), post r ad' c' → rW p l e R s m args below meth cd nL D cl A (cells + rm.cells) (slots + rm.slots) Q ad' c' (pc + 3) lv (va_rf r :: st)) : rW p l e R s m args below meth cd nL D cl A cells slots Q ad c pc lv st0 := r_callq X (r_runSN X hG hN (fun sz => hM sz) Y hw hn hst hR hroom hf hd) kk
theorem r_Vv (X : rX p s m args cd cc nL own W0 D cl tys A) (hG : GoodIn W0 W0) (hN : rN NW s) {n0 ci : Nat} {r9 : vw_C} {fs : List Value} {post : (Nat → Nat) → rC → Prop} (hM : rMv l D cl tys NW y (Cond.code y bytes maxL ret :: W0) rm (Value.ref (ad n0) :: As) ad c post) (Y : rYV W0 y bytes maxL ret C n) (hw : Cond.methodLink own i y ∈ W0) (hc0 : c n0 = some (.inr (ci, fs))) (hcl : cl[ci]? = some r9) (hr9 : r9.1 = C) (hn : As.length = n) (hst : st0 = As.reverse ++ .ref (ad n0) :: st) (hR : rm.frames + 1 ≤ R.frames ∧ 8 + (maxL + 11) + rm.locals ≤ R.locals) (hroom : (st.map fun v => v.category).sum ≤ 8) (hf : cells + rm.cells ≤ R.cells ∧ slots + rm.slots ≤ R.slots) (hd : decode cc pc = .ok (.invokevirtual i, 3)) (kk : ∀ (ad' : Nat → Nat) (c' : rC), post ad' c' → rW p l e R s m args below meth cd nL D cl A (cells + rm.cells) (slots + rm.slots) Q ad' c' (pc + 3) lv st) : rW p l e R s m args below meth cd nL D cl A cells slots Q ad c pc lv st0 := r_callv X (r_runV X hG hN (fun sz => hM sz) Y hw hc0 hcl hr9 hn hst hR hroom hf hd) kk
theorem r_Sv (X : rX p s m args cd cc nL own W0 D cl tys A) (hG : GoodIn W0 W0) (hN : rN NW s) {post : (Nat → Nat) → rC → Prop} (hM : rMv l D cl tys NW y (Cond.code y bytes maxL ret :: W0) rm As ad c post) (Y : rYS W0 y bytes maxL ret n) (hw : Cond.methodLink own i y ∈ W0) (hn : As.length = n) (hst : st0 = As.reverse ++ st) (hR : rm.frames + 1 ≤ R.frames ∧ 8 + (maxL + 11) + rm.locals ≤ R.locals) (hroom : (st.map fun v => v.category).sum ≤ 8) (hf : cells + rm.cells ≤ R.cells ∧ slots + rm.slots ≤ R.slots) (hd : decode cc pc = .ok (.invokestatic i, 3)) (kk : ∀ (ad' : Nat → Nat) (c' : rC), post ad' c' → rW p l e R s m args below meth cd nL D cl A (cells + rm.cells) (slots + rm.slots) Q ad' c' (pc + 3) lv st) : rW p l e R s m args below meth cd nL D cl A cells slots Q ad c pc lv st0 := r_callv X (r_runS X hG hN (fun sz => hM sz) Y hw hn hst hR hroom hf hd) kk
theorem r_SNv (X : rX p s m args cd cc nL own W0 D cl tys A) (hG : GoodIn W0 W0) (hN : rN NW s) {host : String} {post : (Nat → Nat) → rC → Prop} (hM : rMv l D cl tys NW y (Cond.code y bytes maxL ret :: W0) rm As ad c post) (Y : rYS W0 y bytes maxL ret n) (hw : Cond.methodLinkNest own i y host ∈ NW) (hn : As.length = n) (hst : st0 = As.reverse ++ st) (hR : rm.frames + 1 ≤ R.frames ∧ 8 + (maxL + 11) + rm.locals ≤ R.locals) (hroom : (st.map fun v => v.category).sum ≤ 8) (hf : cells + rm.cells ≤ R.cells ∧ slots + rm.slots ≤ R.slots) (hd : decode cc pc = .ok (.invokestatic i, 3)) (kk : ∀ (ad' : Nat → Nat) (c' : rC), post ad' c' → rW p l e R s m args below meth cd nL D cl A (cells + rm.cells) (slots + rm.slots) Q ad' c' (pc + 3) lv st) : rW p l e R s m args below meth cd nL D cl A cells slots Q ad c pc lv st0 := r_callv X (r_runSN X hG hN (fun sz => hM sz) Y hw hn hst hR hroom hf hd) kk
theorem r_Iv (X : rX p s m args cd cc nL own W0 D cl tys A) (hG : GoodIn W0 W0) (hN : rN NW s) {b : Nat} {post : (Nat → Nat) → rC → Prop} (hM : rMv l D cl tys NW y (Cond.code y bytes maxL none :: W0) rm (Value.ref b :: As) ad c post) (Y : rYI W0 y bytes maxL n) (hw : Cond.methodLink own i y ∈ W0) (hn : As.length = n) (hst : st0 = As.reverse ++ .ref b :: st) (hR : rm.frames + 1 ≤ R.frames ∧ 8 + (maxL + 11) + rm.locals ≤ R.locals) (hroom : (st.map fun v => v.category).sum ≤ 8) (hf : cells + rm.cells ≤ R.cells ∧ slots + rm.slots ≤ R.slots) (hd : decode cc pc = .ok (.invokespecial i, 3)) (kk : ∀ (ad' : Nat → Nat) (c' : rC), post ad' c' → rW p l e R s m args below meth cd nL D cl A (cells + rm.cells) (slots + rm.slots) Q ad' c' (pc + 3) lv st) : rW p l e R s m args below meth cd nL D cl A cells slots Q ad c pc lv st0 := r_callv X (r_runI X hG hN (fun sz => hM sz) Y hw hn hst hR hroom hf hd) kk
theorem r_INv (X : rX p s m args cd cc nL own W0 D cl tys A) (hG : GoodIn W0 W0) (hN : rN NW s) {b : Nat} {host : String} {post : (Nat → Nat) → rC → Prop} (hM : rMv l D cl tys NW y (Cond.code y bytes maxL none :: W0) rm (Value.ref b :: As) ad c post) (Y : rYI W0 y bytes maxL n) (hw : Cond.methodLinkNest own i y host ∈ NW) (hn : As.length = n) (hst : st0 = As.reverse ++ .ref b :: st) (hR : rm.frames + 1 ≤ R.frames ∧ 8 + (maxL + 11) + rm.locals ≤ R.locals) (hroom : (st.map fun v => v.category).sum ≤ 8) (hf : cells + rm.cells ≤ R.cells ∧ slots + rm.slots ≤ R.slots) (hd : decode cc pc = .ok (.invokespecial i, 3)) (kk : ∀ (ad' : Nat → Nat) (c' : rC), post ad' c' → rW p l e R s m args below meth cd nL D cl A (cells + rm.cells) (slots + rm.slots) Q ad' c' (pc + 3) lv st) : rW p l e R s m args below meth cd nL D cl A cells slots Q ad c pc lv st0 := r_callv X (r_runIN X hG hN (fun sz => hM sz) Y hw hn hst hR hroom hf hd) kk
end RVK
