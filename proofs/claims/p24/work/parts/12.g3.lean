/-! what would be; ways -/
/-- an array told again by a row that agrees below its length -/
theorem r_ext {p : Program} {l : Launch} {e : Env} {R : Room} {s : State} {m : MethodId} {args : Array Value} {below : List Frame} {meth : Method} {cd : Code} {nL : Nat} {D : va_G} {cl : List vw_C} {A : Nat → Prop} {cells slots : Nat} {Q : State → Prop} {ad : Nat → Nat} {c : rC} {pc : Nat} {lv : List (Nat × Value)} {st : List Value} {k N : Nat} {cA : ClassId} {f : Nat → Int32} (g : Nat → Int32) (c' : rC) (hk : c k = some (.inl (cA, N, .inl f))) (hfg : ∀ j, j < N → f j = g j) (hc : va_up c k (some (.inl (cA, N, .inl g))) = c') (kk : rW p l e R s m args below meth cd nL D cl A cells slots Q ad c' pc lv st) : rW p l e R s m args below meth cd nL D cl A cells slots Q ad c pc lv st := by
  intro H locs ls hP hS hl
  subst hc
  have he : va_at D cl (ad k, (.inl (cA, N, .inl g) : va_E)) H := by
    have h1 := (hP.1 k _ hk).1
    have h2 : vp_cell cA (N, .inl f) = vp_cell cA (N, .inl g) := congrArg (fun a => ({ cls := cA, slots := a, vm := .none } : Cell)) (congrArg (fun h => Array.ofFn (n := N) h) (funext fun j => congrArg Value.int (hfg j.1 j.2)))
    exact Eq.trans (show H[ad k]? = some (vp_cell cA (N, .inl f)) from h1) (congrArg some h2)
  exact kk H locs ls (hP.put hk he (fun _ _ => rfl)) hS hl
def flA (f : Nat → Int32) (v : Int32) (i : Nat) : Nat → Int32 := fun j => if j < i then v else f j
theorem fl0 {f : Nat → Int32} {v : Int32} : flA f v 0 = f := funext fun j => if_neg (Nat.not_lt_zero j)
theorem fl1 {f : Nat → Int32} {v : Int32} {i : Nat} (h : i < 2 ^ 31) : upd (flA f v i) (nI i).toNatClampNeg v = flA f v (i + 1) := by
  rw [nI_clamp h]
  funext j
  unfold upd flA
  by_cases hj : j = i
  · subst hj
    rw [if_pos rfl, if_pos (Nat.lt_succ_self j)]
  · rw [if_neg hj]
    by_cases hl : j < i
    · rw [if_pos hl, if_pos (by omega)]
    · rw [if_neg hl, if_neg (by omega)]
abbrev sIc (x : sf8) : Int32 := x.2.2.1
def wqS (S : cS) (q : Nat) (x : sf8) : sf8 := wqF (sRc S q).2.2.2.2.1 (sRc S q).2.2.2.2.2.1 (sRc S q).2.2.2.2.2.2.1 (sRc S q).2.2.2.1 (sWe S).1 (sWe S).2.1 (sWe S).2.2.1 (sWe S).2.2.2.1 (sWe S).2.2.2.2 x.1 x.2.1 x.2.2.1 x.2.2.2.1 x.2.2.2.2.1 x.2.2.2.2.2.1 x.2.2.2.2.2.2.1 x.2.2.2.2.2.2.2
def fsF (S : cS) (q : Nat) : Nat → Nat → sf8 → Int32
  | 0, _, _ => -1
  | n + 1, i, x => if slipF (wqS S q x).2.2.1 (wqS S q x).2.2.2.1 = 0 then fsF S q n (i + 1) (wqS S q x) else nI i
/-- where the trial begins: how the road lies and more salt; r, f, o: what had left the trial -/
def fsX (S : cS) (q : Nat) (m r f o : Int32) : sf8 := ((sSf S q).1, (sSf S q).2.1, (sSf S q).2.2.1, (sSf S q).2.2.2.1, (sSf S q).2.2.2.2.1 + m, r, f, o)
def fsR (S : cS) (q : Nat) (m : Int32) (k : Nat) : Int32 := fsF S q k 1 (fsX S q m 0 0 0)
def five (x : sf8) : Int32 × Int32 × Int32 × Int32 × Int32 := (x.1, x.2.1, x.2.2.1, x.2.2.2.1, x.2.2.2.2.1)
def runW (w : Int32) : Int32 := if 8 < w then 8 else w
def runS (w sa : Int32) : Int32 := if 8 < w then sa - (w - 8) * sa / w else sa
def losS (ran wind w sa : Int32) : Int32 :=
  let a : Int32 := if ran = 0 then (if w ≤ 0 then sa else sa - mn 1 sa) else sa
  if wind < 2 then a else if w = 0 then a - mn 2 a else a
theorem runF_w {w sa ri ro : Int32} : (runF w sa ri ro).1 = runW w := by unfold runF runW; split <;> rfl
theorem runF_s {w sa ri ro : Int32} : (runF w sa ri ro).2.1 = runS w sa := by unfold runF runS; split <;> rfl
theorem lossF_s {ran wind w sa fi : Int32} : (lossF ran wind w sa fi).1 = losS ran wind w sa := by
  unfold lossF losS
  by_cases h1 : ran = 0
  · by_cases h2 : w ≤ 0
    · simp only [if_pos h1, if_pos h2]
      split
      · rfl
      · split <;> rfl
    · simp only [if_pos h1, if_neg h2]
      split
      · rfl
      · split <;> rfl
  · simp only [if_neg h1]
    split
    · rfl
    · split <;> rfl
theorem wq_five {S : cS} {q : Nat} {x y : sf8} (h : five x = five y) : five (wqS S q x) = five (wqS S q y) := by
  obtain ⟨a1, a2, a3, a4, a5, a6, a7, a8⟩ := x
  obtain ⟨b1, b2, b3, b4, b5, b6, b7, b8⟩ := y
  simp only [five, Prod.mk.injEq] at h
  obtain ⟨rfl, rfl, rfl, rfl, rfl⟩ := h
  simp only [five, wqS, wqF, runF_w, runF_s, lossF_s]
theorem fs_five {S : cS} {q : Nat} : ∀ (n i : Nat) {x y : sf8}, five x = five y → fsF S q n i x = fsF S q n i y
  | 0, _, _, _, _ => rfl
  | n + 1, i, x, y, h => by
    have h1 := wq_five (S := S) (q := q) h
    have h3 : (wqS S q x).2.2.1 = (wqS S q y).2.2.1 := congrArg (fun z => z.2.2.1) h1
    have h4 : (wqS S q x).2.2.2.1 = (wqS S q y).2.2.2.1 := congrArg (fun z => z.2.2.2.1) h1
    unfold fsF
    rw [h3, h4, fs_five n (i + 1) h1]
theorem fs_rfo {S : cS} {q n : Nat} {m r f o : Int32} : fsF S q n 1 (fsX S q m r f o) = fsR S q m n := fs_five n 1 rfl
def lsF (S : cS) (q k : Nat) : Nat → Nat → Int32
  | 0, _ => -1
  | n + 1, i => if fsR S q (nI i) k = -1 then nI i else lsF S q k n (i + 1)
def lwF (W : Nat → Int32) (a z n : Int32) : Nat → Int32 := if numA 7 W a = farK then W else lowA 7 W z (numA 7 W a + n)
def lw2 (S : cS) (i : Nat) (W : Nat → Int32) : Nat → Int32 := lwF (lwF W (sRc S i).1 (sRc S i).2.1 (sRc S i).2.2.1) (sRc S i).2.1 (sRc S i).1 (sRc S i).2.2.1
def wyI (S : cS) (W : Nat → Int32) : Nat → Nat → Int32
  | 0 => W
  | i + 1 => if i < sNr S then lw2 S i (wyI S W i) else wyI S W i
def wyO (S : cS) (W : Nat → Int32) : Nat → Nat → Int32
  | 0 => W
  | k + 1 => wyI S (wyO S W k) 8
def wayF (S : cS) (a z : Int32) : Int32 := if numA 7 (wyO S (lowA 7 (fun _ => farK) a 0) 6) z = farK then -1 else numA 7 (wyO S (lowA 7 (fun _ => farK) a 0) 6) z
theorem wyI_y {S : cS} {W : Nat → Int32} {i : Nat} (h : i < sNr S) : lw2 S i (wyI S W i) = wyI S W (i + 1) := (if_pos h).symm
theorem wyI_n {S : cS} {W : Nat → Int32} {i : Nat} (h : ¬ i < sNr S) : wyI S W i = wyI S W (i + 1) := (if_neg h).symm
set_option maxRecDepth 100000 in
set_option maxHeartbeats 4000000 in
/-- Arrays_fill_53178 -/
theorem c_Arrays_fill_53178 (l : Launch) (D : va_G) (cy : Nat → ClassId) (ad : Nat → Nat) (c : rC) (k N : Nat) (hNN : N < 2 ^ 31) (f : Nat → Int32) (hk : c k = some (.inl (cy 0, N, .inl f))) (v : Int32) : rMv l D cls (TY cy) NW y_Arrays_fill_53178 (Cond.code y_Arrays_fill_53178 b_Arrays_fill_53178 4 rt_Arrays_fill_53178 :: W0) { frames := 0, cells := 0, slots := 0, locals := 0 } [.ref (ad k), .int v] ad c (fun ad' c' => ad = ad' ∧ va_up c k (some (.inl (cy 0, N, .inl (fun _ => v)))) = c') := by
  intro sz
  refine r_of (own := R_Arrays) rfl (by decide +kernel) (Nat.le_of_ble_eq_true rfl) ?_
  intro p e s m below meth cd hsz X hr hlk hN hin
  refine r_lv [0, 1] [(0, .ref (ad k)), (1, .int v)] rfl ?_
  refine r_iconst X 0 d_Arrays_fill_53178_0 (by decide) ?_
  refine r_istore_n X [(2, .int 0), (0, .ref (ad k)), (1, .int v)] d_Arrays_fill_53178_1 rfl (by decide) rfl ?_
  refine r_aload_n X 1 d_Arrays_fill_53178_2 rfl rfl ?_
  refine r_alen (v := nI N) X 0 hk rfl rfl d_Arrays_fill_53178_3 ?_
  refine r_istore_n X [(3, .int (nI N)), (2, .int 0), (0, .ref (ad k)), (1, .int v)] d_Arrays_fill_53178_4 rfl (by decide) rfl ?_
  refine r_lv [2, 3, 1, 0] [(0, .ref (ad k)), (1, .int v), (2, .int (nI 0)), (3, .int (nI N))] rfl ?_
  refine r_at (r_loop (σ := Nat) (fun f9 i => i ≤ N ∧ i + f9 = N + 1) (fun i => va_up c k (some (.inl (cy 0, N, .inl (flA f v i))))) 5 (fun i => [(0, .ref (ad k)), (1, .int v), (2, .int (nI i)), (3, .int (nI N))]) (fun _ => []) (fun i h => by have h1 := h.1; have h2 := h.2; omega) (fun f9 i ih_i hI => ?_) (N + 1 - 0) 0 ⟨by omega, by omega⟩) (by rw [fl0]; exact rup_id hk) rfl rfl rfl
  obtain ⟨hi8, hi9⟩ := hI
  refine r_iload_n X 2 d_Arrays_fill_53178_5 rfl rfl ?_
  refine r_iload_n X 3 d_Arrays_fill_53178_6 rfl rfl ?_
  refine r_icmp_ge X 20 d_Arrays_fill_53178_7 (by decide) (fun h_7 => ?_) (fun h_7 => ?_)
  · have hi : N = i := by
      rcases Nat.lt_or_ge i N with h | h
      · exact absurd h_7 (nI_ge (by omega) (by omega))
      · omega
    subst hi
    refine r_ext (fun _ => v) (va_up c k (some (.inl (cy 0, N, .inl (fun _ => v))))) rup_self (fun j hj => if_pos hj) rup_up ?_
    exact r_vret (post := fun ad' c' => ad = ad' ∧ va_up c k (some (.inl (cy 0, N, .inl (fun _ => v)))) = c') X hr hlk d_Arrays_fill_53178_20 (by decide) (by decide) ⟨rfl, rfl⟩
  · have hi : i < N := by
      rcases Nat.lt_or_ge i N with h | h
      · exact h
      · exact absurd (nI_le (by omega) (by omega)) h_7
    refine r_aload_n X 0 d_Arrays_fill_53178_10 rfl rfl ?_
    refine r_iload_n X 2 d_Arrays_fill_53178_11 rfl rfl ?_
    refine r_iload_n X 1 d_Arrays_fill_53178_12 rfl rfl ?_
    refine r_iast X 0 rup_self rfl (vp_in_nI (by omega) (by omega)) (fl1 (by omega)) (va_up c k (some (.inl (cy 0, N, .inl (flA f v (i + 1)))))) rup_up d_Arrays_fill_53178_13 ?_
    refine r_iinc X 2 [(2, .int (nI (i + 1))), (0, .ref (ad k)), (1, .int v), (3, .int (nI N))] d_Arrays_fill_53178_14 rfl (nI_1 i) (by decide) rfl ?_
    refine r_goto X 5 d_Arrays_fill_53178_17 (by decide) ?_
    refine r_lv [1, 2, 0, 3] [(0, .ref (ad k)), (1, .int v), (2, .int (nI (i + 1))), (3, .int (nI N))] rfl ?_
    exact ih_i (i + 1) ⟨by omega, by omega⟩
set_option maxRecDepth 100000 in
set_option maxHeartbeats 4000000 in
/-- G_firstSlippery -/
theorem c_G_firstSlippery (l : Launch) (D : va_G) (cy : Nat → ClassId) (ad : Nat → Nat)  (S : cS) (J : jS) (hS : wfS S) (q : Nat) (hq : q < sNr S) (mo : Int32) (k : Nat) (hk : k < 100) : rMi l D cls (TY cy) NW y_G_firstSlippery (Cond.code y_G_firstSlippery b_G_firstSlippery 5 rt_G_firstSlippery :: W0) { frames := 3, cells := 0, slots := 0, locals := 67 } [.ref (ad 0), .ref (ad (16 + 4 * q)), .int mo, .int (nI k)] ad (cont cy ad S J) (fun r ad' c' => fsR S q mo k = r ∧ ad = ad' ∧ ∃ x9, cont cy ad S (x9, J.2) = c') := by
  intro sz
  refine r_of (own := R_G) rfl (by decide +kernel) (Nat.le_of_ble_eq_true rfl) ?_
  intro p e s m below meth cd hsz X hr hlk hN hin
  have hb8 := hS.1
  refine r_lv [0, 1, 2, 3] [(0, .ref (ad 0)), (1, .ref (ad (16 + 4 * q))), (2, .int mo), (3, .int (nI k))] rfl ?_
  refine r_aload_n X 0 d_G_firstSlippery_0 rfl rfl ?_
  refine r_get X k_G 5 (by decide) f_G_43 rfl (ct_lo (by decide)) rfl d_G_firstSlippery_1 ?_
  refine r_aload_n X 1 d_G_firstSlippery_4 rfl rfl ?_
  refine r_get X k_Road 7 (by decide) f_G_245 rfl (ct_road hS.1 hq) rfl d_G_firstSlippery_5 ?_
  refine r_Vv X W0_good hN (c_Surf_becomeLike l D cy ad (cont cy ad S J) 6 (17 + 4 * q) (by omega) J.1.1 J.1.2.1 J.1.2.2.1 J.1.2.2.2.1 J.1.2.2.2.2.1 J.1.2.2.2.2.2.1 J.1.2.2.2.2.2.2.1 J.1.2.2.2.2.2.2.2 ((sSf S q).1) ((sSf S q).2.1) ((sSf S q).2.2.1) ((sSf S q).2.2.2.1) ((sSf S q).2.2.2.2.1) ((sSf S q).2.2.2.2.2.1) ((sSf S q).2.2.2.2.2.2.1) ((sSf S q).2.2.2.2.2.2.2) (ct_lo (by decide)) (ct_surf hS.1 hq)) yv_Surf_becomeLike m_G_417 (ct_lo (by decide)) k_Surf.2.1 rfl rfl rfl ⟨by decide, by decide⟩ (Nat.le_of_ble_eq_true rfl) ⟨by decide, by decide⟩ d_G_firstSlippery_8 (fun ad9 c9 hp9 => ?_)
  obtain ⟨rfl, rfl⟩ := hp9
  refine r_aload_n X 0 d_G_firstSlippery_11 rfl rfl ?_
  refine r_get X k_G 5 (by decide) f_G_43 rfl (rup_ne (by omega) ((ct_lo (by decide)))) rfl d_G_firstSlippery_12 ?_
  refine r_dup X d_G_firstSlippery_15 rfl ?_
  refine r_get X k_Surf 4 (by decide) f_G_324 rfl rup_self rfl d_G_firstSlippery_16 ?_
  refine r_iload_n X 2 d_G_firstSlippery_19 rfl rfl ?_
  refine r_iadd X d_G_firstSlippery_20 ?_
  refine r_put X k_Surf 4 (by decide) f_G_324 rfl rup_self rfl rfl rfl (Nat.le_of_ble_eq_true rfl) [.int ((sSf S q).1), .int ((sSf S q).2.1), .int ((sSf S q).2.2.1), .int ((sSf S q).2.2.2.1), .int (((sSf S q).2.2.2.2.1) + mo), .int J.1.2.2.2.2.2.1, .int J.1.2.2.2.2.2.2.1, .int J.1.2.2.2.2.2.2.2] rfl (va_up (cont cy ad S J) 6 (some (.inr (0, [.int ((sSf S q).1), .int ((sSf S q).2.1), .int ((sSf S q).2.2.1), .int ((sSf S q).2.2.2.1), .int (((sSf S q).2.2.2.2.1) + mo), .int J.1.2.2.2.2.2.1, .int J.1.2.2.2.2.2.2.1, .int J.1.2.2.2.2.2.2.2])))) rup_up d_G_firstSlippery_21 ?_
  refine r_c (cont cy ad S ((fsX S q mo J.1.2.2.2.2.2.1 J.1.2.2.2.2.2.2.1 J.1.2.2.2.2.2.2.2), J.2)) (cu_tri (S := S) (J := J) (x := (fsX S q mo J.1.2.2.2.2.2.1 J.1.2.2.2.2.2.2.1 J.1.2.2.2.2.2.2.2))) ?_
  refine r_iconst X 1 d_G_firstSlippery_24 (by decide) ?_
  refine r_istore X [(4, .int 1), (0, .ref (ad 0)), (1, .ref (ad (16 + 4 * q))), (2, .int mo), (3, .int (nI k))] d_G_firstSlippery_25 (by decide) rfl ?_
  refine r_lv [1, 2, 3, 4, 0] [(0, .ref (ad 0)), (1, .ref (ad (16 + 4 * q))), (2, .int mo), (3, .int (nI k)), (4, .int (nI 1))] rfl ?_
  refine r_at (r_loop (σ := Nat × (sf8)) (fun f9 u9 => u9.1 ≤ (k + 1) ∧ u9.1 + f9 = (k + 1) + 1 ∧ fsF S q (k + 1 - u9.1) u9.1 u9.2 = fsR S q mo k) (fun u9 => cont cy ad S (u9.2, J.2)) 27 (fun u9 => [(0, .ref (ad 0)), (1, .ref (ad (16 + 4 * q))), (2, .int mo), (3, .int (nI k)), (4, .int (nI u9.1))]) (fun _ => []) (fun u9 h => by have h1 := h.1; have h2 := h.2.1; omega) (fun f9 u9 ih_i hI => ?_) ((k + 1) + 1 - 1) (1, (fsX S q mo J.1.2.2.2.2.2.1 J.1.2.2.2.2.2.2.1 J.1.2.2.2.2.2.2.2)) ⟨by omega, by omega, fs_rfo⟩) rfl rfl rfl rfl
  obtain ⟨i, x⟩ := u9
  have hi8 : i ≤ (k + 1) := hI.1
  have hi9 : i + (f9 + 1) = (k + 1) + 1 := hI.2.1
  have hix : fsF S q (k + 1 - i) i x = fsR S q mo k := hI.2.2
  refine r_show (cont cy ad S (x, J.2)) [(0, .ref (ad 0)), (1, .ref (ad (16 + 4 * q))), (2, .int mo), (3, .int (nI k)), (4, .int (nI i))] [] rfl rfl rfl ?_
  refine r_iload X 4 d_G_firstSlippery_27 rfl ?_
  refine r_iload_n X 3 d_G_firstSlippery_29 rfl rfl ?_
  refine r_icmp_gt X 64 d_G_firstSlippery_30 (by decide) (fun h_30 => ?_) (fun h_30 => ?_)
  · have hi : (k + 1) = i := by
      rcases Nat.lt_or_ge i (k + 1) with h | h
      · exact absurd h_30 (nI_nlt (by omega) (by omega))
      · omega
    subst hi
    refine r_iconst X (-1) d_G_firstSlippery_64 (by decide) ?_
    exact r_iret (post := fun r ad' c' => fsR S q mo k = r ∧ ad = ad' ∧ ∃ x9, cont cy ad S (x9, J.2) = c') X hr hlk d_G_firstSlippery_65 (by decide) (by decide) ⟨by rw [← hix, Nat.sub_self]; rfl, rfl, _, rfl⟩
  · have hi : i < (k + 1) := by
      rcases Nat.lt_or_ge i (k + 1) with h | h
      · exact h
      · exact absurd (nI_lt (by omega) (by omega)) h_30
    refine r_aload_n X 1 d_G_firstSlippery_33 rfl rfl ?_
    refine r_aload_n X 0 d_G_firstSlippery_34 rfl rfl ?_
    refine r_get X k_G 5 (by decide) f_G_43 rfl (ct_lo (by decide)) rfl d_G_firstSlippery_35 ?_
    refine r_aload_n X 0 d_G_firstSlippery_38 rfl rfl ?_
    refine r_get X k_G 4 (by decide) f_G_36 rfl (ct_lo (by decide)) rfl d_G_firstSlippery_39 ?_
    refine r_Vv X W0_good hN (c_Road_weatherQuarter l D cy ad (cont cy ad S (x, J.2)) (16 + 4 * q) (17 + 4 * q) (18 + 4 * q) (19 + 4 * q) ((sRc S q).1) ((sRc S q).2.1) ((sRc S q).2.2.1) ((sRc S q).2.2.2.1) ((sRc S q).2.2.2.2.1) ((sRc S q).2.2.2.2.2.1) ((sRc S q).2.2.2.2.2.2.1) ((sRc S q).2.2.2.2.2.2.2.1) ((sRc S q).2.2.2.2.2.2.2.2) (ct_road hS.1 hq) 6 5 (by omega) (by omega) (by omega) x.1 x.2.1 x.2.2.1 x.2.2.2.1 x.2.2.2.2.1 x.2.2.2.2.2.1 x.2.2.2.2.2.2.1 x.2.2.2.2.2.2.2 ((sWe S).1) ((sWe S).2.1) ((sWe S).2.2.1) ((sWe S).2.2.2.1) ((sWe S).2.2.2.2) (ct_lo (by decide)) (ct_lo (by decide))) yv_Road_weatherQuarter m_G_279 (ct_road hS.1 hq) k_Road.2.1 rfl rfl rfl ⟨by decide, by decide⟩ (Nat.le_of_ble_eq_true rfl) ⟨by decide, by decide⟩ d_G_firstSlippery_42 (fun ad9 c9 hp9 => ?_)
    obtain ⟨rfl, rfl⟩ := hp9
    refine r_c (cont cy ad S (wqS S q x, J.2)) cu_tri ?_
    refine r_aload_n X 0 d_G_firstSlippery_45 rfl rfl ?_
    refine r_get X k_G 5 (by decide) f_G_43 rfl (ct_lo (by decide)) rfl d_G_firstSlippery_46 ?_
    refine r_Vi X W0_good hN (c_Surf_isSlippery l D cy ad (cont cy ad S (wqS S q x, J.2)) 6 ((wqS S q x).1) ((wqS S q x).2.1) ((wqS S q x).2.2.1) ((wqS S q x).2.2.2.1) ((wqS S q x).2.2.2.2.1) ((wqS S q x).2.2.2.2.2.1) ((wqS S q x).2.2.2.2.2.2.1) ((wqS S q x).2.2.2.2.2.2.2) (ct_lo (by decide))) yv_Surf_isSlippery m_G_421 (ct_lo (by decide)) k_Surf.2.1 rfl rfl rfl ⟨by decide, by decide⟩ (Nat.le_of_ble_eq_true rfl) ⟨by decide, by decide⟩ d_G_firstSlippery_49 (fun r9 ad9 c9 hp9 => ?_)
    obtain ⟨rfl, rfl, rfl⟩ := hp9
    refine r_if_eq X 58 d_G_firstSlippery_52 (by decide) (fun h_52 => ?_) (fun h_52 => ?_)
    · refine r_iinc X 4 [(4, .int (nI (i + 1))), (0, .ref (ad 0)), (1, .ref (ad (16 + 4 * q))), (2, .int mo), (3, .int (nI k))] d_G_firstSlippery_58 rfl (nI_1 i) (by decide) rfl ?_
      refine r_goto X 27 d_G_firstSlippery_61 (by decide) ?_
      refine r_lv [1, 2, 3, 4, 0] [(0, .ref (ad 0)), (1, .ref (ad (16 + 4 * q))), (2, .int mo), (3, .int (nI k)), (4, .int (nI (i + 1)))] rfl ?_
      exact ih_i ((i + 1, wqS S q x) : Nat × (sf8)) ⟨by omega, by omega, by rw [← hix, show k + 1 - i = (k + 1 - (i + 1)) + 1 from by omega]; exact (if_pos h_52).symm⟩
    · refine r_iload X 4 d_G_firstSlippery_55 rfl ?_
      exact r_iret (post := fun r ad' c' => fsR S q mo k = r ∧ ad = ad' ∧ ∃ x9, cont cy ad S (x9, J.2) = c') X hr hlk d_G_firstSlippery_57 (by decide) (by decide) ⟨by rw [← hix, show k + 1 - i = (k + 1 - (i + 1)) + 1 from by omega]; exact if_neg h_52, rfl, _, rfl⟩
set_option maxRecDepth 100000 in
set_option maxHeartbeats 4000000 in
/-- G_leastSalt -/
theorem c_G_leastSalt (l : Launch) (D : va_G) (cy : Nat → ClassId) (ad : Nat → Nat)  (S : cS) (J : jS) (hS : wfS S) (q : Nat) (hq : q < sNr S) (k : Nat) (hk : k < 100) : rMi l D cls (TY cy) NW y_G_leastSalt (Cond.code y_G_leastSalt b_G_leastSalt 4 rt_G_leastSalt :: W0) { frames := 4, cells := 0, slots := 0, locals := 91 } [.ref (ad 0), .ref (ad (16 + 4 * q)), .int (nI k)] ad (cont cy ad S J) (fun r ad' c' => lsF S q k 61 0 = r ∧ ad = ad' ∧ ∃ x9, cont cy ad S (x9, J.2) = c') := by
  intro sz
  refine r_of (own := R_G) rfl (by decide +kernel) (Nat.le_of_ble_eq_true rfl) ?_
  intro p e s m below meth cd hsz X hr hlk hN hin
  have hb8 := hS.1
  refine r_lv [0, 1, 2] [(0, .ref (ad 0)), (1, .ref (ad (16 + 4 * q))), (2, .int (nI k))] rfl ?_
  refine r_iconst X 0 d_G_leastSalt_0 (by decide) ?_
  refine r_istore_n X [(3, .int 0), (0, .ref (ad 0)), (1, .ref (ad (16 + 4 * q))), (2, .int (nI k))] d_G_leastSalt_1 rfl (by decide) rfl ?_
  refine r_lv [1, 2, 3, 0] [(0, .ref (ad 0)), (1, .ref (ad (16 + 4 * q))), (2, .int (nI k)), (3, .int (nI 0))] rfl ?_
  refine r_at (r_loop (σ := Nat × (sf8)) (fun f9 u9 => u9.1 ≤ 61 ∧ u9.1 + f9 = 61 + 1 ∧ lsF S q k (61 - u9.1) u9.1 = lsF S q k 61 0) (fun u9 => cont cy ad S (u9.2, J.2)) 2 (fun u9 => [(0, .ref (ad 0)), (1, .ref (ad (16 + 4 * q))), (2, .int (nI k)), (3, .int (nI u9.1))]) (fun _ => []) (fun u9 h => by have h1 := h.1; have h2 := h.2.1; omega) (fun f9 u9 ih_i hI => ?_) (61 + 1 - 0) (0, J.1) ⟨by omega, by omega, rfl⟩) rfl rfl rfl rfl
  obtain ⟨i, x⟩ := u9
  have hi8 : i ≤ 61 := hI.1
  have hi9 : i + (f9 + 1) = 61 + 1 := hI.2.1
  have hix : lsF S q k (61 - i) i = lsF S q k 61 0 := hI.2.2
  refine r_show (cont cy ad S (x, J.2)) [(0, .ref (ad 0)), (1, .ref (ad (16 + 4 * q))), (2, .int (nI k)), (3, .int (nI i))] [] rfl rfl rfl ?_
  refine r_iload_n X 3 d_G_leastSalt_2 rfl rfl ?_
  refine r_bipush X 60 d_G_leastSalt_3 (by decide) ?_
  refine r_top (y := nI 60) (by decide) ?_
  refine r_icmp_gt X 27 d_G_leastSalt_5 (by decide) (fun h_5 => ?_) (fun h_5 => ?_)
  · have hi : 61 = i := by
      rcases Nat.lt_or_ge i 61 with h | h
      · exact absurd h_5 (nI_nlt (by omega) (by omega))
      · omega
    subst hi
    refine r_iconst X (-1) d_G_leastSalt_27 (by decide) ?_
    exact r_iret (post := fun r ad' c' => lsF S q k 61 0 = r ∧ ad = ad' ∧ ∃ x9, cont cy ad S (x9, J.2) = c') X hr hlk d_G_leastSalt_28 (by decide) (by decide) ⟨by rw [← hix, Nat.sub_self]; rfl, rfl, _, rfl⟩
  · have hi : i < 61 := by
      rcases Nat.lt_or_ge i 61 with h | h
      · exact h
      · exact absurd (nI_lt (by omega) (by omega)) h_5
    refine r_aload_n X 0 d_G_leastSalt_8 rfl rfl ?_
    refine r_aload_n X 1 d_G_leastSalt_9 rfl rfl ?_
    refine r_iload_n X 3 d_G_leastSalt_10 rfl rfl ?_
    refine r_iload_n X 2 d_G_leastSalt_11 rfl rfl ?_
    refine r_Vi X W0_good hN (c_G_firstSlippery l D cy ad S (x, J.2) hS q hq (nI i) k hk) yv_G_firstSlippery m_G_253 (ct_lo (by decide)) k_G.2.1 rfl rfl rfl ⟨by decide, by decide⟩ (Nat.le_of_ble_eq_true rfl) ⟨by decide, by decide⟩ d_G_leastSalt_12 (fun r9 ad9 c9 hp9 => ?_)
    obtain ⟨rfl, rfl, x9, rfl⟩ := hp9
    refine r_c (cont cy ad S (x9, J.2)) rfl ?_
    refine r_iconst X (-1) d_G_leastSalt_15 (by decide) ?_
    refine r_icmp_ne X 21 d_G_leastSalt_16 (by decide) (fun h_16 => ?_) (fun h_16 => ?_)
    · refine r_iinc X 3 [(3, .int (nI (i + 1))), (0, .ref (ad 0)), (1, .ref (ad (16 + 4 * q))), (2, .int (nI k))] d_G_leastSalt_21 rfl (nI_1 i) (by decide) rfl ?_
      refine r_goto X 2 d_G_leastSalt_24 (by decide) ?_
      refine r_lv [1, 2, 3, 0] [(0, .ref (ad 0)), (1, .ref (ad (16 + 4 * q))), (2, .int (nI k)), (3, .int (nI (i + 1)))] rfl ?_
      exact ih_i ((i + 1, x9) : Nat × (sf8)) ⟨by omega, by omega, by rw [← hix, show 61 - i = (61 - (i + 1)) + 1 from by omega]; exact (if_neg h_16).symm⟩
    · refine r_iload_n X 3 d_G_leastSalt_19 rfl rfl ?_
      exact r_iret (post := fun r ad' c' => lsF S q k 61 0 = r ∧ ad = ad' ∧ ∃ x9, cont cy ad S (x9, J.2) = c') X hr hlk d_G_leastSalt_20 (by decide) (by decide) ⟨by rw [← hix, show 61 - i = (61 - (i + 1)) + 1 from by omega]; exact if_pos h_16, rfl, _, rfl⟩
set_option maxRecDepth 100000 in
set_option maxHeartbeats 4000000 in
/-- G_lowerWay -/
theorem c_G_lowerWay (l : Launch) (D : va_G) (cy : Nat → ClassId) (ad : Nat → Nat)  (S : cS) (J : jS) (hS : wfS S) (a z n : Int32) : rMv l D cls (TY cy) NW y_G_lowerWay (Cond.code y_G_lowerWay b_G_lowerWay 5 rt_G_lowerWay :: W0) { frames := 1, cells := 0, slots := 0, locals := 22 } [.ref (ad 0), .int a, .int z, .int n] ad (cont cy ad S J) (fun ad' c' => ad = ad' ∧ cont cy ad S (J.1, lwF J.2.1 a z n, J.2.2) = c') := by
  intro sz
  refine r_of (own := R_G) rfl (by decide +kernel) (Nat.le_of_ble_eq_true rfl) ?_
  intro p e s m below meth cd hsz X hr hlk hN hin
  refine r_lv [0, 1, 2, 3] [(0, .ref (ad 0)), (1, .int a), (2, .int z), (3, .int n)] rfl ?_
  refine r_aload_n X 0 d_G_lowerWay_0 rfl rfl ?_
  refine r_get X k_G 6 (by decide) f_G_47 rfl (ct_lo (by decide)) rfl d_G_lowerWay_1 ?_
  refine r_iload_n X 1 d_G_lowerWay_4 rfl rfl ?_
  refine r_Si X W0_good hN (c_G_numberAt l D cy ad (cont cy ad S J) 7 7 (by decide) J.2.1 (ct_lo (by decide)) a) ys_G_numberAt m_G_413 rfl rfl ⟨by decide, by decide⟩ (Nat.le_of_ble_eq_true rfl) ⟨by decide, by decide⟩ d_G_lowerWay_5 (fun r9 ad9 c9 hp9 => ?_)
  obtain ⟨rfl, rfl, rfl⟩ := hp9
  refine r_istore X [(4, .int (numA 7 J.2.1 a)), (0, .ref (ad 0)), (1, .int a), (2, .int z), (3, .int n)] d_G_lowerWay_8 (by decide) rfl ?_
  refine r_iload X 0 d_G_lowerWay_10 rfl ?_
  refine r_ldcw X q_G_278 d_G_lowerWay_12 ?_
  refine r_icmp_eq X 30 d_G_lowerWay_15 (by decide) (fun h_15 => ?_) (fun h_15 => ?_)
  · exact r_vret (post := fun ad' c' => ad = ad' ∧ cont cy ad S (J.1, lwF J.2.1 a z n, J.2.2) = c') X hr hlk d_G_lowerWay_30 (by decide) (by decide) ⟨rfl, congrArg (fun W9 => cont cy ad S (J.1, W9, J.2.2)) (if_pos h_15)⟩
  · refine r_aload_n X 1 d_G_lowerWay_18 rfl rfl ?_
    refine r_get X k_G 6 (by decide) f_G_47 rfl (ct_lo (by decide)) rfl d_G_lowerWay_19 ?_
    refine r_iload_n X 3 d_G_lowerWay_22 rfl rfl ?_
    refine r_iload X 0 d_G_lowerWay_23 rfl ?_
    refine r_iload_n X 4 d_G_lowerWay_25 rfl rfl ?_
    refine r_iadd X d_G_lowerWay_26 ?_
    refine r_Sv X W0_good hN (c_G_lower l D cy ad (cont cy ad S J) 7 7 (by decide) J.2.1 (ct_lo (by decide)) z ((numA 7 J.2.1 a) + n)) ys_G_lower m_G_400 rfl rfl ⟨by decide, by decide⟩ (Nat.le_of_ble_eq_true rfl) ⟨by decide, by decide⟩ d_G_lowerWay_27 (fun ad9 c9 hp9 => ?_)
    obtain ⟨rfl, rfl⟩ := hp9
    refine r_c (cont cy ad S (J.1, lowA 7 J.2.1 z (numA 7 J.2.1 a + n), J.2.2)) cu_wy ?_
    exact r_vret (post := fun ad' c' => ad = ad' ∧ cont cy ad S (J.1, lwF J.2.1 a z n, J.2.2) = c') X hr hlk d_G_lowerWay_30 (by decide) (by decide) ⟨rfl, congrArg (fun W9 => cont cy ad S (J.1, W9, J.2.2)) (if_neg h_15)⟩
set_option maxRecDepth 100000 in
set_option maxHeartbeats 4000000 in
/-- G_shortestWay -/
theorem c_G_shortestWay (l : Launch) (D : va_G) (cy : Nat → ClassId) (ad : Nat → Nat)  (S : cS) (J : jS) (hS : wfS S) (a z : Int32) : rMi l D cls (TY cy) NW y_G_shortestWay (Cond.code y_G_shortestWay b_G_shortestWay 8 rt_G_shortestWay :: W0) { frames := 2, cells := 0, slots := 0, locals := 46 } [.ref (ad 0), .int a, .int z] ad (cont cy ad S J) (fun r ad' c' => wayF S a z = r ∧ ad = ad' ∧ ∃ W9, cont cy ad S (J.1, W9, J.2.2) = c') := by
  intro sz
  refine r_of (own := R_G) rfl (by decide +kernel) (Nat.le_of_ble_eq_true rfl) ?_
  intro p e s m below meth cd hsz X hr hlk hN hin
  have hb8 := hS.1
  refine r_lv [0, 1, 2] [(0, .ref (ad 0)), (1, .int a), (2, .int z)] rfl ?_
  refine r_aload_n X 0 d_G_shortestWay_0 rfl rfl ?_
  refine r_get X k_G 6 (by decide) f_G_47 rfl (ct_lo (by decide)) rfl d_G_shortestWay_1 ?_
  refine r_ldcw X q_G_278 d_G_shortestWay_4 ?_
  refine r_Sv X W0_good hN (c_Arrays_fill_53178 l D cy ad (cont cy ad S J) 7 7 (by decide) J.2.1 (ct_lo (by decide)) 1000000000) ys_Arrays_fill_53178 m_G_394 rfl rfl ⟨by decide, by decide⟩ (Nat.le_of_ble_eq_true rfl) ⟨by decide, by decide⟩ d_G_shortestWay_7 (fun ad9 c9 hp9 => ?_)
  obtain ⟨rfl, rfl⟩ := hp9
  refine r_aload_n X 0 d_G_shortestWay_10 rfl rfl ?_
  refine r_get X k_G 6 (by decide) f_G_47 rfl (rup_ne (by omega) ((ct_lo (by decide)))) rfl d_G_shortestWay_11 ?_
  refine r_iload_n X 1 d_G_shortestWay_14 rfl rfl ?_
  refine r_iconst X 0 d_G_shortestWay_15 (by decide) ?_
  refine r_Sv X W0_good hN (c_G_lower l D cy ad (va_up (cont cy ad S J) 7 (some (.inl (cy 0, 7, .inl (fun _ => 1000000000))))) 7 7 (by decide) (fun _ => 1000000000) rup_self a 0) ys_G_lower m_G_400 rfl rfl ⟨by decide, by decide⟩ (Nat.le_of_ble_eq_true rfl) ⟨by decide, by decide⟩ d_G_shortestWay_16 (fun ad9 c9 hp9 => ?_)
  obtain ⟨rfl, rfl⟩ := hp9
  refine r_c (va_up (cont cy ad S J) 7 (some (.inl (cy 0, 7, .inl (lowA 7 (fun _ => 1000000000) a 0))))) rup_up ?_
  refine r_c (cont cy ad S (J.1, (lowA 7 (fun _ => farK) a 0), J.2.2)) cu_wy ?_
  refine r_iconst X 1 d_G_shortestWay_19 (by decide) ?_
  refine r_istore_n X [(3, .int 1), (0, .ref (ad 0)), (1, .int a), (2, .int z)] d_G_shortestWay_20 rfl (by decide) rfl ?_
  refine r_lv [1, 2, 3, 0] [(0, .ref (ad 0)), (1, .int a), (2, .int z), (3, .int (nI (0 + 1)))] rfl ?_
  refine r_at (r_loop (σ := Nat) (fun f9 o => o ≤ 6 ∧ o + f9 = 6 + 1) (fun o => cont cy ad S (J.1, (wyO S (lowA 7 (fun _ => farK) a 0) o), J.2.2)) 21 (fun o => [(0, .ref (ad 0)), (1, .int a), (2, .int z), (3, .int (nI (o + 1)))]) (fun _ => []) (fun o h => by have h1 := h.1; have h2 := h.2; omega) (fun f9 o ih_o hI => ?_) (6 + 1 - 0) 0 ⟨by omega, by omega⟩) rfl rfl rfl rfl
  obtain ⟨ho8, ho9⟩ := hI
  refine r_iload_n X 3 d_G_shortestWay_21 rfl rfl ?_
  refine r_bipush X 7 d_G_shortestWay_22 (by decide) ?_
  refine r_top (y := nI 7) (by decide) ?_
  refine r_icmp_ge X 110 d_G_shortestWay_24 (by decide) (fun h_24 => ?_) (fun h_24 => ?_)
  · have ho : 6 = o := by
      rcases Nat.lt_or_ge o 6 with h | h
      · exact absurd h_24 (nI_ge (by omega) (by omega))
      · omega
    subst ho
    refine r_aload_n X 0 d_G_shortestWay_110 rfl rfl ?_
    refine r_get X k_G 6 (by decide) f_G_47 rfl (ct_lo (by decide)) rfl d_G_shortestWay_111 ?_
    refine r_iload_n X 2 d_G_shortestWay_114 rfl rfl ?_
    refine r_Si X W0_good hN (c_G_numberAt l D cy ad (cont cy ad S (J.1, (wyO S (lowA 7 (fun _ => farK) a 0) 6), J.2.2)) 7 7 (by decide) (wyO S (lowA 7 (fun _ => farK) a 0) 6) (ct_lo (by decide)) z) ys_G_numberAt m_G_413 rfl rfl ⟨by decide, by decide⟩ (Nat.le_of_ble_eq_true rfl) ⟨by decide, by decide⟩ d_G_shortestWay_115 (fun r9 ad9 c9 hp9 => ?_)
    obtain ⟨rfl, rfl, rfl⟩ := hp9
    refine r_istore_n X [(3, .int (numA 7 (wyO S (lowA 7 (fun _ => farK) a 0) 6) z)), (0, .ref (ad 0)), (1, .int a), (2, .int z)] d_G_shortestWay_118 rfl (by decide) rfl ?_
    refine r_iload_n X 0 d_G_shortestWay_119 rfl rfl ?_
    refine r_ldcw X q_G_278 d_G_shortestWay_120 ?_
    refine r_icmp_ne X 130 d_G_shortestWay_123 (by decide) (fun h_123 => ?_) (fun h_123 => ?_)
    · refine r_iload_n X 0 d_G_shortestWay_130 rfl rfl ?_
      exact r_iret (post := fun r ad' c' => wayF S a z = r ∧ ad = ad' ∧ ∃ W9, cont cy ad S (J.1, W9, J.2.2) = c') X hr hlk d_G_shortestWay_131 (by decide) (by decide) ⟨by unfold wayF; first | exact if_pos h_123 | exact if_neg h_123, rfl, _, rfl⟩
    · refine r_iconst X (-1) d_G_shortestWay_126 (by decide) ?_
      refine r_goto X 131 d_G_shortestWay_127 (by decide) ?_
      exact r_iret (post := fun r ad' c' => wayF S a z = r ∧ ad = ad' ∧ ∃ W9, cont cy ad S (J.1, W9, J.2.2) = c') X hr hlk d_G_shortestWay_131 (by decide) (by decide) ⟨by unfold wayF; first | exact if_pos h_123 | exact if_neg h_123, rfl, _, rfl⟩
  · have ho : o < 6 := by
      rcases Nat.lt_or_ge o 6 with h | h
      · exact h
      · exact absurd (nI_le (by omega) (by omega)) h_24
    refine r_aload_n X 0 d_G_shortestWay_27 rfl rfl ?_
    refine r_get X k_G 0 (by decide) f_G_11 rfl (ct_lo (by decide)) rfl d_G_shortestWay_28 ?_
    refine r_astore X [(4, .ref (ad 1)), (0, .ref (ad 0)), (1, .int a), (2, .int z), (3, .int (nI (o + 1)))] d_G_shortestWay_31 (by decide) rfl ?_
    refine r_aload X 0 d_G_shortestWay_33 rfl ?_
    refine r_alen (v := nI 8) X 2 (ct_lo (by decide)) rfl rfl d_G_shortestWay_35 ?_
    refine r_istore X [(5, .int (nI 8)), (4, .ref (ad 1)), (0, .ref (ad 0)), (1, .int a), (2, .int z), (3, .int (nI (o + 1)))] d_G_shortestWay_36 (by decide) rfl ?_
    refine r_iconst X 0 d_G_shortestWay_38 (by decide) ?_
    refine r_istore X [(6, .int 0), (5, .int (nI 8)), (4, .ref (ad 1)), (0, .ref (ad 0)), (1, .int a), (2, .int z), (3, .int (nI (o + 1)))] d_G_shortestWay_39 (by decide) rfl ?_
    refine r_lv [3, 4, 5, 6, 2, 1, 0] [(0, .ref (ad 0)), (1, .int a), (2, .int z), (3, .int (nI (o + 1))), (4, .ref (ad 1)), (5, .int (nI 8)), (6, .int (nI 0))] rfl ?_
    refine r_at (r_loop (σ := Nat) (fun f9 i => i ≤ 8 ∧ i + f9 = 8 + 1) (fun i => cont cy ad S (J.1, (wyI S (wyO S (lowA 7 (fun _ => farK) a 0) o) i), J.2.2)) 41 (fun i => [(0, .ref (ad 0)), (1, .int a), (2, .int z), (3, .int (nI (o + 1))), (4, .ref (ad 1)), (5, .int (nI 8)), (6, .int (nI i))]) (fun _ => []) (fun i h => by have h1 := h.1; have h2 := h.2; omega) (fun f9 i ih_i hI => ?_) (8 + 1 - 0) 0 ⟨by omega, by omega⟩) rfl rfl rfl rfl
    obtain ⟨hi8, hi9⟩ := hI
    refine r_iload X 6 d_G_shortestWay_41 rfl ?_
    refine r_iload X 5 d_G_shortestWay_43 rfl ?_
    refine r_icmp_ge X 104 d_G_shortestWay_45 (by decide) (fun h_45 => ?_) (fun h_45 => ?_)
    · have hi : 8 = i := by
        rcases Nat.lt_or_ge i 8 with h | h
        · exact absurd h_45 (nI_ge (by omega) (by omega))
        · omega
      subst hi
      refine r_iinc X 3 [(3, .int (nI (o + 1 + 1))), (0, .ref (ad 0)), (1, .int a), (2, .int z), (4, .ref (ad 1)), (5, .int (nI 8)), (6, .int (nI 8))] d_G_shortestWay_104 rfl (nI_1 (o + 1)) (by decide) rfl ?_
      refine r_goto X 21 d_G_shortestWay_107 (by decide) ?_
      refine r_lv [1, 2, 3, 0] [(0, .ref (ad 0)), (1, .int a), (2, .int z), (3, .int (nI ((o + 1) + 1)))] rfl ?_
      exact ih_o (o + 1) ⟨by omega, by omega⟩
    · have hi : i < 8 := by
        rcases Nat.lt_or_ge i 8 with h | h
        · exact h
        · exact absurd (nI_le (by omega) (by omega)) h_45
      refine r_aload X 4 d_G_shortestWay_48 rfl ?_
      refine r_iload X 6 d_G_shortestWay_50 rfl ?_
      by_cases hr : i < sNr S
      · refine r_aald (v := .ref (ad (16 + 4 * i))) X 2 (ct_lo (by decide)) rfl (vp_in_nI hi (by decide)) (rRf_y (by omega) hr) d_G_shortestWay_52 ?_
        refine r_astore X [(7, .ref (ad (16 + 4 * i))), (0, .ref (ad 0)), (1, .int a), (2, .int z), (3, .int (nI (o + 1))), (4, .ref (ad 1)), (5, .int (nI 8)), (6, .int (nI i))] d_G_shortestWay_53 (by decide) rfl ?_
        refine r_aload X 0 d_G_shortestWay_55 rfl ?_
        refine r_ifnull X d_G_shortestWay_57 ?_
        refine r_aload_n X 1 d_G_shortestWay_60 rfl rfl ?_
        refine r_aload X 0 d_G_shortestWay_61 rfl ?_
        refine r_get X k_Road 0 (by decide) f_G_404 rfl (ct_road hS.1 hr) rfl d_G_shortestWay_63 ?_
        refine r_aload X 0 d_G_shortestWay_66 rfl ?_
        refine r_get X k_Road 1 (by decide) f_G_407 rfl (ct_road hS.1 hr) rfl d_G_shortestWay_68 ?_
        refine r_aload X 0 d_G_shortestWay_71 rfl ?_
        refine r_get X k_Road 2 (by decide) f_G_311 rfl (ct_road hS.1 hr) rfl d_G_shortestWay_73 ?_
        refine r_Vv X W0_good hN (c_G_lowerWay l D cy ad S (J.1, (wyI S (wyO S (lowA 7 (fun _ => farK) a 0) o) i), J.2.2) hS ((sRc S i).1) ((sRc S i).2.1) ((sRc S i).2.2.1)) yv_G_lowerWay m_G_410 (ct_lo (by decide)) k_G.2.1 rfl rfl rfl ⟨by decide, by decide⟩ (Nat.le_of_ble_eq_true rfl) ⟨by decide, by decide⟩ d_G_shortestWay_76 (fun ad9 c9 hp9 => ?_)
        obtain ⟨rfl, rfl⟩ := hp9
        refine r_c (cont cy ad S (J.1, lwF (wyI S (wyO S (lowA 7 (fun _ => farK) a 0) o) i) ((sRc S i).1) ((sRc S i).2.1) ((sRc S i).2.2.1), J.2.2)) rfl ?_
        refine r_aload_n X 1 d_G_shortestWay_79 rfl rfl ?_
        refine r_aload X 0 d_G_shortestWay_80 rfl ?_
        refine r_get X k_Road 1 (by decide) f_G_407 rfl (ct_road hS.1 hr) rfl d_G_shortestWay_82 ?_
        refine r_aload X 0 d_G_shortestWay_85 rfl ?_
        refine r_get X k_Road 0 (by decide) f_G_404 rfl (ct_road hS.1 hr) rfl d_G_shortestWay_87 ?_
        refine r_aload X 0 d_G_shortestWay_90 rfl ?_
        refine r_get X k_Road 2 (by decide) f_G_311 rfl (ct_road hS.1 hr) rfl d_G_shortestWay_92 ?_
        refine r_Vv X W0_good hN (c_G_lowerWay l D cy ad S (J.1, lwF (wyI S (wyO S (lowA 7 (fun _ => farK) a 0) o) i) ((sRc S i).1) ((sRc S i).2.1) ((sRc S i).2.2.1), J.2.2) hS ((sRc S i).2.1) ((sRc S i).1) ((sRc S i).2.2.1)) yv_G_lowerWay m_G_410 (ct_lo (by decide)) k_G.2.1 rfl rfl rfl ⟨by decide, by decide⟩ (Nat.le_of_ble_eq_true rfl) ⟨by decide, by decide⟩ d_G_shortestWay_95 (fun ad9 c9 hp9 => ?_)
        obtain ⟨rfl, rfl⟩ := hp9
        refine r_c (cont cy ad S (J.1, lwF (lwF (wyI S (wyO S (lowA 7 (fun _ => farK) a 0) o) i) ((sRc S i).1) ((sRc S i).2.1) ((sRc S i).2.2.1)) ((sRc S i).2.1) ((sRc S i).1) ((sRc S i).2.2.1), J.2.2)) rfl ?_
        refine r_c (cont cy ad S (J.1, (wyI S (wyO S (lowA 7 (fun _ => farK) a 0) o) (i + 1)), J.2.2)) (congrArg (fun W9 => cont cy ad S (J.1, W9, J.2.2)) (wyI_y hr)) ?_
        refine r_iinc X 7 [(6, .int (nI (i + 1))), (7, .ref (ad (16 + 4 * i))), (0, .ref (ad 0)), (1, .int a), (2, .int z), (3, .int (nI (o + 1))), (4, .ref (ad 1)), (5, .int (nI 8))] d_G_shortestWay_98 rfl (nI_1 i) (by decide) rfl ?_
        refine r_goto X 41 d_G_shortestWay_101 (by decide) ?_
        refine r_lv [2, 3, 4, 5, 6, 7, 0] [(0, .ref (ad 0)), (1, .int a), (2, .int z), (3, .int (nI (o + 1))), (4, .ref (ad 1)), (5, .int (nI 8)), (6, .int (nI (i + 1)))] rfl ?_
        exact ih_i (i + 1) ⟨by omega, by omega⟩
      · refine r_aald (v := .null) X 2 (ct_lo (by decide)) rfl (vp_in_nI hi (by decide)) (rRf_n (by omega) hr) d_G_shortestWay_52 ?_
        refine r_astoreN X [(7, .null), (0, .ref (ad 0)), (1, .int a), (2, .int z), (3, .int (nI (o + 1))), (4, .ref (ad 1)), (5, .int (nI 8)), (6, .int (nI i))] d_G_shortestWay_53 (by decide) rfl ?_
        refine r_aloadN X 0 d_G_shortestWay_55 rfl ?_
        refine r_ifnullN X 98 d_G_shortestWay_57 (by decide) ?_
        refine r_c (cont cy ad S (J.1, (wyI S (wyO S (lowA 7 (fun _ => farK) a 0) o) (i + 1)), J.2.2)) (congrArg (fun W9 => cont cy ad S (J.1, W9, J.2.2)) (wyI_n hr)) ?_
        refine r_iinc X 7 [(6, .int (nI (i + 1))), (7, .null), (0, .ref (ad 0)), (1, .int a), (2, .int z), (3, .int (nI (o + 1))), (4, .ref (ad 1)), (5, .int (nI 8))] d_G_shortestWay_98 rfl (nI_1 i) (by decide) rfl ?_
        refine r_goto X 41 d_G_shortestWay_101 (by decide) ?_
        refine r_lv [2, 3, 4, 5, 6, 7, 0] [(0, .ref (ad 0)), (1, .int a), (2, .int z), (3, .int (nI (o + 1))), (4, .ref (ad 1)), (5, .int (nI 8)), (6, .int (nI (i + 1)))] rfl ?_
        exact ih_i (i + 1) ⟨by omega, by omega⟩
