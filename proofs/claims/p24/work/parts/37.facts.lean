/-! what the law says of a county of five roads and one lorry, in numbers -/
def GS (S : cS) (t : Nat) (v h : Nat) : Prop := sNr S = 5 ∧ sNow S = nI t ∧ (∃ o z g : Nat → Nat, ends S o z ∧ ∀ i, i < 5 → (sRc S i).2.2.1 = nI (g i) ∧ 0 < g i ∧ g i ≤ 4) ∧ v < 7 ∧ ∃ ah, Lat S [] (nI v) ah 0 h
theorem GS.wf {S : cS} {t v h : Nat} (hG : GS S t v h) (ht : t < 200) : wfS S := by
  obtain ⟨h1, h2, -, -, ah, h4⟩ := hG
  refine ⟨by rw [h1]; decide, by rw [h4.1]; decide, ⟨t, ht, h2⟩, fun i hi => ⟨0, by decide, ?_⟩⟩
  rw [h4.1] at hi
  have : i = 0 := by omega
  subst this
  exact h4.2.2.1
theorem GS.nl {S : cS} {t v h : Nat} (hG : GS S t v h) : sNl S = 1 := by
  obtain ⟨-, -, -, -, ah, h4⟩ := hG
  exact h4.1
theorem GS.idle {S : cS} {t v h : Nat} (hG : GS S t v h) : idle S := by
  obtain ⟨-, -, -, -, ah, h4⟩ := hG
  intro j hj
  rw [h4.1] at hj
  have : j = 0 := by omega
  subst this
  exact h4.2.2.1
theorem GS.nd {S : cS} {t v h : Nat} (hG : GS S t v h) : (sLo S 0).2.2.1 = nI v := by
  obtain ⟨-, -, -, -, ah, h4⟩ := hG
  exact h4.2.2.2.1
theorem GS.nn {S : cS} {t v h : Nat} (hG : GS S t v h) : ¬ (sLo S 0).2.2.1 = -1 := by
  rw [hG.nd]
  exact nI_m1 (by have := hG.2.2.2.1; omega)
theorem GS.sky {S : cS} {t v h : Nat} {a z r f w : Int32} (hG : GS S t v h) : GS (fallS (airS S a z) r f w) t v h := hG
theorem ends_7 {S T : cS} {o z : Nat → Nat} (h : ends S o z) (hn : sNr T = sNr S) (h7 : ∀ r, r < sNr S → rs7 (sRc T r) = rs7 (sRc S r)) : ends T o z := fun i hi => by
  rw [hn] at hi
  obtain ⟨x1, x2, x3⟩ := h i hi
  exact ⟨(rs7_p (h7 i hi)).1.trans x1, (rs7_p (h7 i hi)).2.1.trans x2, x3⟩
theorem pq_7 {S : cS} {t r : Nat} (h : idle S) : rs7 (sRc (pqF S t) r) = rs7 (sRc S r) := by
  have e : pqF S t = rqF (nowS S (nI t)) t 8 := lj_idle (idle_rq (S := nowS S (nI t)) h 8) 3
  rw [e]
  exact (rq_7 (S := nowS S (nI t)) (t := t) (r := r) 8).1
theorem ps_7 {S : cS} {t r : Nat} (h : idle S) (h8 : sNr S ≤ 8) (hr : r < sNr S) (i : Nat) : rs7 (sRc (psF S t i) r) = rs7 (sRc S r) := by
  induction i with
  | zero => rfl
  | succ i ih =>
    have h1 := (ps_idle (t := t) h h8 hr i).1
    have e : psF S t (i + 1) = pqF (psF S t i) (t + i + 1) := rfl
    rw [e, ← ih]
    generalize psF S t i = T at h1 ⊢
    exact pq_7 h1
theorem GS.ps {S : cS} {t v h : Nat} (hG : GS S t v h) (i : Nat) : GS (psF S t i) (t + i) v h := by
  obtain ⟨h1, h2, ⟨o, z, g, h3, h4⟩, h5, ah, h6⟩ := id hG
  have h8 : sNr S ≤ 8 := by rw [h1]; decide
  have hi := hG.idle
  obtain ⟨-, p1, p2, p3, p4, p5, -, -⟩ := ps_idle (t := t) (q := 0) hi h8 (by rw [h1]; decide) i
  have h7 : ∀ r, r < sNr S → rs7 (sRc (psF S t i) r) = rs7 (sRc S r) := fun r hr => ps_7 hi h8 hr i
  exact ⟨p1.trans h1, now_ps h2 i, ⟨o, z, g, ends_7 h3 p1 h7, fun r hr => ⟨(rs7_p (h7 r (by rw [h1]; exact hr))).2.2.1.trans (h4 r hr).1, (h4 r hr).2⟩⟩, h5, ah, h6.of p2 p4 p5⟩
theorem ps_we {S : cS} {t v h i : Nat} (hG : GS S t v h) : sWe (psF S t i) = sWe S := (ps_idle (t := t) (q := 0) hG.idle (by rw [hG.1]; decide) (by rw [hG.1]; decide) i).2.2.2.1
theorem ps_tm {S : cS} {t v h i r : Nat} (hG : GS S t v h) (hr : r < 5) : (sRc (psF S t i) r).2.2.2.2.2.2.2.1 = tmx S r i := (ps_idle (t := t) (q := r) hG.idle (by rw [hG.1]; decide) (by rw [hG.1]; exact hr) i).2.2.2.2.2.2.2.2
/-- what is told of the first slippery quarter, beside what is counted -/
theorem fir {S : cS} {r q : Nat} (hq : q < 30) : ∃ f : Nat, f ≤ q ∧ ((f = 0 ∧ fsR S r 0 q = -1) ∨ (1 ≤ f ∧ fsR S r 0 q = nI f)) ∧ (∀ i, i ≤ q → (f = 0 ∨ i < f) → tmx S r i = tmx S r 0) ∧ (1 ≤ f → tmx S r f = tmx S r 0 + 1) := by
  rw [fsR_it]
  rcases fs_vals (S := S) (q := r) q (0 + 1) (itx S r 0) with h | ⟨j, h1, h2, h3⟩
  · have hn := fs_none (S := S) (q := r) q 0 (by omega) h
    exact ⟨0, by omega, Or.inl ⟨rfl, h⟩, fun i hi _ => tmx_same i (fun j j1 j2 => hn j j1 (by omega)), fun z => absurd z (by decide)⟩
  · obtain ⟨s1, s2, s3, s4⟩ := fs_some (S := S) (q := r) (f := j) (by omega) q 0 (by omega) h3
    refine ⟨j, by omega, Or.inr ⟨by omega, h3⟩, fun i hi hf => tmx_same i (fun k k1 k2 => s4 k k1 (by omega)), fun _ => ?_⟩
    obtain ⟨f, rfl⟩ : ∃ f, j = f + 1 := ⟨j - 1, by omega⟩
    exact tmx_first s3 s4
theorem sumN_b {nr : Nat} {g : Nat → Int32} : ∀ k, ∃ j, j ≤ k ∧ sumN nr (fun q9 => if g q9 = 0 then 0 else 1) k = nI j
  | 0 => ⟨0, by decide, rfl⟩
  | k + 1 => by
    obtain ⟨j, h1, h2⟩ := sumN_b (nr := nr) (g := g) k
    by_cases hx : k < nr ∧ ¬ g k = 0
    · refine ⟨j + 1, by omega, ?_⟩
      show sumN nr _ k + (if k < nr then (if g k = 0 then 0 else 1) else 0) = _
      rw [h2, if_pos hx.1, if_neg hx.2, nI_1]
    · refine ⟨j, by omega, ?_⟩
      show sumN nr _ k + (if k < nr then (if g k = 0 then 0 else 1) else 0) = _
      rw [h2]
      by_cases h3 : k < nr
      · rw [if_pos h3, if_pos (Decidable.byContradiction fun h4 => hx ⟨h3, h4⟩), Int32.add_zero]
      · rw [if_neg h3, Int32.add_zero]
theorem sp_b {S : cS} {t : Nat} : ∀ i, ∃ j, j ≤ 8 * i ∧ spF S t i = nI j
  | 0 => ⟨0, by decide, rfl⟩
  | i + 1 => by
    obtain ⟨j, h1, h2⟩ := sp_b (S := S) (t := t) i
    obtain ⟨k, h3, h4⟩ := sumN_b (nr := sNr (psF S t (i + 1))) (g := fun q9 => sSl (psF S t (i + 1)) q9 (sNow (psF S t (i + 1))).toNatClampNeg) 8
    refine ⟨j + k, by omega, ?_⟩
    unfold spF
    rw [h2, ← nI_add]
    exact congrArg (nI j + ·) h4
theorem sp_nn {S : cS} {t i : Nat} (hi : i ≤ 20) : ¬ spF S t i < 0 := by
  obtain ⟨j, h1, h2⟩ := sp_b (S := S) (t := t) i
  rw [h2]
  exact nI_pos (by omega)
/-! the start -/
theorem fd_rc {xs : Nat → Int32} {L d : Nat} : ∀ k i, i < k → sRc (fdS xs L d k) i = fR7 xs L (d + 7 * i) i
  | 0, i, h => absurd h (Nat.not_lt_zero i)
  | k + 1, i, h => by
    show va_up (sRc (fdS xs L d k)) (sNr (fdS xs L d k)) _ i = _
    rw [fd_nr]
    by_cases hik : i = k
    · subst hik
      rw [va_up_self]
    · rw [va_up_ne _ _ hik]
      exact fd_rc k i (by omega)
theorem fd_now {xs : Nat → Int32} {L d : Nat} : ∀ k, sG (fdS xs L d k) = (0, 100, 0, 0, 0) ∧ sWe (fdS xs L d k) = (5, 0, 0, 0, 0)
  | 0 => ⟨rfl, rfl⟩
  | k + 1 => fd_now (xs := xs) (L := L) (d := d) k
def fdT (xs : Nat → Int32) (L d : Nat) : cS := addL (fdS xs L d 5) (lo0 1) (fun _ => 0)
theorem GS.start {xs : Nat → Int32} {L d : Nat} : GS (fdT xs L d) 0 0 0 := by
  have a1 := fd_nr (xs := xs) (L := L) (d := d) 5
  have a2 := fd_nl (xs := xs) (L := L) (d := d) 5
  have a3 := (fd_now (xs := xs) (L := L) (d := d) 5).1
  have a4 := fun i hi => fd_rc (xs := xs) (L := L) (d := d) 5 i hi
  unfold fdT
  generalize fdS xs L d 5 = F at a1 a2 a3 a4 ⊢
  have hl : sLo (addL F (lo0 1) (fun _ => 0)) 0 = lo0 1 := by
    show va_up (sLo F) (sNl F) (lo0 1) 0 = _
    rw [a2, va_up_self]
  refine ⟨a1, ?_, ⟨fun i => drw xs L (d + 7 * i) (fN i), fun i => (drw xs L (d + 7 * i) (fN i) + 1 + drw xs L (d + 7 * i + 1) 4) % 5, fun i => 1 + drw xs L (d + 7 * i + 2) 4, fun i hi => ?_, fun i hi => ?_⟩, by decide, 0, ?_⟩
  · show (sG F).1 = nI 0
    rw [a3]
    rfl
  · have hi5 : i < 5 := by
      have h : i < sNr F := hi
      omega
    show (sRc F i).1 = _ ∧ (sRc F i).2.1 = _ ∧ _
    rw [a4 i hi5]
    have z0 : drw xs L (d + 7 * i) (fN i) < fN i := drw_lt (fN_pos i)
    have z1 := fN_le i
    exact ⟨rfl, rfl, (by show drw xs L (d + 7 * i) (fN i) < 7; omega), (by show (drw xs L (d + 7 * i) (fN i) + 1 + drw xs L (d + 7 * i + 1) 4) % 5 < 7; omega)⟩
  · show (sRc F i).2.2.1 = _ ∧ _
    rw [a4 i hi]
    have z0 : drw xs L (d + 7 * i + 2) 4 < 4 := drw_lt (by decide)
    exact ⟨rfl, (by show 0 < 1 + drw xs L (d + 7 * i + 2) 4; omega), (by show 1 + drw xs L (d + 7 * i + 2) 4 ≤ 4; omega)⟩
  · unfold Lat
    rw [hl]
    exact ⟨congrArg (· + 1) a2, by decide, rfl, rfl, fun z => absurd z (by decide), rfl, rfl, fun i hi => absurd hi (Nat.not_lt_zero i)⟩
theorem addL_we (S : cS) (x : lo9) (od : Nat → Int32) : sWe (addL S x od) = sWe S := rfl
theorem fdT_we {xs : Nat → Int32} {L d : Nat} : sWe (fdT xs L d) = (5, 0, 0, 0, 0) := by
  unfold fdT
  rw [addL_we]
  exact (fd_now (xs := xs) (L := L) (d := d) 5).2
/-! best orders -/
def digV (e0 : Nat) : List Nat → Nat
  | [] => e0
  | d :: ds => digV e0 ds * 10 + d
theorem digV_1 : ∀ ds, digV 1 ds = digR ds
  | [] => rfl
  | d :: ds => by
    show digV 1 ds * 10 + d = digR ds * 10 + d
    rw [digV_1 ds]
theorem fwd_mem {nr : Nat} {o z g : Nat → Nat} : ∀ (ds : List Nat) (a n len : Nat), Fwd nr o z g a ds n len → ∀ d ∈ ds, d < nr
  | [], _, _, _, _ => fun d h => absurd h List.not_mem_nil
  | c :: ds, a, n, len, h => fun d hd => by
    obtain ⟨b, len', h1, -, h3, -⟩ := h
    rcases List.mem_cons.mp hd with rfl | hd
    · exact h1
    · exact fwd_mem ds b n len' h3 d hd
def lS (g : Nat → Nat) : List Nat → Nat
  | [] => 0
  | d :: ds => g d + lS g ds
theorem lS_app {g : Nat → Nat} (d : Nat) : ∀ ds, lS g (ds ++ [d]) = lS g ds + g d
  | [] => by show g d + 0 = 0 + g d; omega
  | c :: ds => by
    show g c + lS g (ds ++ [d]) = g c + lS g ds + g d
    rw [lS_app d ds]
    omega
theorem fwd_len {nr : Nat} {o z g : Nat → Nat} : ∀ (ds : List Nat) (a n len : Nat), Fwd nr o z g a ds n len → len = lS g ds
  | [], _, _, _, h => h.2
  | c :: ds, a, n, len, h => by
    obtain ⟨b, len', -, -, h3, h4⟩ := h
    rw [h4, fwd_len ds b n len' h3]
    rfl
theorem lS_le {g : Nat → Nat} : ∀ ds : List Nat, (∀ d ∈ ds, g d ≤ 4) → lS g ds ≤ 4 * ds.length
  | [], _ => Nat.le_refl _
  | c :: ds, h => by
    have h1 := h c List.mem_cons_self
    have h2 := lS_le ds (fun d hd => h d (List.mem_cons_of_mem _ hd))
    show g c + lS g ds ≤ 4 * (ds.length + 1)
    omega
/-- what best orders are: digits, a way, all roads of the first class -/
theorem best_is {S : cS} {t v h : Nat} (hG : GS S t v h) : ∃ (o z g : Nat → Nat) (e0 : Nat) (ds : List Nat) (n len : Nat), e0 ≤ 1 ∧ (e0 = 0 → ds = []) ∧ ds.length ≤ 6 ∧ (∀ d ∈ ds, d < 5) ∧ rbF S (nI v) = nI (digV e0 ds) ∧ digV e0 ds < 2000001 ∧ ends S o z ∧ (∀ i, i < 5 → (sRc S i).2.2.1 = nI (g i) ∧ 0 < g i ∧ g i ≤ 4) ∧ Fwd 5 o z g v ds.reverse n len ∧ n < 7 ∧ len ≤ 24 ∧ len = lS g ds.reverse ∧ (e0 = 1 → ∀ r, r < 5 → (sRc S r).2.2.2.1 = 0 → r ∈ ds) := by
  obtain ⟨h1, h2, ⟨o, z, g, h3, h4⟩, h5, -⟩ := id hG
  have h8 : sNr S ≤ 8 := by rw [h1]; decide
  have hg : lens S g := fun i hi => by
    rw [h1] at hi
    exact ⟨(h4 i hi).1, by have := (h4 i hi).2.2; omega⟩
  rcases rb_sound h8 hg h3 h5 with hb | ⟨ds, n, len, b1, b2, b3, b4, b5, b6, b7⟩
  · exact ⟨o, z, g, 0, [], v, 0, by decide, fun _ => rfl, by decide, fun d hd => absurd hd List.not_mem_nil, hb, by decide, h3, h4, ⟨rfl, rfl⟩, h5, by decide, rfl, fun hh => absurd hh (by decide)⟩
  · have hF : Fwd 5 o z g v ds.reverse n len := by
      have := pth_fwd ds n len b2
      rwa [h1] at this
    have hm : ∀ d ∈ ds, d < 5 := fun d hd => fwd_mem ds.reverse v n len hF d (List.mem_reverse.mpr hd)
    have hl := fwd_len ds.reverse v n len hF
    have hl2 : lS g ds.reverse ≤ 4 * ds.reverse.length := lS_le _ (fun d hd => (h4 d (hm d (List.mem_reverse.mp hd))).2.2)
    rw [List.length_reverse] at hl2
    refine ⟨o, z, g, 1, ds, n, len, by decide, fun hh => absurd hh (by decide), b1, hm, by rw [digV_1]; exact b7, by rw [digV_1]; exact b6, h3, h4, hF, b4, by omega, hl, fun _ r hr hc => ?_⟩
    exact cover h8 b2 b3 (by rw [h1]; exact hr) hc
/-- orders, one after the other -/
def oS (S : cS) (r : List Nat) : Nat → cS
  | 0 => S
  | i + 1 => ordS (oS S r i) 0 i (nI (r.getD i 0))
theorem oS_same {S : cS} {r : List Nat} : ∀ i, sNr (oS S r i) = sNr S ∧ sNl (oS S r i) = sNl S ∧ sWe (oS S r i) = sWe S ∧ sRc (oS S r i) = sRc S ∧ sG (oS S r i) = sG S
  | 0 => ⟨rfl, rfl, rfl, rfl, rfl⟩
  | i + 1 => oS_same (S := S) (r := r) i
theorem oS_lat {S : cS} {r : List Nat} {v : Nat} {ah : Int32} (hL : Lat S [] (nI v) ah 0 0) : ∀ i, sLo (oS S r i) 0 = loO (sLo S 0) (nI i) ∧ ∀ j, j < i → sOd (oS S r i) 0 j = nI (r.getD j 0)
  | 0 => ⟨by
      show sLo S 0 = loO (sLo S 0) (nI 0)
      have := hL.2.2.1
      unfold loO
      rw [← show (sLo S 0).2.1 = nI 0 from this], fun j hj => absurd hj (Nat.not_lt_zero j)⟩
  | i + 1 => by
    obtain ⟨h1, h2⟩ := oS_lat (r := r) hL i
    have e1 : sLo (oS S r (i + 1)) 0 = loO (sLo (oS S r i) 0) (nI (i + 1)) := va_up_self (sLo (oS S r i)) 0 _
    have e2 : sOd (oS S r (i + 1)) 0 = upd (sOd (oS S r i) 0) i (nI (r.getD i 0)) := va_up_self (sOd (oS S r i)) 0 _
    refine ⟨by rw [e1, h1]; rfl, fun j hj => ?_⟩
    rw [e2]
    by_cases hji : j = i
    · subst hji
      simp [upd]
    · have h3 := h2 j (by omega)
      simp [upd, hji]
      simpa using h3
theorem oS_wf {S : cS} {r : List Nat} (hS : wfS S) : ∀ i, i ≤ 8 → wfS (oS S r i)
  | 0, _ => hS
  | i + 1, h => wf_ord (oS_wf hS i (by omega)) (by omega)
theorem rest_GS {S : cS} {t v h : Nat} (hG : GS S t v h) : GS (restS S 0) t v 0 := by
  obtain ⟨h1, h2, h3, h4, ah, h5⟩ := hG
  refine ⟨h1, h2, h3, h4, ah, ?_⟩
  have e : sLo (restS S 0) 0 = loR (sLo S 0) := lo_up S 0 _
  obtain ⟨q1, q2, q3, q4, q5, q6, q7, q8⟩ := h5
  unfold Lat
  rw [e]
  exact ⟨q1, q2, rfl, q4, q5, q6, rfl, fun i hi => absurd hi (Nat.not_lt_zero i)⟩
/-- the drive -/
theorem drive {S : cS} {t v : Nat} {o z g : Nat → Nat} {ds : List Nat} {n len : Nat} (hG : GS S t v 0) (hd : ds.length ≤ 6) (he : ends S o z) (hg : ∀ i, i < 5 → (sRc S i).2.2.1 = nI (g i) ∧ 0 < g i ∧ g i ≤ 4) (hF : Fwd 5 o z g v ds.reverse n len) (hn : n < 7) (hl : len ≤ 24) :
    GS (psF (oS S ds.reverse ds.length) t len) (t + len) n len ∧ (∀ r, rs7 (sRc (psF (oS S ds.reverse ds.length) t len) r) = rs7 (sRc S r)) ∧ sWe (psF (oS S ds.reverse ds.length) t len) = sWe S ∧ ∀ r ∈ ds, ∃ w, t < w ∧ w ≤ t + len ∧ las (sRc (psF (oS S ds.reverse ds.length) t len) r) = nI w := by
  obtain ⟨h1, h2, -, h4, ah, hL⟩ := id hG
  obtain ⟨s1, s2, s3, s4, s5⟩ := oS_same (S := S) (r := ds.reverse) ds.length
  obtain ⟨l1, l2⟩ := oS_lat (r := ds.reverse) hL ds.length
  generalize hT : oS S ds.reverse ds.length = T at s1 s2 s3 s4 s5 l1 l2 ⊢
  have hLT : Lat T ds.reverse (nI v) ah 0 0 := by
    obtain ⟨q1, q2, q3, q4, q5, q6, q7, q8⟩ := hL
    unfold Lat
    rw [l1]
    exact ⟨s2.trans q1, q2, by rw [List.length_reverse]; rfl, q4, q5, q6, q7, fun i hi => l2 i (by rw [List.length_reverse] at hi; exact hi)⟩
  have n5 : sNr T = 5 := s1.trans h1
  obtain ⟨⟨ah', w1⟩, w2, w3⟩ := walk_all (o := o) (z := z) (g := g) ds.reverse T t v 0 n len ah hLT (by rw [n5]; exact hF) (by rw [n5]; decide) (fun i hi => by rw [s4]; exact he i (by rw [h1]; rw [n5] at hi; exact hi)) (fun i hi => by rw [s4]; rw [n5] at hi; exact ⟨(hg i hi).1, (hg i hi).2.1, by have := (hg i hi).2.2; omega⟩) (by omega) (by rw [List.length_reverse]; omega)
  have h7 : ∀ r, rs7 (sRc (psF T t len) r) = rs7 (sRc S r) := fun r => (w2.2.2 r).1.trans (by rw [s4])
  have hnow : sNow T = nI t := by
    show (sG T).1 = nI t
    rw [s5]
    exact h2
  refine ⟨⟨w2.1.trans n5, now_ps hnow len, ⟨o, z, g, ends_7 he (w2.1.trans s1) (fun r _ => h7 r), fun i hi => ⟨(rs7_p (h7 i)).2.2.1.trans (hg i hi).1, (hg i hi).2⟩⟩, hn, ah', by rw [Nat.zero_add] at w1; exact w1⟩, h7, w2.2.1.trans s3, fun r hr => w3 r (List.mem_reverse.mpr hr)⟩
