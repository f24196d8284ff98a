/-! the best row -/
def gaF (K L : Nat → Int32) (len num b a : Int32) : Nat → Int32 := if numA 448 K b = farK then L else lowA 448 L a ((numA 448 K b / 10000000 + len) * 10000000 + ((numA 448 K b - numA 448 K b / 10000000 * 10000000) * 10 + num))
def bwF (K : Nat → Int32) (x : Int32) : Nat → Int32
  | 0 => farK
  | i + 1 => if numA 448 K ((x - 1) * 7 + nI i) < bwF K x i then numA 448 K ((x - 1) * 7 + nI i) else bwF K x i
def nbF (S : cS) : Nat → Int32
  | 0 => 1
  | i + 1 => if i < sNr S then nbF S i + (if (sRc S i).2.2.2.1 = 0 then nbF S i else 0) else nbF S i
def bitF (S : cS) (i : Nat) : Int32 := if (sRc S i).2.2.2.1 = 0 then nbF S i else 0
def lnJ (S : cS) (K : Nat → Int32) (i : Nat) (L : Nat → Int32) : Nat → Nat → Int32
  | 0 => L
  | j + 1 => gaF K (gaF K (lnJ S K i L j) (sRc S i).2.2.1 (nI i) (nI j * 7 + (sRc S i).1) ((nI j ||| bitF S i) * 7 + (sRc S i).2.1)) (sRc S i).2.2.1 (nI i) (nI j * 7 + (sRc S i).2.1) ((nI j ||| bitF S i) * 7 + (sRc S i).1)
def lnI (S : cS) (n : Nat) (K : Nat → Int32) : Nat → Nat → Int32
  | 0 => fun _ => farK
  | i + 1 => if i < sNr S then lnJ S K i (lnI S n K i) n else lnI S n K i
theorem nb_y {S : cS} {i : Nat} (h : i < sNr S) : nbF S i + bitF S i = nbF S (i + 1) := (if_pos h).symm
theorem nb_n {S : cS} {i : Nat} (h : ¬ i < sNr S) : nbF S i = nbF S (i + 1) := (if_neg h).symm
theorem ln_y {S : cS} {n : Nat} {K : Nat → Int32} {i : Nat} (h : i < sNr S) : lnJ S K i (lnI S n K i) n = lnI S n K (i + 1) := (if_pos h).symm
theorem ln_n {S : cS} {n : Nat} {K : Nat → Int32} {i : Nat} (h : ¬ i < sNr S) : lnI S n K i = lnI S n K (i + 1) := (if_neg h).symm
def ndF (S : cS) : Nat → Nat
  | 0 => 0
  | i + 1 => if i < sNr S then (if (sRc S i).2.2.2.1 = 0 then ndF S i + 1 else ndF S i) else ndF S i
theorem nd_le (S : cS) : ∀ i, ndF S i ≤ i
  | 0 => Nat.le_refl 0
  | i + 1 => by
    have h := nd_le S i
    unfold ndF
    split
    · split <;> omega
    · omega
def nkF (S : cS) (n : Nat) (K : Nat → Int32) : Nat → Nat → Int32
  | 0 => K
  | k + 1 => lnI S n (nkF S n K k) 8
def bbF (S : cS) (n : Nat) (K : Nat → Int32) : Nat → Int32
  | 0 => bwF K (nI n) 7
  | k + 1 => if bbF S n K k / 10000000 ≤ bwF (nkF S n K (k + 1)) (nI n) 7 / 10000000 then bbF S n K k else bwF (nkF S n K (k + 1)) (nI n) 7
def rbF (S : cS) (a : Int32) : Int32 :=
  if 6 < ndF S 8 then 0 else
  if bbF S (2 ^ ndF S 8) (lowA 448 (fun _ => farK) a 1) 6 = farK then 0 else bbF S (2 ^ ndF S 8) (lowA 448 (fun _ => farK) a 1) 6 - bbF S (2 ^ ndF S 8) (lowA 448 (fun _ => farK) a 1) 6 / 10000000 * 10000000
theorem shl_nd : ∀ k : Nat, k < 7 → (1 : Int32) <<< (nI k &&& 31) = nI (2 ^ k) := by decide +kernel
set_option maxRecDepth 100000 in
set_option maxHeartbeats 4000000 in
/-- Rows_bestWhole -/
theorem c_Rows_bestWhole (l : Launch) (D : va_G) (cy : Nat → ClassId) (ad : Nat → Nat) (c : rC) (n ka kb : Nat) (K L : Nat → Int32) (hn : c n = some (.inr (4, [.ref (ad ka), .ref (ad kb)]))) (ha : c ka = some (iE (cy 0) 448 K)) (hb : c kb = some (iE (cy 0) 448 L)) (hna : n ≠ ka) (hnb : n ≠ kb) (hab : ka ≠ kb) (x : Int32) : rMi l D cls (TY cy) NW y_Rows_bestWhole (Cond.code y_Rows_bestWhole b_Rows_bestWhole 4 rt_Rows_bestWhole :: W0) { frames := 1, cells := 0, slots := 0, locals := 21 } [.ref (ad n), .int x] ad c (fun r ad' c' => bwF K x 7 = r ∧ ad = ad' ∧ c = c') := by
  intro sz
  refine r_of (own := R_Rows) rfl (by decide +kernel) (Nat.le_of_ble_eq_true rfl) ?_
  intro p e s m below meth cd hsz X hr hlk hN hin
  refine r_lv [0, 1] [(0, .ref (ad n)), (1, .int x)] rfl ?_
  refine r_ldc X q_Rows_24 d_Rows_bestWhole_0 ?_
  refine r_istore_n X [(2, .int 1000000000), (0, .ref (ad n)), (1, .int x)] d_Rows_bestWhole_2 rfl (by decide) rfl ?_
  refine r_iconst X 0 d_Rows_bestWhole_3 (by decide) ?_
  refine r_istore_n X [(3, .int 0), (2, .int 1000000000), (0, .ref (ad n)), (1, .int x)] d_Rows_bestWhole_4 rfl (by decide) rfl ?_
  refine r_lv [2, 3, 1, 0] [(0, .ref (ad n)), (1, .int x), (2, .int (bwF K x 0)), (3, .int (nI 0))] rfl ?_
  refine r_at (r_loop (σ := Nat) (fun f9 i => i ≤ 7 ∧ i + f9 = 7 + 1) (fun i => c) 5 (fun i => [(0, .ref (ad n)), (1, .int x), (2, .int (bwF K x i)), (3, .int (nI i))]) (fun _ => []) (fun i h => by have h1 := h.1; have h2 := h.2; omega) (fun f9 i ih_i hI => ?_) (7 + 1 - 0) 0 ⟨by omega, by omega⟩) rfl rfl rfl rfl
  obtain ⟨hi8, hi9⟩ := hI
  refine r_iload_n X 3 d_Rows_bestWhole_5 rfl rfl ?_
  refine r_bipush X 7 d_Rows_bestWhole_6 (by decide) ?_
  refine r_top (y := nI 7) (by decide) ?_
  refine r_icmp_ge X 37 d_Rows_bestWhole_8 (by decide) (fun h_8 => ?_) (fun h_8 => ?_)
  · have hi : 7 = i := by
      rcases Nat.lt_or_ge i 7 with h | h
      · exact absurd h_8 (nI_ge (by omega) (by omega))
      · omega
    subst hi
    refine r_iload_n X 2 d_Rows_bestWhole_37 rfl rfl ?_
    exact r_iret (post := fun r ad' c' => bwF K x 7 = r ∧ ad = ad' ∧ c = c') X hr hlk d_Rows_bestWhole_38 (by decide) (by decide) ⟨by (try simp only []); first | done | rfl | exact rup_id (by assumption), rfl, rfl⟩
  · have hi : i < 7 := by
      rcases Nat.lt_or_ge i 7 with h | h
      · exact h
      · exact absurd (nI_le (by omega) (by omega)) h_8
    refine r_iload_n X 2 d_Rows_bestWhole_11 rfl rfl ?_
    refine r_aload_n X 0 d_Rows_bestWhole_12 rfl rfl ?_
    refine r_get X k_Rows 0 (by decide) f_Rows_9 rfl hn rfl d_Rows_bestWhole_13 ?_
    refine r_iload_n X 1 d_Rows_bestWhole_16 rfl rfl ?_
    refine r_iconst X 1 d_Rows_bestWhole_17 (by decide) ?_
    refine r_isub X d_Rows_bestWhole_18 ?_
    refine r_bipush X 7 d_Rows_bestWhole_19 (by decide) ?_
    refine r_imul X d_Rows_bestWhole_21 ?_
    refine r_iload_n X 3 d_Rows_bestWhole_22 rfl rfl ?_
    refine r_iadd X d_Rows_bestWhole_23 ?_
    refine r_SNi X W0_good hN (c_G_numberAt l D cy ad (c) ka 448 (by decide) K ha (((x - 1) * 7) + (nI i))) ys_G_numberAt w_Rows_44 rfl rfl ⟨by decide, by decide⟩ (Nat.le_of_ble_eq_true rfl) ⟨by decide, by decide⟩ d_Rows_bestWhole_24 (fun r9 ad9 c9 hp9 => ?_)
    obtain ⟨rfl, rfl, rfl⟩ := hp9
    refine r_min X m_Rows_48 s_min i_Math cd_min ⟨by decide, by decide, by decide, by decide⟩ (Nat.le_of_ble_eq_true rfl) d_Rows_bestWhole_27 ?_
    refine r_top (y := bwF K x (i + 1)) rfl ?_
    refine r_istore_n X [(2, .int (bwF K x (i + 1))), (0, .ref (ad n)), (1, .int x), (3, .int (nI i))] d_Rows_bestWhole_30 rfl (by decide) rfl ?_
    refine r_iinc X 3 [(3, .int (nI (i + 1))), (2, .int (bwF K x (i + 1))), (0, .ref (ad n)), (1, .int x)] d_Rows_bestWhole_31 rfl (nI_1 i) (by decide) rfl ?_
    refine r_goto X 5 d_Rows_bestWhole_34 (by decide) ?_
    refine r_lv [2, 3, 1, 0] [(0, .ref (ad n)), (1, .int x), (2, .int (bwF K x (i + 1))), (3, .int (nI (i + 1)))] rfl ?_
    exact ih_i (i + 1) ⟨by omega, by omega⟩
set_option maxRecDepth 100000 in
set_option maxHeartbeats 4000000 in
/-- Rows_goAlong -/
theorem c_Rows_goAlong (l : Launch) (D : va_G) (cy : Nat → ClassId) (ad : Nat → Nat) (c : rC) (n ka kb : Nat) (K L : Nat → Int32) (hn : c n = some (.inr (4, [.ref (ad ka), .ref (ad kb)]))) (ha : c ka = some (iE (cy 0) 448 K)) (hb : c kb = some (iE (cy 0) 448 L)) (hna : n ≠ ka) (hnb : n ≠ kb) (hab : ka ≠ kb) (ks kl kt : Nat) (one oth len ran hei sha bri tim las : Int32) (kr : Nat) (hr9 : c kr = some (.inr (2, [.int one, .int oth, .int len, .int ran, .int hei, .int sha, .int bri, .ref (ad ks), .ref (ad kl), .ref (ad kt), .int tim, .int las]))) (num x z : Int32) : rMv l D cls (TY cy) NW y_Rows_goAlong (Cond.code y_Rows_goAlong b_Rows_goAlong 8 rt_Rows_goAlong :: W0) { frames := 1, cells := 0, slots := 0, locals := 22 } [.ref (ad n), .ref (ad kr), .int num, .int x, .int z] ad c (fun ad' c' => ad = ad' ∧ va_up c kb (some (iE (cy 0) 448 (gaF K L len num x z))) = c') := by
  intro sz
  refine r_of (own := R_Rows) rfl (by decide +kernel) (Nat.le_of_ble_eq_true rfl) ?_
  intro p e s m below meth cd hsz X hr hlk hN hin
  refine r_lv [0, 1, 2, 3, 4] [(0, .ref (ad n)), (1, .ref (ad kr)), (2, .int num), (3, .int x), (4, .int z)] rfl ?_
  refine r_aload_n X 0 d_Rows_goAlong_0 rfl rfl ?_
  refine r_get X k_Rows 0 (by decide) f_Rows_9 rfl hn rfl d_Rows_goAlong_1 ?_
  refine r_iload_n X 3 d_Rows_goAlong_4 rfl rfl ?_
  refine r_SNi X W0_good hN (c_G_numberAt l D cy ad (c) ka 448 (by decide) K ha x) ys_G_numberAt w_Rows_44 rfl rfl ⟨by decide, by decide⟩ (Nat.le_of_ble_eq_true rfl) ⟨by decide, by decide⟩ d_Rows_goAlong_5 (fun r9 ad9 c9 hp9 => ?_)
  obtain ⟨rfl, rfl, rfl⟩ := hp9
  refine r_istore X [(5, .int (numA 448 K x)), (0, .ref (ad n)), (1, .ref (ad kr)), (2, .int num), (3, .int x), (4, .int z)] d_Rows_goAlong_8 (by decide) rfl ?_
  refine r_iload X 0 d_Rows_goAlong_10 rfl ?_
  refine r_ldc X q_Rows_24 d_Rows_goAlong_12 ?_
  refine r_top (y := farK) rfl ?_
  refine r_icmp_eq X 58 d_Rows_goAlong_14 (by decide) (fun h_14 => ?_) (fun h_14 => ?_)
  · exact r_vret (post := fun ad' c' => ad = ad' ∧ va_up c kb (some (iE (cy 0) 448 (gaF K L len num x z))) = c') X hr hlk d_Rows_goAlong_58 (by decide) (by decide) ⟨rfl, (congrArg (fun L9 => va_up c kb (some (iE (cy 0) 448 L9))) (if_pos h_14)).trans (rup_id hb)⟩
  · refine r_iload X 0 d_Rows_goAlong_17 rfl ?_
    refine r_ldc X q_Rows_43 d_Rows_goAlong_19 ?_
    refine r_idiv X d_Rows_goAlong_21 (by decide) ?_
    refine r_aload_n X 2 d_Rows_goAlong_22 rfl rfl ?_
    refine r_get X k_Road 2 (by decide) f_Rows_64 rfl hr9 rfl d_Rows_goAlong_23 ?_
    refine r_iadd X d_Rows_goAlong_26 ?_
    refine r_istore X [(6, .int (((numA 448 K x) / 10000000) + len)), (5, .int (numA 448 K x)), (0, .ref (ad n)), (1, .ref (ad kr)), (2, .int num), (3, .int x), (4, .int z)] d_Rows_goAlong_27 (by decide) rfl ?_
    refine r_iload X 1 d_Rows_goAlong_29 rfl ?_
    refine r_ldc X q_Rows_43 d_Rows_goAlong_31 ?_
    refine r_irem X d_Rows_goAlong_33 (by decide) ?_
    refine r_bipush X 10 d_Rows_goAlong_34 (by decide) ?_
    refine r_imul X d_Rows_goAlong_36 ?_
    refine r_iload_n X 4 d_Rows_goAlong_37 rfl rfl ?_
    refine r_iadd X d_Rows_goAlong_38 ?_
    refine r_istore X [(7, .int ((((numA 448 K x) - (numA 448 K x) / 10000000 * 10000000) * 10) + num)), (6, .int (((numA 448 K x) / 10000000) + len)), (5, .int (numA 448 K x)), (0, .ref (ad n)), (1, .ref (ad kr)), (2, .int num), (3, .int x), (4, .int z)] d_Rows_goAlong_39 (by decide) rfl ?_
    refine r_aload_n X 3 d_Rows_goAlong_41 rfl rfl ?_
    refine r_get X k_Rows 1 (by decide) f_Rows_15 rfl hn rfl d_Rows_goAlong_42 ?_
    refine r_iload X 7 d_Rows_goAlong_45 rfl ?_
    refine r_iload X 1 d_Rows_goAlong_47 rfl ?_
    refine r_ldc X q_Rows_43 d_Rows_goAlong_49 ?_
    refine r_imul X d_Rows_goAlong_51 ?_
    refine r_iload X 0 d_Rows_goAlong_52 rfl ?_
    refine r_iadd X d_Rows_goAlong_54 ?_
    refine r_SNv X W0_good hN (c_G_lower l D cy ad (c) kb 448 (by decide) L hb z (((((numA 448 K x) / 10000000) + len) * 10000000) + ((((numA 448 K x) - (numA 448 K x) / 10000000 * 10000000) * 10) + num))) ys_G_lower w_Rows_31 rfl rfl ⟨by decide, by decide⟩ (Nat.le_of_ble_eq_true rfl) ⟨by decide, by decide⟩ d_Rows_goAlong_55 (fun ad9 c9 hp9 => ?_)
    obtain ⟨rfl, rfl⟩ := hp9
    exact r_vret (post := fun ad' c' => ad = ad' ∧ va_up c kb (some (iE (cy 0) 448 (gaF K L len num x z))) = c') X hr hlk d_Rows_goAlong_58 (by decide) (by decide) ⟨rfl, congrArg (fun L9 => va_up c kb (some (iE (cy 0) 448 L9))) (if_neg h_14)⟩
set_option maxRecDepth 100000 in
set_option maxHeartbeats 4000000 in
/-- Rows_lengthen -/
theorem c_Rows_lengthen (l : Launch) (D : va_G) (cy : Nat → ClassId) (ad : Nat → Nat) (c : rC) (n ka kb : Nat) (K L : Nat → Int32) (hn : c n = some (.inr (4, [.ref (ad ka), .ref (ad kb)]))) (ha : c ka = some (iE (cy 0) 448 K)) (hb : c kb = some (iE (cy 0) 448 L)) (hna : n ≠ ka) (hnb : n ≠ kb) (hab : ka ≠ kb) (S : cS) (hS8 : sNr S ≤ 8) (hrr : c 1 = some (qE (cy 2) 8 (rRf ad (sNr S)))) (hrd : ∀ i, i < sNr S → c (16 + 4 * i) = some (roadE ad i (sRc S i))) (hn16 : n < 16) (ha16 : ka < 16) (hb16 : kb < 16) (hn1 : n ≠ 1) (ha1 : ka ≠ 1) (hb1 : kb ≠ 1) (mm : Nat) (hmm : mm < 1000) : rMv l D cls (TY cy) NW y_Rows_lengthen (Cond.code y_Rows_lengthen b_Rows_lengthen 9 rt_Rows_lengthen :: W0) { frames := 2, cells := 0, slots := 0, locals := 49 } [.ref (ad n), .ref (ad 1), .int (nI mm)] ad c (fun ad' c' => ad = ad' ∧ va_up (va_up c kb (some (iE (cy 0) 448 (lnI S mm K 8)))) n (some (.inr (4, [.ref (ad kb), .ref (ad ka)]))) = c') := by
  intro sz
  refine r_of (own := R_Rows) rfl (by decide +kernel) (Nat.le_of_ble_eq_true rfl) ?_
  intro p e s m below meth cd hsz X hr hlk hN hin
  refine r_lv [0, 1, 2] [(0, .ref (ad n)), (1, .ref (ad 1)), (2, .int (nI mm))] rfl ?_
  refine r_aload_n X 0 d_Rows_lengthen_0 rfl rfl ?_
  refine r_get X k_Rows 1 (by decide) f_Rows_15 rfl hn rfl d_Rows_lengthen_1 ?_
  refine r_ldc X q_Rows_24 d_Rows_lengthen_4 ?_
  refine r_Sv X W0_good hN (c_Arrays_fill_53178 l D cy ad (c) kb 448 (by decide) L hb 1000000000) ys_Arrays_fill_53178 m_Rows_25 rfl rfl ⟨by decide, by decide⟩ (Nat.le_of_ble_eq_true rfl) ⟨by decide, by decide⟩ d_Rows_lengthen_6 (fun ad9 c9 hp9 => ?_)
  obtain ⟨rfl, rfl⟩ := hp9
  refine r_iconst X 1 d_Rows_lengthen_9 (by decide) ?_
  refine r_istore_n X [(3, .int 1), (0, .ref (ad n)), (1, .ref (ad 1)), (2, .int (nI mm))] d_Rows_lengthen_10 rfl (by decide) rfl ?_
  refine r_iconst X 0 d_Rows_lengthen_11 (by decide) ?_
  refine r_istore X [(4, .int 0), (3, .int 1), (0, .ref (ad n)), (1, .ref (ad 1)), (2, .int (nI mm))] d_Rows_lengthen_12 (by decide) rfl ?_
  refine r_lv [2, 3, 4, 1, 0] [(0, .ref (ad n)), (1, .ref (ad 1)), (2, .int (nI mm)), (3, .int (nbF S 0)), (4, .int (nI 0))] rfl ?_
  refine r_at (r_loop (σ := Nat) (fun f9 i => i ≤ 8 ∧ i + f9 = 8 + 1) (fun i => va_up c kb (some (.inl (cy 0, 448, .inl (lnI S mm K i))))) 14 (fun i => [(0, .ref (ad n)), (1, .ref (ad 1)), (2, .int (nI mm)), (3, .int (nbF S i)), (4, .int (nI i))]) (fun _ => []) (fun i h => by have h1 := h.1; have h2 := h.2; omega) (fun f9 i ih_i hI => ?_) (8 + 1 - 0) 0 ⟨by omega, by omega⟩) rfl rfl rfl rfl
  obtain ⟨hi8, hi9⟩ := hI
  refine r_iload X 4 d_Rows_lengthen_14 rfl ?_
  refine r_aload_n X 1 d_Rows_lengthen_16 rfl rfl ?_
  refine r_alen (v := nI 8) X 2 (rup_ne (by omega) (hrr)) rfl rfl d_Rows_lengthen_17 ?_
  refine r_icmp_ge X 137 d_Rows_lengthen_18 (by decide) (fun h_18 => ?_) (fun h_18 => ?_)
  · have hi : 8 = i := by
      rcases Nat.lt_or_ge i 8 with h | h
      · exact absurd h_18 (nI_ge (by omega) (by omega))
      · omega
    subst hi
    refine r_aload_n X 0 d_Rows_lengthen_137 rfl rfl ?_
    refine r_get X k_Rows 0 (by decide) f_Rows_9 rfl (rup_ne (by omega) (hn)) rfl d_Rows_lengthen_138 ?_
    refine r_astore X [(4, .ref (ad ka)), (0, .ref (ad n)), (1, .ref (ad 1)), (2, .int (nI mm)), (3, .int (nbF S 8))] d_Rows_lengthen_141 (by decide) rfl ?_
    refine r_aload_n X 1 d_Rows_lengthen_143 rfl rfl ?_
    refine r_aload_n X 1 d_Rows_lengthen_144 rfl rfl ?_
    refine r_get X k_Rows 1 (by decide) f_Rows_15 rfl (rup_ne (by omega) (hn)) rfl d_Rows_lengthen_145 ?_
    refine r_put X k_Rows 0 (by decide) f_Rows_9 rfl (rup_ne (by omega) (hn)) rfl rfl rfl (Nat.le_of_ble_eq_true rfl) [.ref (ad kb), .ref (ad kb)] rfl (va_up (va_up c kb (some (.inl (cy 0, 448, .inl (lnI S mm K 8))))) n (some (.inr (4, [.ref (ad kb), .ref (ad kb)])))) rfl d_Rows_lengthen_148 ?_
    refine r_aload_n X 1 d_Rows_lengthen_151 rfl rfl ?_
    refine r_aload X 0 d_Rows_lengthen_152 rfl ?_
    refine r_put X k_Rows 1 (by decide) f_Rows_15 rfl rup_self rfl rfl rfl (Nat.le_of_ble_eq_true rfl) [.ref (ad kb), .ref (ad ka)] rfl (va_up (va_up c kb (some (.inl (cy 0, 448, .inl (lnI S mm K 8))))) n (some (.inr (4, [.ref (ad kb), .ref (ad ka)])))) rup_up d_Rows_lengthen_154 ?_
    exact r_vret (post := fun ad' c' => ad = ad' ∧ va_up (va_up c kb (some (iE (cy 0) 448 (lnI S mm K 8)))) n (some (.inr (4, [.ref (ad kb), .ref (ad ka)]))) = c') X hr hlk d_Rows_lengthen_157 (by decide) (by decide) ⟨rfl, rfl⟩
  · have hi : i < 8 := by
      rcases Nat.lt_or_ge i 8 with h | h
      · exact h
      · exact absurd (nI_le (by omega) (by omega)) h_18
    refine r_aload_n X 1 d_Rows_lengthen_21 rfl rfl ?_
    refine r_iload X 4 d_Rows_lengthen_22 rfl ?_
    by_cases hrn : i < sNr S
    · refine r_aald (v := .ref (ad (16 + 4 * i))) X 2 (rup_ne (by omega) (hrr)) rfl (vp_in_nI hi (by decide)) (rRf_y (by omega) hrn) d_Rows_lengthen_24 ?_
      refine r_astore X [(5, .ref (ad (16 + 4 * i))), (0, .ref (ad n)), (1, .ref (ad 1)), (2, .int (nI mm)), (3, .int (nbF S i)), (4, .int (nI i))] d_Rows_lengthen_25 (by decide) rfl ?_
      refine r_aload X 0 d_Rows_lengthen_27 rfl ?_
      refine r_ifnull X d_Rows_lengthen_29 ?_
      refine r_aload X 0 d_Rows_lengthen_32 rfl ?_
      refine r_get X k_Road 3 (by decide) f_Rows_18 rfl (rup_ne (by omega) ((hrd i hrn))) rfl d_Rows_lengthen_34 ?_
      refine r_cut (fun u9 : Int32 => u9 = bitF S i) (fun _ => va_up c kb (some (.inl (cy 0, 448, .inl (lnI S mm K i))))) 45 (fun _ => [(5, .ref (ad (16 + 4 * i))), (0, .ref (ad n)), (1, .ref (ad 1)), (2, .int (nI mm)), (3, .int (nbF S i)), (4, .int (nI i))]) (fun u9 => [.int u9]) (fun J9 => ?_) (fun v9 hv9 => ?_)
      · refine r_if_ne X 44 d_Rows_lengthen_37 (by decide) (fun h9 => ?_) (fun h9 => ?_)
        · refine r_iconst X 0 d_Rows_lengthen_44 (by decide) ?_
          exact J9 _ (if_neg h9).symm
        · refine r_iload_n X 4 d_Rows_lengthen_40 rfl rfl ?_
          refine r_goto X 45 d_Rows_lengthen_41 (by decide) ?_
          exact J9 _ (if_pos h9).symm
      subst hv9
      refine r_istore X [(6, .int (bitF S i)), (5, .ref (ad (16 + 4 * i))), (0, .ref (ad n)), (1, .ref (ad 1)), (2, .int (nI mm)), (3, .int (nbF S i)), (4, .int (nI i))] d_Rows_lengthen_45 (by decide) rfl ?_
      refine r_iload_n X 5 d_Rows_lengthen_47 rfl rfl ?_
      refine r_iload X 0 d_Rows_lengthen_48 rfl ?_
      refine r_iadd X d_Rows_lengthen_50 ?_
      refine r_top (y := nbF S (i + 1)) (nb_y hrn) ?_
      refine r_istore_n X [(3, .int (nbF S (i + 1))), (6, .int (bitF S i)), (5, .ref (ad (16 + 4 * i))), (0, .ref (ad n)), (1, .ref (ad 1)), (2, .int (nI mm)), (4, .int (nI i))] d_Rows_lengthen_51 rfl (by decide) rfl ?_
      refine r_iconst X 0 d_Rows_lengthen_52 (by decide) ?_
      refine r_istore X [(7, .int 0), (3, .int (nbF S (i + 1))), (6, .int (bitF S i)), (5, .ref (ad (16 + 4 * i))), (0, .ref (ad n)), (1, .ref (ad 1)), (2, .int (nI mm)), (4, .int (nI i))] d_Rows_lengthen_53 (by decide) rfl ?_
      refine r_lv [4, 5, 6, 1, 7, 3, 2, 0] [(0, .ref (ad n)), (1, .ref (ad 1)), (2, .int (nI mm)), (3, .int (nbF S (i + 1))), (4, .int (nI i)), (5, .ref (ad (16 + 4 * i))), (6, .int (bitF S i)), (7, .int (nI 0))] rfl ?_
      refine r_at (r_loop (σ := Nat) (fun f9 j => j ≤ mm ∧ j + f9 = mm + 1) (fun j => va_up c kb (some (.inl (cy 0, 448, .inl (lnJ S K i (lnI S mm K i) j))))) 55 (fun j => [(0, .ref (ad n)), (1, .ref (ad 1)), (2, .int (nI mm)), (3, .int (nbF S (i + 1))), (4, .int (nI i)), (5, .ref (ad (16 + 4 * i))), (6, .int (bitF S i)), (7, .int (nI j))]) (fun _ => []) (fun j h => by have h1 := h.1; have h2 := h.2; omega) (fun f9 j ih_j hI => ?_) (mm + 1 - 0) 0 ⟨by omega, by omega⟩) rfl rfl rfl rfl
      obtain ⟨hj8, hj9⟩ := hI
      refine r_iload X 7 d_Rows_lengthen_55 rfl ?_
      refine r_iload_n X 2 d_Rows_lengthen_57 rfl rfl ?_
      refine r_icmp_ge X 131 d_Rows_lengthen_58 (by decide) (fun h_58 => ?_) (fun h_58 => ?_)
      · have hj : mm = j := by
          rcases Nat.lt_or_ge j mm with h | h
          · exact absurd h_58 (nI_ge (by omega) (by omega))
          · omega
        subst hj
        refine r_c (va_up c kb (some (.inl (cy 0, 448, .inl (lnI S mm K (i + 1)))))) (congrArg (fun L9 => va_up c kb (some (iE (cy 0) 448 L9))) (ln_y hrn)) ?_
        refine r_iinc X 4 [(4, .int (nI (i + 1))), (0, .ref (ad n)), (1, .ref (ad 1)), (2, .int (nI mm)), (3, .int (nbF S (i + 1))), (5, .ref (ad (16 + 4 * i))), (6, .int (bitF S i)), (7, .int (nI mm))] d_Rows_lengthen_131 rfl (nI_1 i) (by decide) rfl ?_
        refine r_goto X 14 d_Rows_lengthen_134 (by decide) ?_
        refine r_lv [1, 2, 3, 4, 0] [(0, .ref (ad n)), (1, .ref (ad 1)), (2, .int (nI mm)), (3, .int (nbF S (i + 1))), (4, .int (nI (i + 1)))] rfl ?_
        exact ih_i (i + 1) ⟨by omega, by omega⟩
      · have hj : j < mm := by
          rcases Nat.lt_or_ge j mm with h | h
          · exact h
          · exact absurd (nI_le (by omega) (by omega)) h_58
        refine r_iload X 7 d_Rows_lengthen_61 rfl ?_
        refine r_iload X 6 d_Rows_lengthen_63 rfl ?_
        refine r_ior X d_Rows_lengthen_65 ?_
        refine r_bipush X 7 d_Rows_lengthen_66 (by decide) ?_
        refine r_imul X d_Rows_lengthen_68 ?_
        refine r_istore X [(8, .int (((nI j) ||| (bitF S i)) * 7)), (0, .ref (ad n)), (1, .ref (ad 1)), (2, .int (nI mm)), (3, .int (nbF S (i + 1))), (4, .int (nI i)), (5, .ref (ad (16 + 4 * i))), (6, .int (bitF S i)), (7, .int (nI j))] d_Rows_lengthen_69 (by decide) rfl ?_
        refine r_aload_n X 1 d_Rows_lengthen_71 rfl rfl ?_
        refine r_aload X 6 d_Rows_lengthen_72 rfl ?_
        refine r_iload X 5 d_Rows_lengthen_74 rfl ?_
        refine r_iload X 8 d_Rows_lengthen_76 rfl ?_
        refine r_bipush X 7 d_Rows_lengthen_78 (by decide) ?_
        refine r_imul X d_Rows_lengthen_80 ?_
        refine r_aload X 6 d_Rows_lengthen_81 rfl ?_
        refine r_get X k_Road 0 (by decide) f_Rows_54 rfl (rup_ne (by omega) ((hrd i hrn))) rfl d_Rows_lengthen_83 ?_
        refine r_iadd X d_Rows_lengthen_86 ?_
        refine r_iload X 0 d_Rows_lengthen_87 rfl ?_
        refine r_aload X 6 d_Rows_lengthen_89 rfl ?_
        refine r_get X k_Road 1 (by decide) f_Rows_57 rfl (rup_ne (by omega) ((hrd i hrn))) rfl d_Rows_lengthen_91 ?_
        refine r_iadd X d_Rows_lengthen_94 ?_
        refine r_Vv X W0_good hN (c_Rows_goAlong l D cy ad (va_up c kb (some (.inl (cy 0, 448, .inl (lnJ S K i (lnI S mm K i) j))))) n ka kb K (lnJ S K i (lnI S mm K i) j) (rup_ne (by omega) (hn)) (rup_ne (by omega) (ha)) rup_self (by omega) (by omega) (by omega) (17 + 4 * i) (18 + 4 * i) (19 + 4 * i) ((sRc S i).1) ((sRc S i).2.1) ((sRc S i).2.2.1) ((sRc S i).2.2.2.1) ((sRc S i).2.2.2.2.1) ((sRc S i).2.2.2.2.2.1) ((sRc S i).2.2.2.2.2.2.1) ((sRc S i).2.2.2.2.2.2.2.1) ((sRc S i).2.2.2.2.2.2.2.2) (16 + 4 * i) (rup_ne (by omega) ((hrd i hrn))) (nI i) (((nI j) * 7) + ((sRc S i).1)) ((((nI j) ||| (bitF S i)) * 7) + ((sRc S i).2.1))) yv_Rows_goAlong m_Rows_60 (rup_ne (by omega) (hn)) k_Rows.2.1 rfl rfl rfl ⟨by decide, by decide⟩ (Nat.le_of_ble_eq_true rfl) ⟨by decide, by decide⟩ d_Rows_lengthen_95 (fun ad9 c9 hp9 => ?_)
        obtain ⟨rfl, rfl⟩ := hp9
        refine r_c (va_up c kb (some (.inl (cy 0, 448, .inl (gaF K (lnJ S K i (lnI S mm K i) j) ((sRc S i).2.2.1) (nI i) (((nI j) * 7) + ((sRc S i).1)) ((((nI j) ||| (bitF S i)) * 7) + ((sRc S i).2.1))))))) rup_up ?_
        refine r_aload_n X 1 d_Rows_lengthen_98 rfl rfl ?_
        refine r_aload X 6 d_Rows_lengthen_99 rfl ?_
        refine r_iload X 5 d_Rows_lengthen_101 rfl ?_
        refine r_iload X 8 d_Rows_lengthen_103 rfl ?_
        refine r_bipush X 7 d_Rows_lengthen_105 (by decide) ?_
        refine r_imul X d_Rows_lengthen_107 ?_
        refine r_aload X 6 d_Rows_lengthen_108 rfl ?_
        refine r_get X k_Road 1 (by decide) f_Rows_57 rfl (rup_ne (by omega) ((hrd i hrn))) rfl d_Rows_lengthen_110 ?_
        refine r_iadd X d_Rows_lengthen_113 ?_
        refine r_iload X 0 d_Rows_lengthen_114 rfl ?_
        refine r_aload X 6 d_Rows_lengthen_116 rfl ?_
        refine r_get X k_Road 0 (by decide) f_Rows_54 rfl (rup_ne (by omega) ((hrd i hrn))) rfl d_Rows_lengthen_118 ?_
        refine r_iadd X d_Rows_lengthen_121 ?_
        refine r_Vv X W0_good hN (c_Rows_goAlong l D cy ad (va_up c kb (some (.inl (cy 0, 448, .inl (gaF K (lnJ S K i (lnI S mm K i) j) ((sRc S i).2.2.1) (nI i) (((nI j) * 7) + ((sRc S i).1)) ((((nI j) ||| (bitF S i)) * 7) + ((sRc S i).2.1))))))) n ka kb K (gaF K (lnJ S K i (lnI S mm K i) j) ((sRc S i).2.2.1) (nI i) (((nI j) * 7) + ((sRc S i).1)) ((((nI j) ||| (bitF S i)) * 7) + ((sRc S i).2.1))) (rup_ne (by omega) (hn)) (rup_ne (by omega) (ha)) rup_self (by omega) (by omega) (by omega) (17 + 4 * i) (18 + 4 * i) (19 + 4 * i) ((sRc S i).1) ((sRc S i).2.1) ((sRc S i).2.2.1) ((sRc S i).2.2.2.1) ((sRc S i).2.2.2.2.1) ((sRc S i).2.2.2.2.2.1) ((sRc S i).2.2.2.2.2.2.1) ((sRc S i).2.2.2.2.2.2.2.1) ((sRc S i).2.2.2.2.2.2.2.2) (16 + 4 * i) (rup_ne (by omega) ((hrd i hrn))) (nI i) (((nI j) * 7) + ((sRc S i).2.1)) ((((nI j) ||| (bitF S i)) * 7) + ((sRc S i).1))) yv_Rows_goAlong m_Rows_60 (rup_ne (by omega) (hn)) k_Rows.2.1 rfl rfl rfl ⟨by decide, by decide⟩ (Nat.le_of_ble_eq_true rfl) ⟨by decide, by decide⟩ d_Rows_lengthen_122 (fun ad9 c9 hp9 => ?_)
        obtain ⟨rfl, rfl⟩ := hp9
        refine r_c (va_up c kb (some (.inl (cy 0, 448, .inl (gaF K (gaF K (lnJ S K i (lnI S mm K i) j) ((sRc S i).2.2.1) (nI i) (((nI j) * 7) + ((sRc S i).1)) ((((nI j) ||| (bitF S i)) * 7) + ((sRc S i).2.1))) ((sRc S i).2.2.1) (nI i) (((nI j) * 7) + ((sRc S i).2.1)) ((((nI j) ||| (bitF S i)) * 7) + ((sRc S i).1))))))) rup_up ?_
        refine r_c (va_up c kb (some (.inl (cy 0, 448, .inl (lnJ S K i (lnI S mm K i) (j + 1)))))) rfl ?_
        refine r_iinc X 8 [(7, .int (nI (j + 1))), (8, .int (((nI j) ||| (bitF S i)) * 7)), (0, .ref (ad n)), (1, .ref (ad 1)), (2, .int (nI mm)), (3, .int (nbF S (i + 1))), (4, .int (nI i)), (5, .ref (ad (16 + 4 * i))), (6, .int (bitF S i))] d_Rows_lengthen_125 rfl (nI_1 j) (by decide) rfl ?_
        refine r_goto X 55 d_Rows_lengthen_128 (by decide) ?_
        refine r_lv [2, 3, 4, 5, 6, 7, 8, 0] [(0, .ref (ad n)), (1, .ref (ad 1)), (2, .int (nI mm)), (3, .int (nbF S (i + 1))), (4, .int (nI i)), (5, .ref (ad (16 + 4 * i))), (6, .int (bitF S i)), (7, .int (nI (j + 1)))] rfl ?_
        exact ih_j (j + 1) ⟨by omega, by omega⟩
    · refine r_aald (v := .null) X 2 (rup_ne (by omega) (hrr)) rfl (vp_in_nI hi (by decide)) (rRf_n (by omega) hrn) d_Rows_lengthen_24 ?_
      refine r_astoreN X [(5, .null), (0, .ref (ad n)), (1, .ref (ad 1)), (2, .int (nI mm)), (3, .int (nbF S i)), (4, .int (nI i))] d_Rows_lengthen_25 (by decide) rfl ?_
      refine r_aloadN X 0 d_Rows_lengthen_27 rfl ?_
      refine r_ifnullN X 131 d_Rows_lengthen_29 (by decide) ?_
      refine r_c (va_up c kb (some (.inl (cy 0, 448, .inl (lnI S mm K (i + 1)))))) (congrArg (fun L9 => va_up c kb (some (iE (cy 0) 448 L9))) (ln_n hrn)) ?_
      refine r_show (va_up c kb (some (.inl (cy 0, 448, .inl (lnI S mm K (i + 1)))))) [(5, .null), (0, .ref (ad n)), (1, .ref (ad 1)), (2, .int (nI mm)), (3, .int (nbF S (i + 1))), (4, .int (nI i))] [] rfl (congrArg (fun x9 : Int32 => ([(5, .null), (0, .ref (ad n)), (1, .ref (ad 1)), (2, .int (nI mm)), (3, .int x9), (4, .int (nI i))] : List (Nat × Value))) (nb_n hrn)) rfl ?_
      refine r_iinc X 5 [(4, .int (nI (i + 1))), (5, .null), (0, .ref (ad n)), (1, .ref (ad 1)), (2, .int (nI mm)), (3, .int (nbF S (i + 1)))] d_Rows_lengthen_131 rfl (nI_1 i) (by decide) rfl ?_
      refine r_goto X 14 d_Rows_lengthen_134 (by decide) ?_
      refine r_lv [2, 3, 4, 5, 0] [(0, .ref (ad n)), (1, .ref (ad 1)), (2, .int (nI mm)), (3, .int (nbF S (i + 1))), (4, .int (nI (i + 1)))] rfl ?_
      exact ih_i (i + 1) ⟨by omega, by omega⟩
theorem cu3 {cy : Nat → ClassId} {ad : Nat → Nat} {S : cS} {J : jS} {f h : Nat → Int32} {x : rC} (hx : va_up (va_up (va_up (cont cy ad S J) 9 (some (iE (cy 0) 448 f))) 10 (some (iE (cy 0) 448 h))) 8 (some (.inr (4, [.ref (ad 9), .ref (ad 10)]))) = x) : x = cont cy ad S (J.1, J.2.1, f, h) := by
  rw [← hx, cu_kp, cu_lg]
  exact rup_id (ct_lo (by decide))
set_option maxRecDepth 100000 in
set_option maxHeartbeats 4000000 in
/-- Rows_best -/
theorem c_Rows_best (l : Launch) (D : va_G) (cy : Nat → ClassId) (ad : Nat → Nat)  (S : cS) (J : jS) (hS : wfS S) (a : Int32) : rMi l D cls (TY cy) NW y_Rows_best (Cond.code y_Rows_best b_Rows_best 8 rt_Rows_best :: W0) { frames := 3, cells := 0, slots := 0, locals := 77 } [.ref (ad 8), .ref (ad 1), .int a] ad (cont cy ad S J) (fun r ad' c' => rbF S a = r ∧ ad = ad' ∧ ∃ K9 L9, cont cy ad S (J.1, J.2.1, K9, L9) = c') := by
  intro sz
  refine r_of (own := R_Rows) rfl (by decide +kernel) (Nat.le_of_ble_eq_true rfl) ?_
  intro p e s m below meth cd hsz X hr hlk hN hin
  have hb8 := hS.1
  refine r_lv [0, 1, 2] [(0, .ref (ad 8)), (1, .ref (ad 1)), (2, .int a)] rfl ?_
  refine r_iconst X 0 d_Rows_best_0 (by decide) ?_
  refine r_istore_n X [(3, .int 0), (0, .ref (ad 8)), (1, .ref (ad 1)), (2, .int a)] d_Rows_best_1 rfl (by decide) rfl ?_
  refine r_aload_n X 2 d_Rows_best_2 rfl rfl ?_
  refine r_astore X [(4, .ref (ad 1)), (3, .int 0), (0, .ref (ad 8)), (1, .ref (ad 1)), (2, .int a)] d_Rows_best_3 (by decide) rfl ?_
  refine r_aload X 0 d_Rows_best_5 rfl ?_
  refine r_alen (v := nI 8) X 2 (ct_lo (by decide)) rfl rfl d_Rows_best_7 ?_
  refine r_istore X [(5, .int (nI 8)), (4, .ref (ad 1)), (3, .int 0), (0, .ref (ad 8)), (1, .ref (ad 1)), (2, .int a)] d_Rows_best_8 (by decide) rfl ?_
  refine r_iconst X 0 d_Rows_best_10 (by decide) ?_
  refine r_istore X [(6, .int 0), (5, .int (nI 8)), (4, .ref (ad 1)), (3, .int 0), (0, .ref (ad 8)), (1, .ref (ad 1)), (2, .int a)] d_Rows_best_11 (by decide) rfl ?_
  refine r_lv [4, 5, 6, 3, 2, 1, 0] [(0, .ref (ad 8)), (1, .ref (ad 1)), (2, .int a), (3, .int (nI (ndF S 0))), (4, .ref (ad 1)), (5, .int (nI 8)), (6, .int (nI 0))] rfl ?_
  refine r_at (r_loop (σ := Nat) (fun f9 i => i ≤ 8 ∧ i + f9 = 8 + 1) (fun i => cont cy ad S J) 13 (fun i => [(0, .ref (ad 8)), (1, .ref (ad 1)), (2, .int a), (3, .int (nI (ndF S i))), (4, .ref (ad 1)), (5, .int (nI 8)), (6, .int (nI i))]) (fun _ => []) (fun i h => by have h1 := h.1; have h2 := h.2; omega) (fun f9 i ih_i hI => ?_) (8 + 1 - 0) 0 ⟨by omega, by omega⟩) rfl rfl rfl rfl
  obtain ⟨hi8, hi9⟩ := hI
  refine r_iload X 6 d_Rows_best_13 rfl ?_
  refine r_iload X 5 d_Rows_best_15 rfl ?_
  refine r_icmp_ge X 54 d_Rows_best_17 (by decide) (fun h_17 => ?_) (fun h_17 => ?_)
  · have hi : 8 = i := by
      rcases Nat.lt_or_ge i 8 with h | h
      · exact absurd h_17 (nI_ge (by omega) (by omega))
      · omega
    subst hi
    refine r_iload_n X 3 d_Rows_best_54 rfl rfl ?_
    refine r_bipush X 6 d_Rows_best_55 (by decide) ?_
    refine r_top (y := nI 6) (by decide) ?_
    by_cases h6 : 6 < ndF S 8
    · refine r_icmp_le X 62 d_Rows_best_57 (by decide) (fun h9 => absurd h9 (nI_ge (a := 6) (b := ndF S 8) h6 (by have := nd_le S 8; omega))) (fun _ => ?_)
      refine r_iconst X 0 d_Rows_best_60 (by decide) ?_
      exact r_iret (post := fun r ad' c' => rbF S a = r ∧ ad = ad' ∧ ∃ K9 L9, cont cy ad S (J.1, J.2.1, K9, L9) = c') X hr hlk d_Rows_best_61 (by decide) (by decide) ⟨if_pos h6, rfl, J.2.2.1, J.2.2.2, rfl⟩
    · refine r_icmp_le X 62 d_Rows_best_57 (by decide) (fun _ => ?_) (fun h9 => absurd (nI_le (by omega) (by omega)) h9)
      refine r_iconst X 1 d_Rows_best_62 (by decide) ?_
      refine r_iload_n X 3 d_Rows_best_63 rfl rfl ?_
      refine r_ishl X d_Rows_best_64 ?_
      obtain ⟨mm, hmd⟩ : ∃ q : Nat, q = 2 ^ ndF S 8 := ⟨_, rfl⟩
      have hmm : mm < 1000 := by rw [hmd]; exact Nat.lt_of_le_of_lt (Nat.pow_le_pow_right (by decide) (by omega : ndF S 8 ≤ 6)) (by decide)
      refine r_top (y := nI mm) (by rw [hmd]; exact shl_nd _ (by omega)) ?_
      obtain ⟨K0, hK0⟩ : ∃ q : Nat → Int32, q = lowA 448 (fun _ => farK) a 1 := ⟨_, rfl⟩
      refine r_istore X [(4, .int (nI mm)), (0, .ref (ad 8)), (1, .ref (ad 1)), (2, .int a), (3, .int (nI (ndF S 8))), (5, .int (nI 8)), (6, .int (nI 8))] d_Rows_best_65 (by decide) rfl ?_
      refine r_aload_n X 1 d_Rows_best_67 rfl rfl ?_
      refine r_get X k_Rows 0 (by decide) f_Rows_9 rfl (ct_lo (by decide)) rfl d_Rows_best_68 ?_
      refine r_ldc X q_Rows_24 d_Rows_best_71 ?_
      refine r_Sv X W0_good hN (c_Arrays_fill_53178 l D cy ad (cont cy ad S J) 9 448 (by decide) J.2.2.1 (ct_lo (by decide)) 1000000000) ys_Arrays_fill_53178 m_Rows_25 rfl rfl ⟨by decide, by decide⟩ (Nat.le_of_ble_eq_true rfl) ⟨by decide, by decide⟩ d_Rows_best_73 (fun ad9 c9 hp9 => ?_)
      obtain ⟨rfl, rfl⟩ := hp9
      refine r_aload_n X 1 d_Rows_best_76 rfl rfl ?_
      refine r_get X k_Rows 0 (by decide) f_Rows_9 rfl (rup_ne (by omega) ((ct_lo (by decide)))) rfl d_Rows_best_77 ?_
      refine r_iload_n X 3 d_Rows_best_80 rfl rfl ?_
      refine r_iconst X 1 d_Rows_best_81 (by decide) ?_
      refine r_SNv X W0_good hN (c_G_lower l D cy ad (va_up (cont cy ad S J) 9 (some (.inl (cy 0, 448, .inl (fun _ => 1000000000))))) 9 448 (by decide) (fun _ => 1000000000) rup_self a 1) ys_G_lower w_Rows_31 rfl rfl ⟨by decide, by decide⟩ (Nat.le_of_ble_eq_true rfl) ⟨by decide, by decide⟩ d_Rows_best_82 (fun ad9 c9 hp9 => ?_)
      obtain ⟨rfl, rfl⟩ := hp9
      refine r_c (va_up (cont cy ad S J) 9 (some (.inl (cy 0, 448, .inl (lowA 448 (fun _ => 1000000000) a 1))))) rup_up ?_
      refine r_c (va_up (cont cy ad S J) 9 (some (.inl (cy 0, 448, .inl K0)))) (by rw [hK0]; rfl) ?_
      refine r_aload_n X 1 d_Rows_best_85 rfl rfl ?_
      refine r_iload X 0 d_Rows_best_86 rfl ?_
      refine r_Vi X W0_good hN (c_Rows_bestWhole l D cy ad (va_up (cont cy ad S J) 9 (some (.inl (cy 0, 448, .inl K0)))) 8 9 10 K0 J.2.2.2 (rup_ne (by omega) ((ct_lo (by decide)))) rup_self (rup_ne (by omega) ((ct_lo (by decide)))) (by decide) (by decide) (by decide) (nI mm)) yv_Rows_bestWhole m_Rows_35 (rup_ne (by omega) ((ct_lo (by decide)))) k_Rows.2.1 rfl rfl rfl ⟨by decide, by decide⟩ (Nat.le_of_ble_eq_true rfl) ⟨by decide, by decide⟩ d_Rows_best_88 (fun r9 ad9 c9 hp9 => ?_)
      obtain ⟨rfl, rfl, rfl⟩ := hp9
      refine r_top (y := bbF S mm K0 0) rfl ?_
      refine r_istore X [(5, .int (bbF S mm K0 0)), (4, .int (nI mm)), (0, .ref (ad 8)), (1, .ref (ad 1)), (2, .int a), (3, .int (nI (ndF S 8))), (6, .int (nI 8))] d_Rows_best_91 (by decide) rfl ?_
      refine r_iconst X 1 d_Rows_best_93 (by decide) ?_
      refine r_istore X [(6, .int 1), (5, .int (bbF S mm K0 0)), (4, .int (nI mm)), (0, .ref (ad 8)), (1, .ref (ad 1)), (2, .int a), (3, .int (nI (ndF S 8)))] d_Rows_best_94 (by decide) rfl ?_
      refine r_iload X 0 d_Rows_best_96 rfl ?_
      refine r_bipush X 6 d_Rows_best_98 (by decide) ?_
      refine r_icmp_gt X 141 d_Rows_best_100 (by decide) (fun h9 => absurd h9 (by decide)) (fun _ => ?_)
      refine r_aload_n X 3 d_Rows_best_103 rfl rfl ?_
      refine r_aload_n X 4 d_Rows_best_104 rfl rfl ?_
      refine r_iload X 2 d_Rows_best_105 rfl ?_
      refine r_Vv X W0_good hN (c_Rows_lengthen l D cy ad (va_up (cont cy ad S J) 9 (some (.inl (cy 0, 448, .inl K0)))) 8 9 10 K0 J.2.2.2 (rup_ne (by omega) ((ct_lo (by decide)))) rup_self (rup_ne (by omega) ((ct_lo (by decide)))) (by decide) (by decide) (by decide) S hb8 (rup_ne (by omega) ((ct_lo (by decide)))) (fun i9 hi9 => (rup_ne (by omega) (ct_road hb8 hi9))) (by decide) (by decide) (by decide) (by decide) (by decide) (by decide) mm hmm) yv_Rows_lengthen m_Rows_39 (rup_ne (by omega) ((ct_lo (by decide)))) k_Rows.2.1 rfl rfl rfl ⟨by decide, by decide⟩ (Nat.le_of_ble_eq_true rfl) ⟨by decide, by decide⟩ d_Rows_best_107 (fun ad9 c9 hp9 => ?_)
      obtain ⟨rfl, rfl⟩ := hp9
      refine r_c (va_up (va_up (va_up (cont cy ad S J) 9 (some (.inl (cy 0, 448, .inl K0)))) 10 (some (.inl (cy 0, 448, .inl (nkF S mm K0 1))))) 8 (some (.inr (4, [.ref (ad 10), .ref (ad 9)])))) rfl ?_
      refine r_aload_n X 3 d_Rows_best_110 rfl rfl ?_
      refine r_iload X 2 d_Rows_best_111 rfl ?_
      refine r_Vi X W0_good hN (c_Rows_bestWhole l D cy ad (va_up (va_up (va_up (cont cy ad S J) 9 (some (.inl (cy 0, 448, .inl K0)))) 10 (some (.inl (cy 0, 448, .inl (nkF S mm K0 1))))) 8 (some (.inr (4, [.ref (ad 10), .ref (ad 9)])))) 8 10 9 (nkF S mm K0 1) K0 rup_self (rup_ne (by omega) (rup_self)) (rup_ne (by omega) (rup_ne (by omega) (rup_self))) (by decide) (by decide) (by decide) (nI mm)) yv_Rows_bestWhole m_Rows_35 rup_self k_Rows.2.1 rfl rfl rfl ⟨by decide, by decide⟩ (Nat.le_of_ble_eq_true rfl) ⟨by decide, by decide⟩ d_Rows_best_113 (fun r9 ad9 c9 hp9 => ?_)
      obtain ⟨rfl, rfl, rfl⟩ := hp9
      refine r_istore X [(7, .int (bwF (nkF S mm K0 1) (nI mm) 7)), (6, .int 1), (5, .int (bbF S mm K0 0)), (4, .int (nI mm)), (0, .ref (ad 8)), (1, .ref (ad 1)), (2, .int a), (3, .int (nI (ndF S 8)))] d_Rows_best_116 (by decide) rfl ?_
      refine r_iload X 0 d_Rows_best_118 rfl ?_
      refine r_ldc X q_Rows_43 d_Rows_best_120 ?_
      refine r_idiv X d_Rows_best_122 (by decide) ?_
      refine r_iload X 2 d_Rows_best_123 rfl ?_
      refine r_ldc X q_Rows_43 d_Rows_best_125 ?_
      refine r_idiv X d_Rows_best_127 (by decide) ?_
      refine r_cut (fun u9 : Int32 => u9 = bbF S mm K0 1) (fun _ => va_up (va_up (va_up (cont cy ad S J) 9 (some (.inl (cy 0, 448, .inl K0)))) 10 (some (.inl (cy 0, 448, .inl (nkF S mm K0 1))))) 8 (some (.inr (4, [.ref (ad 10), .ref (ad 9)])))) 135 (fun u9 => [(7, .int (bwF (nkF S mm K0 1) (nI mm) 7)), (6, .int 1), (5, .int u9), (4, .int (nI mm)), (0, .ref (ad 8)), (1, .ref (ad 1)), (2, .int a), (3, .int (nI (ndF S 8)))]) (fun _ => []) (fun J9 => ?_) (fun v9 hv9 => ?_)
      · refine r_icmp_ge X 135 d_Rows_best_128 (by decide) (fun h9 => ?_) (fun h9 => ?_)
        · exact J9 _ (if_pos h9).symm
        · refine r_iload X 0 d_Rows_best_131 rfl ?_
          refine r_istore X [(5, .int (bwF (nkF S mm K0 1) (nI mm) 7)), (7, .int (bwF (nkF S mm K0 1) (nI mm) 7)), (6, .int 1), (4, .int (nI mm)), (0, .ref (ad 8)), (1, .ref (ad 1)), (2, .int a), (3, .int (nI (ndF S 8)))] d_Rows_best_133 (by decide) rfl ?_
          refine r_lv [1, 2, 0, 3, 4, 5, 6, 7] [(7, .int (bwF (nkF S mm K0 1) (nI mm) 7)), (6, .int 1), (5, .int (bwF (nkF S mm K0 1) (nI mm) 7)), (4, .int (nI mm)), (0, .ref (ad 8)), (1, .ref (ad 1)), (2, .int a), (3, .int (nI (ndF S 8)))] rfl ?_
          exact J9 _ (if_neg h9).symm
      subst hv9
      refine r_iinc X 1 [(6, .int 2), (7, .int (bwF (nkF S mm K0 1) (nI mm) 7)), (5, .int (bbF S mm K0 1)), (4, .int (nI mm)), (0, .ref (ad 8)), (1, .ref (ad 1)), (2, .int a), (3, .int (nI (ndF S 8)))] d_Rows_best_135 rfl (by decide) (by decide) rfl ?_
      refine r_goto X 96 d_Rows_best_138 (by decide) ?_
      refine r_lv [4, 5, 6, 7, 3, 2, 0] [(0, .ref (ad 8)), (1, .ref (ad 1)), (2, .int a), (3, .int (nI (ndF S 8))), (4, .int (nI mm)), (5, .int (bbF S mm K0 1)), (6, .int 2)] rfl ?_
      refine r_iload X 6 d_Rows_best_96 rfl ?_
      refine r_bipush X 6 d_Rows_best_98 (by decide) ?_
      refine r_icmp_gt X 141 d_Rows_best_100 (by decide) (fun h9 => absurd h9 (by decide)) (fun _ => ?_)
      refine r_aload_n X 0 d_Rows_best_103 rfl rfl ?_
      refine r_aload_n X 1 d_Rows_best_104 rfl rfl ?_
      refine r_iload X 4 d_Rows_best_105 rfl ?_
      refine r_Vv X W0_good hN (c_Rows_lengthen l D cy ad (va_up (va_up (va_up (cont cy ad S J) 9 (some (.inl (cy 0, 448, .inl K0)))) 10 (some (.inl (cy 0, 448, .inl (nkF S mm K0 1))))) 8 (some (.inr (4, [.ref (ad 10), .ref (ad 9)])))) 8 10 9 (nkF S mm K0 1) K0 rup_self (rup_ne (by omega) (rup_self)) (rup_ne (by omega) (rup_ne (by omega) (rup_self))) (by decide) (by decide) (by decide) S hb8 (rup_ne (by omega) (rup_ne (by omega) (rup_ne (by omega) ((ct_lo (by decide)))))) (fun i9 hi9 => (rup_ne (by omega) (rup_ne (by omega) (rup_ne (by omega) (ct_road hb8 hi9))))) (by decide) (by decide) (by decide) (by decide) (by decide) (by decide) mm hmm) yv_Rows_lengthen m_Rows_39 rup_self k_Rows.2.1 rfl rfl rfl ⟨by decide, by decide⟩ (Nat.le_of_ble_eq_true rfl) ⟨by decide, by decide⟩ d_Rows_best_107 (fun ad9 c9 hp9 => ?_)
      obtain ⟨rfl, rfl⟩ := hp9
      refine r_c (va_up (va_up (va_up (cont cy ad S J) 9 (some (.inl (cy 0, 448, .inl (nkF S mm K0 2))))) 10 (some (.inl (cy 0, 448, .inl (nkF S mm K0 1))))) 8 (some (.inr (4, [.ref (ad 9), .ref (ad 10)])))) ((congrArg (fun q9 => va_up q9 8 (some (.inr (4, [.ref (ad 9), .ref (ad 10)])))) (rup_in (by omega) (rup_in (by omega) rup_up rfl) rfl)).trans rup_up) ?_
      refine r_c (va_up (va_up (va_up (cont cy ad S J) 9 (some (.inl (cy 0, 448, .inl (nkF S mm K0 2))))) 10 (some (.inl (cy 0, 448, .inl (nkF S mm K0 1))))) 8 (some (.inr (4, [.ref (ad 9), .ref (ad 10)])))) rfl ?_
      refine r_aload_n X 0 d_Rows_best_110 rfl rfl ?_
      refine r_iload X 4 d_Rows_best_111 rfl ?_
      refine r_Vi X W0_good hN (c_Rows_bestWhole l D cy ad (va_up (va_up (va_up (cont cy ad S J) 9 (some (.inl (cy 0, 448, .inl (nkF S mm K0 2))))) 10 (some (.inl (cy 0, 448, .inl (nkF S mm K0 1))))) 8 (some (.inr (4, [.ref (ad 9), .ref (ad 10)])))) 8 9 10 (nkF S mm K0 2) (nkF S mm K0 1) rup_self (rup_ne (by omega) (rup_ne (by omega) (rup_self))) (rup_ne (by omega) (rup_self)) (by decide) (by decide) (by decide) (nI mm)) yv_Rows_bestWhole m_Rows_35 rup_self k_Rows.2.1 rfl rfl rfl ⟨by decide, by decide⟩ (Nat.le_of_ble_eq_true rfl) ⟨by decide, by decide⟩ d_Rows_best_113 (fun r9 ad9 c9 hp9 => ?_)
      obtain ⟨rfl, rfl, rfl⟩ := hp9
      refine r_istore X [(7, .int (bwF (nkF S mm K0 2) (nI mm) 7)), (0, .ref (ad 8)), (1, .ref (ad 1)), (2, .int a), (3, .int (nI (ndF S 8))), (4, .int (nI mm)), (5, .int (bbF S mm K0 1)), (6, .int 2)] d_Rows_best_116 (by decide) rfl ?_
      refine r_iload X 0 d_Rows_best_118 rfl ?_
      refine r_ldc X q_Rows_43 d_Rows_best_120 ?_
      refine r_idiv X d_Rows_best_122 (by decide) ?_
      refine r_iload X 6 d_Rows_best_123 rfl ?_
      refine r_ldc X q_Rows_43 d_Rows_best_125 ?_
      refine r_idiv X d_Rows_best_127 (by decide) ?_
      refine r_cut (fun u9 : Int32 => u9 = bbF S mm K0 2) (fun _ => va_up (va_up (va_up (cont cy ad S J) 9 (some (.inl (cy 0, 448, .inl (nkF S mm K0 2))))) 10 (some (.inl (cy 0, 448, .inl (nkF S mm K0 1))))) 8 (some (.inr (4, [.ref (ad 9), .ref (ad 10)])))) 135 (fun u9 => [(7, .int (bwF (nkF S mm K0 2) (nI mm) 7)), (0, .ref (ad 8)), (1, .ref (ad 1)), (2, .int a), (3, .int (nI (ndF S 8))), (4, .int (nI mm)), (5, .int u9), (6, .int 2)]) (fun _ => []) (fun J9 => ?_) (fun v9 hv9 => ?_)
      · refine r_icmp_ge X 135 d_Rows_best_128 (by decide) (fun h9 => ?_) (fun h9 => ?_)
        · exact J9 _ (if_pos h9).symm
        · refine r_iload X 0 d_Rows_best_131 rfl ?_
          refine r_istore X [(5, .int (bwF (nkF S mm K0 2) (nI mm) 7)), (7, .int (bwF (nkF S mm K0 2) (nI mm) 7)), (0, .ref (ad 8)), (1, .ref (ad 1)), (2, .int a), (3, .int (nI (ndF S 8))), (4, .int (nI mm)), (6, .int 2)] d_Rows_best_133 (by decide) rfl ?_
          refine r_lv [1, 2, 3, 4, 5, 6, 0, 7] [(7, .int (bwF (nkF S mm K0 2) (nI mm) 7)), (0, .ref (ad 8)), (1, .ref (ad 1)), (2, .int a), (3, .int (nI (ndF S 8))), (4, .int (nI mm)), (5, .int (bwF (nkF S mm K0 2) (nI mm) 7)), (6, .int 2)] rfl ?_
          exact J9 _ (if_neg h9).symm
      subst hv9
      refine r_iinc X 7 [(6, .int 3), (7, .int (bwF (nkF S mm K0 2) (nI mm) 7)), (0, .ref (ad 8)), (1, .ref (ad 1)), (2, .int a), (3, .int (nI (ndF S 8))), (4, .int (nI mm)), (5, .int (bbF S mm K0 2))] d_Rows_best_135 rfl (by decide) (by decide) rfl ?_
      refine r_goto X 96 d_Rows_best_138 (by decide) ?_
      refine r_lv [2, 3, 4, 5, 6, 7, 0] [(0, .ref (ad 8)), (1, .ref (ad 1)), (2, .int a), (3, .int (nI (ndF S 8))), (4, .int (nI mm)), (5, .int (bbF S mm K0 2)), (6, .int 3)] rfl ?_
      refine r_iload X 6 d_Rows_best_96 rfl ?_
      refine r_bipush X 6 d_Rows_best_98 (by decide) ?_
      refine r_icmp_gt X 141 d_Rows_best_100 (by decide) (fun h9 => absurd h9 (by decide)) (fun _ => ?_)
      refine r_aload_n X 0 d_Rows_best_103 rfl rfl ?_
      refine r_aload_n X 1 d_Rows_best_104 rfl rfl ?_
      refine r_iload X 4 d_Rows_best_105 rfl ?_
      refine r_Vv X W0_good hN (c_Rows_lengthen l D cy ad (va_up (va_up (va_up (cont cy ad S J) 9 (some (.inl (cy 0, 448, .inl (nkF S mm K0 2))))) 10 (some (.inl (cy 0, 448, .inl (nkF S mm K0 1))))) 8 (some (.inr (4, [.ref (ad 9), .ref (ad 10)])))) 8 9 10 (nkF S mm K0 2) (nkF S mm K0 1) rup_self (rup_ne (by omega) (rup_ne (by omega) (rup_self))) (rup_ne (by omega) (rup_self)) (by decide) (by decide) (by decide) S hb8 (rup_ne (by omega) (rup_ne (by omega) (rup_ne (by omega) ((ct_lo (by decide)))))) (fun i9 hi9 => (rup_ne (by omega) (rup_ne (by omega) (rup_ne (by omega) (ct_road hb8 hi9))))) (by decide) (by decide) (by decide) (by decide) (by decide) (by decide) mm hmm) yv_Rows_lengthen m_Rows_39 rup_self k_Rows.2.1 rfl rfl rfl ⟨by decide, by decide⟩ (Nat.le_of_ble_eq_true rfl) ⟨by decide, by decide⟩ d_Rows_best_107 (fun ad9 c9 hp9 => ?_)
      obtain ⟨rfl, rfl⟩ := hp9
      refine r_c (va_up (va_up (va_up (cont cy ad S J) 9 (some (.inl (cy 0, 448, .inl (nkF S mm K0 2))))) 10 (some (.inl (cy 0, 448, .inl (nkF S mm K0 3))))) 8 (some (.inr (4, [.ref (ad 10), .ref (ad 9)])))) ((congrArg (fun q9 => va_up q9 8 (some (.inr (4, [.ref (ad 10), .ref (ad 9)])))) (rup_in (by omega) rup_up rfl)).trans rup_up) ?_
      refine r_c (va_up (va_up (va_up (cont cy ad S J) 9 (some (.inl (cy 0, 448, .inl (nkF S mm K0 2))))) 10 (some (.inl (cy 0, 448, .inl (nkF S mm K0 3))))) 8 (some (.inr (4, [.ref (ad 10), .ref (ad 9)])))) rfl ?_
      refine r_aload_n X 0 d_Rows_best_110 rfl rfl ?_
      refine r_iload X 4 d_Rows_best_111 rfl ?_
      refine r_Vi X W0_good hN (c_Rows_bestWhole l D cy ad (va_up (va_up (va_up (cont cy ad S J) 9 (some (.inl (cy 0, 448, .inl (nkF S mm K0 2))))) 10 (some (.inl (cy 0, 448, .inl (nkF S mm K0 3))))) 8 (some (.inr (4, [.ref (ad 10), .ref (ad 9)])))) 8 10 9 (nkF S mm K0 3) (nkF S mm K0 2) rup_self (rup_ne (by omega) (rup_self)) (rup_ne (by omega) (rup_ne (by omega) (rup_self))) (by decide) (by decide) (by decide) (nI mm)) yv_Rows_bestWhole m_Rows_35 rup_self k_Rows.2.1 rfl rfl rfl ⟨by decide, by decide⟩ (Nat.le_of_ble_eq_true rfl) ⟨by decide, by decide⟩ d_Rows_best_113 (fun r9 ad9 c9 hp9 => ?_)
      obtain ⟨rfl, rfl, rfl⟩ := hp9
      refine r_istore X [(7, .int (bwF (nkF S mm K0 3) (nI mm) 7)), (0, .ref (ad 8)), (1, .ref (ad 1)), (2, .int a), (3, .int (nI (ndF S 8))), (4, .int (nI mm)), (5, .int (bbF S mm K0 2)), (6, .int 3)] d_Rows_best_116 (by decide) rfl ?_
      refine r_iload X 0 d_Rows_best_118 rfl ?_
      refine r_ldc X q_Rows_43 d_Rows_best_120 ?_
      refine r_idiv X d_Rows_best_122 (by decide) ?_
      refine r_iload X 6 d_Rows_best_123 rfl ?_
      refine r_ldc X q_Rows_43 d_Rows_best_125 ?_
      refine r_idiv X d_Rows_best_127 (by decide) ?_
      refine r_cut (fun u9 : Int32 => u9 = bbF S mm K0 3) (fun _ => va_up (va_up (va_up (cont cy ad S J) 9 (some (.inl (cy 0, 448, .inl (nkF S mm K0 2))))) 10 (some (.inl (cy 0, 448, .inl (nkF S mm K0 3))))) 8 (some (.inr (4, [.ref (ad 10), .ref (ad 9)])))) 135 (fun u9 => [(7, .int (bwF (nkF S mm K0 3) (nI mm) 7)), (0, .ref (ad 8)), (1, .ref (ad 1)), (2, .int a), (3, .int (nI (ndF S 8))), (4, .int (nI mm)), (5, .int u9), (6, .int 3)]) (fun _ => []) (fun J9 => ?_) (fun v9 hv9 => ?_)
      · refine r_icmp_ge X 135 d_Rows_best_128 (by decide) (fun h9 => ?_) (fun h9 => ?_)
        · exact J9 _ (if_pos h9).symm
        · refine r_iload X 0 d_Rows_best_131 rfl ?_
          refine r_istore X [(5, .int (bwF (nkF S mm K0 3) (nI mm) 7)), (7, .int (bwF (nkF S mm K0 3) (nI mm) 7)), (0, .ref (ad 8)), (1, .ref (ad 1)), (2, .int a), (3, .int (nI (ndF S 8))), (4, .int (nI mm)), (6, .int 3)] d_Rows_best_133 (by decide) rfl ?_
          refine r_lv [1, 2, 3, 4, 5, 6, 0, 7] [(7, .int (bwF (nkF S mm K0 3) (nI mm) 7)), (0, .ref (ad 8)), (1, .ref (ad 1)), (2, .int a), (3, .int (nI (ndF S 8))), (4, .int (nI mm)), (5, .int (bwF (nkF S mm K0 3) (nI mm) 7)), (6, .int 3)] rfl ?_
          exact J9 _ (if_neg h9).symm
      subst hv9
      refine r_iinc X 7 [(6, .int 4), (7, .int (bwF (nkF S mm K0 3) (nI mm) 7)), (0, .ref (ad 8)), (1, .ref (ad 1)), (2, .int a), (3, .int (nI (ndF S 8))), (4, .int (nI mm)), (5, .int (bbF S mm K0 3))] d_Rows_best_135 rfl (by decide) (by decide) rfl ?_
      refine r_goto X 96 d_Rows_best_138 (by decide) ?_
      refine r_lv [2, 3, 4, 5, 6, 7, 0] [(0, .ref (ad 8)), (1, .ref (ad 1)), (2, .int a), (3, .int (nI (ndF S 8))), (4, .int (nI mm)), (5, .int (bbF S mm K0 3)), (6, .int 4)] rfl ?_
      refine r_iload X 6 d_Rows_best_96 rfl ?_
      refine r_bipush X 6 d_Rows_best_98 (by decide) ?_
      refine r_icmp_gt X 141 d_Rows_best_100 (by decide) (fun h9 => absurd h9 (by decide)) (fun _ => ?_)
      refine r_aload_n X 0 d_Rows_best_103 rfl rfl ?_
      refine r_aload_n X 1 d_Rows_best_104 rfl rfl ?_
      refine r_iload X 4 d_Rows_best_105 rfl ?_
      refine r_Vv X W0_good hN (c_Rows_lengthen l D cy ad (va_up (va_up (va_up (cont cy ad S J) 9 (some (.inl (cy 0, 448, .inl (nkF S mm K0 2))))) 10 (some (.inl (cy 0, 448, .inl (nkF S mm K0 3))))) 8 (some (.inr (4, [.ref (ad 10), .ref (ad 9)])))) 8 10 9 (nkF S mm K0 3) (nkF S mm K0 2) rup_self (rup_ne (by omega) (rup_self)) (rup_ne (by omega) (rup_ne (by omega) (rup_self))) (by decide) (by decide) (by decide) S hb8 (rup_ne (by omega) (rup_ne (by omega) (rup_ne (by omega) ((ct_lo (by decide)))))) (fun i9 hi9 => (rup_ne (by omega) (rup_ne (by omega) (rup_ne (by omega) (ct_road hb8 hi9))))) (by decide) (by decide) (by decide) (by decide) (by decide) (by decide) mm hmm) yv_Rows_lengthen m_Rows_39 rup_self k_Rows.2.1 rfl rfl rfl ⟨by decide, by decide⟩ (Nat.le_of_ble_eq_true rfl) ⟨by decide, by decide⟩ d_Rows_best_107 (fun ad9 c9 hp9 => ?_)
      obtain ⟨rfl, rfl⟩ := hp9
      refine r_c (va_up (va_up (va_up (cont cy ad S J) 9 (some (.inl (cy 0, 448, .inl (nkF S mm K0 4))))) 10 (some (.inl (cy 0, 448, .inl (nkF S mm K0 3))))) 8 (some (.inr (4, [.ref (ad 9), .ref (ad 10)])))) ((congrArg (fun q9 => va_up q9 8 (some (.inr (4, [.ref (ad 9), .ref (ad 10)])))) (rup_in (by omega) (rup_in (by omega) rup_up rfl) rfl)).trans rup_up) ?_
      refine r_c (va_up (va_up (va_up (cont cy ad S J) 9 (some (.inl (cy 0, 448, .inl (nkF S mm K0 4))))) 10 (some (.inl (cy 0, 448, .inl (nkF S mm K0 3))))) 8 (some (.inr (4, [.ref (ad 9), .ref (ad 10)])))) rfl ?_
      refine r_aload_n X 0 d_Rows_best_110 rfl rfl ?_
      refine r_iload X 4 d_Rows_best_111 rfl ?_
      refine r_Vi X W0_good hN (c_Rows_bestWhole l D cy ad (va_up (va_up (va_up (cont cy ad S J) 9 (some (.inl (cy 0, 448, .inl (nkF S mm K0 4))))) 10 (some (.inl (cy 0, 448, .inl (nkF S mm K0 3))))) 8 (some (.inr (4, [.ref (ad 9), .ref (ad 10)])))) 8 9 10 (nkF S mm K0 4) (nkF S mm K0 3) rup_self (rup_ne (by omega) (rup_ne (by omega) (rup_self))) (rup_ne (by omega) (rup_self)) (by decide) (by decide) (by decide) (nI mm)) yv_Rows_bestWhole m_Rows_35 rup_self k_Rows.2.1 rfl rfl rfl ⟨by decide, by decide⟩ (Nat.le_of_ble_eq_true rfl) ⟨by decide, by decide⟩ d_Rows_best_113 (fun r9 ad9 c9 hp9 => ?_)
      obtain ⟨rfl, rfl, rfl⟩ := hp9
      refine r_istore X [(7, .int (bwF (nkF S mm K0 4) (nI mm) 7)), (0, .ref (ad 8)), (1, .ref (ad 1)), (2, .int a), (3, .int (nI (ndF S 8))), (4, .int (nI mm)), (5, .int (bbF S mm K0 3)), (6, .int 4)] d_Rows_best_116 (by decide) rfl ?_
      refine r_iload X 0 d_Rows_best_118 rfl ?_
      refine r_ldc X q_Rows_43 d_Rows_best_120 ?_
      refine r_idiv X d_Rows_best_122 (by decide) ?_
      refine r_iload X 6 d_Rows_best_123 rfl ?_
      refine r_ldc X q_Rows_43 d_Rows_best_125 ?_
      refine r_idiv X d_Rows_best_127 (by decide) ?_
      refine r_cut (fun u9 : Int32 => u9 = bbF S mm K0 4) (fun _ => va_up (va_up (va_up (cont cy ad S J) 9 (some (.inl (cy 0, 448, .inl (nkF S mm K0 4))))) 10 (some (.inl (cy 0, 448, .inl (nkF S mm K0 3))))) 8 (some (.inr (4, [.ref (ad 9), .ref (ad 10)])))) 135 (fun u9 => [(7, .int (bwF (nkF S mm K0 4) (nI mm) 7)), (0, .ref (ad 8)), (1, .ref (ad 1)), (2, .int a), (3, .int (nI (ndF S 8))), (4, .int (nI mm)), (5, .int u9), (6, .int 4)]) (fun _ => []) (fun J9 => ?_) (fun v9 hv9 => ?_)
      · refine r_icmp_ge X 135 d_Rows_best_128 (by decide) (fun h9 => ?_) (fun h9 => ?_)
        · exact J9 _ (if_pos h9).symm
        · refine r_iload X 0 d_Rows_best_131 rfl ?_
          refine r_istore X [(5, .int (bwF (nkF S mm K0 4) (nI mm) 7)), (7, .int (bwF (nkF S mm K0 4) (nI mm) 7)), (0, .ref (ad 8)), (1, .ref (ad 1)), (2, .int a), (3, .int (nI (ndF S 8))), (4, .int (nI mm)), (6, .int 4)] d_Rows_best_133 (by decide) rfl ?_
          refine r_lv [1, 2, 3, 4, 5, 6, 0, 7] [(7, .int (bwF (nkF S mm K0 4) (nI mm) 7)), (0, .ref (ad 8)), (1, .ref (ad 1)), (2, .int a), (3, .int (nI (ndF S 8))), (4, .int (nI mm)), (5, .int (bwF (nkF S mm K0 4) (nI mm) 7)), (6, .int 4)] rfl ?_
          exact J9 _ (if_neg h9).symm
      subst hv9
      refine r_iinc X 7 [(6, .int 5), (7, .int (bwF (nkF S mm K0 4) (nI mm) 7)), (0, .ref (ad 8)), (1, .ref (ad 1)), (2, .int a), (3, .int (nI (ndF S 8))), (4, .int (nI mm)), (5, .int (bbF S mm K0 4))] d_Rows_best_135 rfl (by decide) (by decide) rfl ?_
      refine r_goto X 96 d_Rows_best_138 (by decide) ?_
      refine r_lv [2, 3, 4, 5, 6, 7, 0] [(0, .ref (ad 8)), (1, .ref (ad 1)), (2, .int a), (3, .int (nI (ndF S 8))), (4, .int (nI mm)), (5, .int (bbF S mm K0 4)), (6, .int 5)] rfl ?_
      refine r_iload X 6 d_Rows_best_96 rfl ?_
      refine r_bipush X 6 d_Rows_best_98 (by decide) ?_
      refine r_icmp_gt X 141 d_Rows_best_100 (by decide) (fun h9 => absurd h9 (by decide)) (fun _ => ?_)
      refine r_aload_n X 0 d_Rows_best_103 rfl rfl ?_
      refine r_aload_n X 1 d_Rows_best_104 rfl rfl ?_
      refine r_iload X 4 d_Rows_best_105 rfl ?_
      refine r_Vv X W0_good hN (c_Rows_lengthen l D cy ad (va_up (va_up (va_up (cont cy ad S J) 9 (some (.inl (cy 0, 448, .inl (nkF S mm K0 4))))) 10 (some (.inl (cy 0, 448, .inl (nkF S mm K0 3))))) 8 (some (.inr (4, [.ref (ad 9), .ref (ad 10)])))) 8 9 10 (nkF S mm K0 4) (nkF S mm K0 3) rup_self (rup_ne (by omega) (rup_ne (by omega) (rup_self))) (rup_ne (by omega) (rup_self)) (by decide) (by decide) (by decide) S hb8 (rup_ne (by omega) (rup_ne (by omega) (rup_ne (by omega) ((ct_lo (by decide)))))) (fun i9 hi9 => (rup_ne (by omega) (rup_ne (by omega) (rup_ne (by omega) (ct_road hb8 hi9))))) (by decide) (by decide) (by decide) (by decide) (by decide) (by decide) mm hmm) yv_Rows_lengthen m_Rows_39 rup_self k_Rows.2.1 rfl rfl rfl ⟨by decide, by decide⟩ (Nat.le_of_ble_eq_true rfl) ⟨by decide, by decide⟩ d_Rows_best_107 (fun ad9 c9 hp9 => ?_)
      obtain ⟨rfl, rfl⟩ := hp9
      refine r_c (va_up (va_up (va_up (cont cy ad S J) 9 (some (.inl (cy 0, 448, .inl (nkF S mm K0 4))))) 10 (some (.inl (cy 0, 448, .inl (nkF S mm K0 5))))) 8 (some (.inr (4, [.ref (ad 10), .ref (ad 9)])))) ((congrArg (fun q9 => va_up q9 8 (some (.inr (4, [.ref (ad 10), .ref (ad 9)])))) (rup_in (by omega) rup_up rfl)).trans rup_up) ?_
      refine r_c (va_up (va_up (va_up (cont cy ad S J) 9 (some (.inl (cy 0, 448, .inl (nkF S mm K0 4))))) 10 (some (.inl (cy 0, 448, .inl (nkF S mm K0 5))))) 8 (some (.inr (4, [.ref (ad 10), .ref (ad 9)])))) rfl ?_
      refine r_aload_n X 0 d_Rows_best_110 rfl rfl ?_
      refine r_iload X 4 d_Rows_best_111 rfl ?_
      refine r_Vi X W0_good hN (c_Rows_bestWhole l D cy ad (va_up (va_up (va_up (cont cy ad S J) 9 (some (.inl (cy 0, 448, .inl (nkF S mm K0 4))))) 10 (some (.inl (cy 0, 448, .inl (nkF S mm K0 5))))) 8 (some (.inr (4, [.ref (ad 10), .ref (ad 9)])))) 8 10 9 (nkF S mm K0 5) (nkF S mm K0 4) rup_self (rup_ne (by omega) (rup_self)) (rup_ne (by omega) (rup_ne (by omega) (rup_self))) (by decide) (by decide) (by decide) (nI mm)) yv_Rows_bestWhole m_Rows_35 rup_self k_Rows.2.1 rfl rfl rfl ⟨by decide, by decide⟩ (Nat.le_of_ble_eq_true rfl) ⟨by decide, by decide⟩ d_Rows_best_113 (fun r9 ad9 c9 hp9 => ?_)
      obtain ⟨rfl, rfl, rfl⟩ := hp9
      refine r_istore X [(7, .int (bwF (nkF S mm K0 5) (nI mm) 7)), (0, .ref (ad 8)), (1, .ref (ad 1)), (2, .int a), (3, .int (nI (ndF S 8))), (4, .int (nI mm)), (5, .int (bbF S mm K0 4)), (6, .int 5)] d_Rows_best_116 (by decide) rfl ?_
      refine r_iload X 0 d_Rows_best_118 rfl ?_
      refine r_ldc X q_Rows_43 d_Rows_best_120 ?_
      refine r_idiv X d_Rows_best_122 (by decide) ?_
      refine r_iload X 6 d_Rows_best_123 rfl ?_
      refine r_ldc X q_Rows_43 d_Rows_best_125 ?_
      refine r_idiv X d_Rows_best_127 (by decide) ?_
      refine r_cut (fun u9 : Int32 => u9 = bbF S mm K0 5) (fun _ => va_up (va_up (va_up (cont cy ad S J) 9 (some (.inl (cy 0, 448, .inl (nkF S mm K0 4))))) 10 (some (.inl (cy 0, 448, .inl (nkF S mm K0 5))))) 8 (some (.inr (4, [.ref (ad 10), .ref (ad 9)])))) 135 (fun u9 => [(7, .int (bwF (nkF S mm K0 5) (nI mm) 7)), (0, .ref (ad 8)), (1, .ref (ad 1)), (2, .int a), (3, .int (nI (ndF S 8))), (4, .int (nI mm)), (5, .int u9), (6, .int 5)]) (fun _ => []) (fun J9 => ?_) (fun v9 hv9 => ?_)
      · refine r_icmp_ge X 135 d_Rows_best_128 (by decide) (fun h9 => ?_) (fun h9 => ?_)
        · exact J9 _ (if_pos h9).symm
        · refine r_iload X 0 d_Rows_best_131 rfl ?_
          refine r_istore X [(5, .int (bwF (nkF S mm K0 5) (nI mm) 7)), (7, .int (bwF (nkF S mm K0 5) (nI mm) 7)), (0, .ref (ad 8)), (1, .ref (ad 1)), (2, .int a), (3, .int (nI (ndF S 8))), (4, .int (nI mm)), (6, .int 5)] d_Rows_best_133 (by decide) rfl ?_
          refine r_lv [1, 2, 3, 4, 5, 6, 0, 7] [(7, .int (bwF (nkF S mm K0 5) (nI mm) 7)), (0, .ref (ad 8)), (1, .ref (ad 1)), (2, .int a), (3, .int (nI (ndF S 8))), (4, .int (nI mm)), (5, .int (bwF (nkF S mm K0 5) (nI mm) 7)), (6, .int 5)] rfl ?_
          exact J9 _ (if_neg h9).symm
      subst hv9
      refine r_iinc X 7 [(6, .int 6), (7, .int (bwF (nkF S mm K0 5) (nI mm) 7)), (0, .ref (ad 8)), (1, .ref (ad 1)), (2, .int a), (3, .int (nI (ndF S 8))), (4, .int (nI mm)), (5, .int (bbF S mm K0 5))] d_Rows_best_135 rfl (by decide) (by decide) rfl ?_
      refine r_goto X 96 d_Rows_best_138 (by decide) ?_
      refine r_lv [2, 3, 4, 5, 6, 7, 0] [(0, .ref (ad 8)), (1, .ref (ad 1)), (2, .int a), (3, .int (nI (ndF S 8))), (4, .int (nI mm)), (5, .int (bbF S mm K0 5)), (6, .int 6)] rfl ?_
      refine r_iload X 6 d_Rows_best_96 rfl ?_
      refine r_bipush X 6 d_Rows_best_98 (by decide) ?_
      refine r_icmp_gt X 141 d_Rows_best_100 (by decide) (fun h9 => absurd h9 (by decide)) (fun _ => ?_)
      refine r_aload_n X 0 d_Rows_best_103 rfl rfl ?_
      refine r_aload_n X 1 d_Rows_best_104 rfl rfl ?_
      refine r_iload X 4 d_Rows_best_105 rfl ?_
      refine r_Vv X W0_good hN (c_Rows_lengthen l D cy ad (va_up (va_up (va_up (cont cy ad S J) 9 (some (.inl (cy 0, 448, .inl (nkF S mm K0 4))))) 10 (some (.inl (cy 0, 448, .inl (nkF S mm K0 5))))) 8 (some (.inr (4, [.ref (ad 10), .ref (ad 9)])))) 8 10 9 (nkF S mm K0 5) (nkF S mm K0 4) rup_self (rup_ne (by omega) (rup_self)) (rup_ne (by omega) (rup_ne (by omega) (rup_self))) (by decide) (by decide) (by decide) S hb8 (rup_ne (by omega) (rup_ne (by omega) (rup_ne (by omega) ((ct_lo (by decide)))))) (fun i9 hi9 => (rup_ne (by omega) (rup_ne (by omega) (rup_ne (by omega) (ct_road hb8 hi9))))) (by decide) (by decide) (by decide) (by decide) (by decide) (by decide) mm hmm) yv_Rows_lengthen m_Rows_39 rup_self k_Rows.2.1 rfl rfl rfl ⟨by decide, by decide⟩ (Nat.le_of_ble_eq_true rfl) ⟨by decide, by decide⟩ d_Rows_best_107 (fun ad9 c9 hp9 => ?_)
      obtain ⟨rfl, rfl⟩ := hp9
      refine r_c (va_up (va_up (va_up (cont cy ad S J) 9 (some (.inl (cy 0, 448, .inl (nkF S mm K0 6))))) 10 (some (.inl (cy 0, 448, .inl (nkF S mm K0 5))))) 8 (some (.inr (4, [.ref (ad 9), .ref (ad 10)])))) ((congrArg (fun q9 => va_up q9 8 (some (.inr (4, [.ref (ad 9), .ref (ad 10)])))) (rup_in (by omega) (rup_in (by omega) rup_up rfl) rfl)).trans rup_up) ?_
      refine r_c (va_up (va_up (va_up (cont cy ad S J) 9 (some (.inl (cy 0, 448, .inl (nkF S mm K0 6))))) 10 (some (.inl (cy 0, 448, .inl (nkF S mm K0 5))))) 8 (some (.inr (4, [.ref (ad 9), .ref (ad 10)])))) rfl ?_
      refine r_aload_n X 0 d_Rows_best_110 rfl rfl ?_
      refine r_iload X 4 d_Rows_best_111 rfl ?_
      refine r_Vi X W0_good hN (c_Rows_bestWhole l D cy ad (va_up (va_up (va_up (cont cy ad S J) 9 (some (.inl (cy 0, 448, .inl (nkF S mm K0 6))))) 10 (some (.inl (cy 0, 448, .inl (nkF S mm K0 5))))) 8 (some (.inr (4, [.ref (ad 9), .ref (ad 10)])))) 8 9 10 (nkF S mm K0 6) (nkF S mm K0 5) rup_self (rup_ne (by omega) (rup_ne (by omega) (rup_self))) (rup_ne (by omega) (rup_self)) (by decide) (by decide) (by decide) (nI mm)) yv_Rows_bestWhole m_Rows_35 rup_self k_Rows.2.1 rfl rfl rfl ⟨by decide, by decide⟩ (Nat.le_of_ble_eq_true rfl) ⟨by decide, by decide⟩ d_Rows_best_113 (fun r9 ad9 c9 hp9 => ?_)
      obtain ⟨rfl, rfl, rfl⟩ := hp9
      refine r_istore X [(7, .int (bwF (nkF S mm K0 6) (nI mm) 7)), (0, .ref (ad 8)), (1, .ref (ad 1)), (2, .int a), (3, .int (nI (ndF S 8))), (4, .int (nI mm)), (5, .int (bbF S mm K0 5)), (6, .int 6)] d_Rows_best_116 (by decide) rfl ?_
      refine r_iload X 0 d_Rows_best_118 rfl ?_
      refine r_ldc X q_Rows_43 d_Rows_best_120 ?_
      refine r_idiv X d_Rows_best_122 (by decide) ?_
      refine r_iload X 6 d_Rows_best_123 rfl ?_
      refine r_ldc X q_Rows_43 d_Rows_best_125 ?_
      refine r_idiv X d_Rows_best_127 (by decide) ?_
      refine r_cut (fun u9 : Int32 => u9 = bbF S mm K0 6) (fun _ => va_up (va_up (va_up (cont cy ad S J) 9 (some (.inl (cy 0, 448, .inl (nkF S mm K0 6))))) 10 (some (.inl (cy 0, 448, .inl (nkF S mm K0 5))))) 8 (some (.inr (4, [.ref (ad 9), .ref (ad 10)])))) 135 (fun u9 => [(7, .int (bwF (nkF S mm K0 6) (nI mm) 7)), (0, .ref (ad 8)), (1, .ref (ad 1)), (2, .int a), (3, .int (nI (ndF S 8))), (4, .int (nI mm)), (5, .int u9), (6, .int 6)]) (fun _ => []) (fun J9 => ?_) (fun v9 hv9 => ?_)
      · refine r_icmp_ge X 135 d_Rows_best_128 (by decide) (fun h9 => ?_) (fun h9 => ?_)
        · exact J9 _ (if_pos h9).symm
        · refine r_iload X 0 d_Rows_best_131 rfl ?_
          refine r_istore X [(5, .int (bwF (nkF S mm K0 6) (nI mm) 7)), (7, .int (bwF (nkF S mm K0 6) (nI mm) 7)), (0, .ref (ad 8)), (1, .ref (ad 1)), (2, .int a), (3, .int (nI (ndF S 8))), (4, .int (nI mm)), (6, .int 6)] d_Rows_best_133 (by decide) rfl ?_
          refine r_lv [1, 2, 3, 4, 5, 6, 0, 7] [(7, .int (bwF (nkF S mm K0 6) (nI mm) 7)), (0, .ref (ad 8)), (1, .ref (ad 1)), (2, .int a), (3, .int (nI (ndF S 8))), (4, .int (nI mm)), (5, .int (bwF (nkF S mm K0 6) (nI mm) 7)), (6, .int 6)] rfl ?_
          exact J9 _ (if_neg h9).symm
      subst hv9
      refine r_iinc X 7 [(6, .int 7), (7, .int (bwF (nkF S mm K0 6) (nI mm) 7)), (0, .ref (ad 8)), (1, .ref (ad 1)), (2, .int a), (3, .int (nI (ndF S 8))), (4, .int (nI mm)), (5, .int (bbF S mm K0 6))] d_Rows_best_135 rfl (by decide) (by decide) rfl ?_
      refine r_goto X 96 d_Rows_best_138 (by decide) ?_
      refine r_lv [2, 3, 4, 5, 6, 7, 0] [(0, .ref (ad 8)), (1, .ref (ad 1)), (2, .int a), (3, .int (nI (ndF S 8))), (4, .int (nI mm)), (5, .int (bbF S mm K0 6)), (6, .int 7)] rfl ?_
      refine r_iload X 6 d_Rows_best_96 rfl ?_
      refine r_bipush X 6 d_Rows_best_98 (by decide) ?_
      refine r_icmp_gt X 141 d_Rows_best_100 (by decide) (fun _ => ?_) (fun h9 => absurd (by decide) h9)
      refine r_iload X 5 d_Rows_best_141 rfl ?_
      refine r_ldc X q_Rows_24 d_Rows_best_143 ?_
      refine r_icmp_ne X 152 d_Rows_best_145 (by decide) (fun h_145 => ?_) (fun h_145 => ?_)
      · refine r_iload X 5 d_Rows_best_152 rfl ?_
        refine r_ldc X q_Rows_43 d_Rows_best_154 ?_
        refine r_irem X d_Rows_best_156 (by decide) ?_
        exact r_iret (post := fun r ad' c' => rbF S a = r ∧ ad = ad' ∧ ∃ K9 L9, cont cy ad S (J.1, J.2.1, K9, L9) = c') X hr hlk d_Rows_best_157 (by decide) (by decide) ⟨by unfold rbF; rw [if_neg h6, ← hmd, ← hK0]; exact if_neg h_145, rfl, (nkF S mm K0 6), (nkF S mm K0 5), (cu3 rfl).symm⟩
      · refine r_iconst X 0 d_Rows_best_148 (by decide) ?_
        refine r_goto X 157 d_Rows_best_149 (by decide) ?_
        exact r_iret (post := fun r ad' c' => rbF S a = r ∧ ad = ad' ∧ ∃ K9 L9, cont cy ad S (J.1, J.2.1, K9, L9) = c') X hr hlk d_Rows_best_157 (by decide) (by decide) ⟨by unfold rbF; rw [if_neg h6, ← hmd, ← hK0]; exact if_pos h_145, rfl, (nkF S mm K0 6), (nkF S mm K0 5), (cu3 rfl).symm⟩
  · have hi : i < 8 := by
      rcases Nat.lt_or_ge i 8 with h | h
      · exact h
      · exact absurd (nI_le (by omega) (by omega)) h_17
    refine r_aload X 4 d_Rows_best_20 rfl ?_
    refine r_iload X 6 d_Rows_best_22 rfl ?_
    by_cases hr : i < sNr S
    · refine r_aald (v := .ref (ad (16 + 4 * i))) X 2 (ct_lo (by decide)) rfl (vp_in_nI hi (by decide)) (rRf_y (by omega) hr) d_Rows_best_24 ?_
      refine r_astore X [(7, .ref (ad (16 + 4 * i))), (0, .ref (ad 8)), (1, .ref (ad 1)), (2, .int a), (3, .int (nI (ndF S i))), (4, .ref (ad 1)), (5, .int (nI 8)), (6, .int (nI i))] d_Rows_best_25 (by decide) rfl ?_
      refine r_iload_n X 4 d_Rows_best_27 rfl rfl ?_
      refine r_aload X 0 d_Rows_best_28 rfl ?_
      refine r_ifnull X d_Rows_best_30 ?_
      refine r_aload X 0 d_Rows_best_33 rfl ?_
      refine r_get X k_Road 3 (by decide) f_Rows_18 rfl (ct_road hS.1 hr) rfl d_Rows_best_35 ?_
      by_cases hz : (sRc S i).2.2.2.1 = 0
      · refine r_if_ne X 45 d_Rows_best_38 (by decide) (fun h9 => absurd hz h9) (fun _ => ?_)
        refine r_iconst X 1 d_Rows_best_41 (by decide) ?_
        refine r_goto X 46 d_Rows_best_42 (by decide) ?_
        refine r_iadd X d_Rows_best_46 ?_
        refine r_top (y := nI (ndF S (i + 1))) ((nI_1 (ndF S i)).trans (congrArg nI ((if_pos hr).trans (if_pos hz)).symm)) ?_
        refine r_istore_n X [(3, .int (nI (ndF S (i + 1)))), (7, .ref (ad (16 + 4 * i))), (0, .ref (ad 8)), (1, .ref (ad 1)), (2, .int a), (4, .ref (ad 1)), (5, .int (nI 8)), (6, .int (nI i))] d_Rows_best_47 rfl (by decide) rfl ?_
        refine r_iinc X 7 [(6, .int (nI (i + 1))), (3, .int (nI (ndF S (i + 1)))), (7, .ref (ad (16 + 4 * i))), (0, .ref (ad 8)), (1, .ref (ad 1)), (2, .int a), (4, .ref (ad 1)), (5, .int (nI 8))] d_Rows_best_48 rfl (nI_1 i) (by decide) rfl ?_
        refine r_goto X 13 d_Rows_best_51 (by decide) ?_
        refine r_lv [3, 4, 5, 1, 6, 7, 0] [(0, .ref (ad 8)), (1, .ref (ad 1)), (2, .int a), (3, .int (nI (ndF S (i + 1)))), (4, .ref (ad 1)), (5, .int (nI 8)), (6, .int (nI (i + 1)))] rfl ?_
        exact ih_i (i + 1) ⟨by omega, by omega⟩
      · refine r_if_ne X 45 d_Rows_best_38 (by decide) (fun _ => ?_) (fun h9 => absurd h9 hz)
        refine r_iconst X 0 d_Rows_best_45 (by decide) ?_
        refine r_iadd X d_Rows_best_46 ?_
        refine r_top (y := nI (ndF S (i + 1))) ((Int32.add_zero _).trans (congrArg nI ((if_pos hr).trans (if_neg hz)).symm)) ?_
        refine r_istore_n X [(3, .int (nI (ndF S (i + 1)))), (7, .ref (ad (16 + 4 * i))), (0, .ref (ad 8)), (1, .ref (ad 1)), (2, .int a), (4, .ref (ad 1)), (5, .int (nI 8)), (6, .int (nI i))] d_Rows_best_47 rfl (by decide) rfl ?_
        refine r_iinc X 7 [(6, .int (nI (i + 1))), (3, .int (nI (ndF S (i + 1)))), (7, .ref (ad (16 + 4 * i))), (0, .ref (ad 8)), (1, .ref (ad 1)), (2, .int a), (4, .ref (ad 1)), (5, .int (nI 8))] d_Rows_best_48 rfl (nI_1 i) (by decide) rfl ?_
        refine r_goto X 13 d_Rows_best_51 (by decide) ?_
        refine r_lv [3, 4, 5, 1, 6, 7, 0] [(0, .ref (ad 8)), (1, .ref (ad 1)), (2, .int a), (3, .int (nI (ndF S (i + 1)))), (4, .ref (ad 1)), (5, .int (nI 8)), (6, .int (nI (i + 1)))] rfl ?_
        exact ih_i (i + 1) ⟨by omega, by omega⟩
    · refine r_aald (v := .null) X 2 (ct_lo (by decide)) rfl (vp_in_nI hi (by decide)) (rRf_n (by omega) hr) d_Rows_best_24 ?_
      refine r_astoreN X [(7, .null), (0, .ref (ad 8)), (1, .ref (ad 1)), (2, .int a), (3, .int (nI (ndF S i))), (4, .ref (ad 1)), (5, .int (nI 8)), (6, .int (nI i))] d_Rows_best_25 (by decide) rfl ?_
      refine r_iload_n X 4 d_Rows_best_27 rfl rfl ?_
      refine r_aloadN X 0 d_Rows_best_28 rfl ?_
      refine r_ifnullN X 45 d_Rows_best_30 (by decide) ?_
      refine r_iconst X 0 d_Rows_best_45 (by decide) ?_
      refine r_iadd X d_Rows_best_46 ?_
      refine r_top (y := nI (ndF S (i + 1))) ((Int32.add_zero _).trans (congrArg nI (if_neg hr).symm)) ?_
      refine r_istore_n X [(3, .int (nI (ndF S (i + 1)))), (7, .null), (0, .ref (ad 8)), (1, .ref (ad 1)), (2, .int a), (4, .ref (ad 1)), (5, .int (nI 8)), (6, .int (nI i))] d_Rows_best_47 rfl (by decide) rfl ?_
      refine r_iinc X 7 [(6, .int (nI (i + 1))), (3, .int (nI (ndF S (i + 1)))), (7, .null), (0, .ref (ad 8)), (1, .ref (ad 1)), (2, .int a), (4, .ref (ad 1)), (5, .int (nI 8))] d_Rows_best_48 rfl (nI_1 i) (by decide) rfl ?_
      refine r_goto X 13 d_Rows_best_51 (by decide) ?_
      refine r_lv [3, 4, 5, 1, 6, 7, 0] [(0, .ref (ad 8)), (1, .ref (ad 1)), (2, .int a), (3, .int (nI (ndF S (i + 1)))), (4, .ref (ad 1)), (5, .int (nI 8)), (6, .int (nI (i + 1)))] rfl ?_
      exact ih_i (i + 1) ⟨by omega, by omega⟩
