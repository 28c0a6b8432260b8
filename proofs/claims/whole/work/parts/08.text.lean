def tx_at (f : Nat → Int32) (n : Nat) (i : Int32) : Int32 := if i < 0 then -1 else if nI n ≤ i then -1 else f i.toNatClampNeg
set_option maxRecDepth 100000 in
set_option maxHeartbeats 4000000 in
theorem c_Tx_characterAt (l : Launch) (g : xG) (b0 : Nat) (ws : va_W) {q h a n : Nat} {f : Nat → Int32} (hT : xText g ws q h a f n) (hn : n ≤ 300) (i : Int32) : xRi l g b0 y_Tx_characterAt b_Tx_characterAt 2 (some .int) 0 [.ref h, .int i] ws (fun r => r = tx_at f n i) := by
  unfold xRi
  refine x_in (by decide) (Nat.le_of_ble_eq_true rfl) ?_
  intro p e s m below meth c ls E hr hin hP hD hl
  obtain ⟨hx, hb, hml, hown, hts, hK, hZ, hb0, hlocks⟩ := id E
  have hS : va_S (xA b0) s.heap s.heap [] := va_S.rf
  have hl : lv_has ls 2 [(0, .ref h), (1, .int i)] := hl
  obtain ⟨e0, e1⟩ := hT
  refine lv_iload_n hx hb d_Tx_characterAt_0 rfl (lv_at hl 1 rfl) ?_
  refine lv_if_lt (tgt := 21) hx hb d_Tx_characterAt_1 (by decide) (fun c1 => ?_) (fun c1 => ?_)
  · refine lv_iconst (v := (-1)) hx hb d_Tx_characterAt_21 (by decide) ?_
    refine lv_goto (tgt := 31) hx hb d_Tx_characterAt_22 (by decide) ?_
    exact x_pi E hr (by rw [tx_at, if_pos c1]) d_Tx_characterAt_31
  · refine lv_iload_n hx hb d_Tx_characterAt_4 rfl (lv_at hl 1 rfl) ?_
    refine lv_aload_n hx hb d_Tx_characterAt_5 rfl (lv_at hl 0 rfl) ?_
    refine x_get E hP e0 rfl cl1_in 1 (by decide) wf_Tx_15 rfl d_Tx_characterAt_6 ?_
    refine lv_icmp_ge (tgt := 21) hx hb d_Tx_characterAt_9 (by decide) (fun c9 => ?_) (fun c9 => ?_)
    · refine lv_iconst (v := (-1)) hx hb d_Tx_characterAt_21 (by decide) ?_
      refine lv_goto (tgt := 31) hx hb d_Tx_characterAt_22 (by decide) ?_
      exact x_pi E hr (by rw [tx_at, if_neg c1, if_pos c9]) d_Tx_characterAt_31
    · obtain ⟨j, hj, hi⟩ := x_ix (by omega) c1 c9
      refine lv_iload_n hx hb d_Tx_characterAt_12 rfl (lv_at hl 1 rfl) ?_
      refine lv_aload_n hx hb d_Tx_characterAt_13 rfl (lv_at hl 0 rfl) ?_
      refine x_get E hP e0 rfl cl1_in 0 (by decide) wf_Tx_9 rfl d_Tx_characterAt_14 ?_
      refine x_clen E hP e1 d_Tx_characterAt_17 ?_
      refine lv_icmp_lt (tgt := 25) hx hb d_Tx_characterAt_18 (by decide) (fun c18 => ?_) (fun c18 => absurd (by rw [hi]; exact nI_lt (by omega) (by omega)) c18)
      refine lv_aload_n hx hb d_Tx_characterAt_25 rfl (lv_at hl 0 rfl) ?_
      refine x_get E hP e0 rfl cl1_in 0 (by decide) wf_Tx_9 rfl d_Tx_characterAt_26 ?_
      refine lv_iload_n hx hb d_Tx_characterAt_29 rfl (lv_at hl 1 rfl) ?_
      refine x_cald E hP e1 (j := j) hi (by omega) (by decide) d_Tx_characterAt_30 ?_
      exact x_pi E hr (by rw [tx_at, if_neg c1, if_neg c9, hi, nI_clamp (by omega)]) d_Tx_characterAt_31
set_option maxRecDepth 100000 in
set_option maxHeartbeats 4000000 in
theorem c_Tx_clear (l : Launch) (g : xG) (b0 : Nat) (ws : va_W) {q h a n : Nat} {f : Nat → Int32} (hT : xText g ws q h a f n) (hn : n ≤ 300) : xMv l g b0 y_Tx_clear b_Tx_clear 1 0 [.ref h] ws (fun u => xQ q (q + 2) ws u ∧ xText g u q h a f 0) := by
  unfold xMv
  refine x_in (by decide) (Nat.le_of_ble_eq_true rfl) ?_
  intro p e s m below meth c ls E hr hin hP hD hl
  obtain ⟨hx, hb, hml, hown, hts, hK, hZ, hb0, hlocks⟩ := id E
  have hS : va_S (xA b0) s.heap s.heap [] := va_S.rf
  have hl : lv_has ls 1 [(0, .ref h)] := hl
  obtain ⟨e0, e1⟩ := hT
  have hQ : xQ q (q + 2) ws ws := xQ.rf
  refine lv_aload_n hx hb d_Tx_clear_0 rfl (lv_at hl 0 rfl) ?_
  refine lv_iconst (v := 0) hx hb d_Tx_clear_1 (by decide) ?_
  refine x_put E hP hD hS e0 rfl cl1_in cl1_ty cl1_nm 1 (by decide) wf_Tx_15 rfl rfl rfl (Nat.le_of_ble_eq_true rfl) d_Tx_clear_2 (fun w1 H locs hU1 hP hD hS => ?_)
  have e0 : w1[q]? = some (h, .inr (1, [.ref a, .int 0])) := hU1.1
  have e1 : w1[q + 1]? = some (a, .inl (cC g, 300, .inl f)) := (hU1.2 _ (by omega)).trans e1
  have hQ := hQ.up hU1 (by omega)
  exact x_rv E hr hS ⟨hQ, e0, e1⟩ hP hD d_Tx_clear_5
def tx_add (f : Nat → Int32) (n : Nat) (x : Int32) : Nat → Int32 := if n < 300 then upd f n x else f
def tx_len (n : Nat) : Nat := if n < 300 then n + 1 else n
set_option maxRecDepth 100000 in
set_option maxHeartbeats 4000000 in
theorem c_Tx_append (l : Launch) (g : xG) (b0 : Nat) (ws : va_W) {q h a n : Nat} {f : Nat → Int32} (hT : xText g ws q h a f n) (hn : n ≤ 300) (x : Int32) (hx0 : vp_nar .char x = x) : xMi l g b0 y_Tx_append b_Tx_append 2 (some .boolean) 0 [.ref h, .int x] ws (fun r u => r = (if n < 300 then 1 else 0) ∧ xQ q (q + 2) ws u ∧ xText g u q h a (tx_add f n x) (tx_len n)) := by
  unfold xMi
  refine x_in (by decide) (Nat.le_of_ble_eq_true rfl) ?_
  intro p e s m below meth c ls E hr hin hP hD hl
  obtain ⟨hx, hb, hml, hown, hts, hK, hZ, hb0, hlocks⟩ := id E
  have hS : va_S (xA b0) s.heap s.heap [] := va_S.rf
  have hl : lv_has ls 2 [(0, .ref h), (1, .int x)] := hl
  obtain ⟨e0, e1⟩ := hT
  have hQ : xQ q (q + 2) ws ws := xQ.rf
  refine lv_aload_n hx hb d_Tx_append_0 rfl (lv_at hl 0 rfl) ?_
  refine x_get E hP e0 rfl cl1_in 1 (by decide) wf_Tx_15 rfl d_Tx_append_1 ?_
  refine lv_if_lt (tgt := 19) hx hb d_Tx_append_4 (by decide) (fun c4 => absurd c4 (nI_pos (by omega))) (fun c4 => ?_)
  refine lv_aload_n hx hb d_Tx_append_7 rfl (lv_at hl 0 rfl) ?_
  refine x_get E hP e0 rfl cl1_in 1 (by decide) wf_Tx_15 rfl d_Tx_append_8 ?_
  refine lv_aload_n hx hb d_Tx_append_11 rfl (lv_at hl 0 rfl) ?_
  refine x_get E hP e0 rfl cl1_in 0 (by decide) wf_Tx_9 rfl d_Tx_append_12 ?_
  refine x_clen E hP e1 d_Tx_append_15 ?_
  refine lv_icmp_lt (tgt := 21) hx hb d_Tx_append_16 (by decide) (fun c16 => ?_) (fun c16 => ?_)
  · have h9 : n < 300 := (nI_ltI (by omega) (by omega)).mp c16
    refine lv_aload_n hx hb d_Tx_append_21 rfl (lv_at hl 0 rfl) ?_
    refine x_get E hP e0 rfl cl1_in 0 (by decide) wf_Tx_9 rfl d_Tx_append_22 ?_
    refine lv_aload_n hx hb d_Tx_append_25 rfl (lv_at hl 0 rfl) ?_
    refine x_get E hP e0 rfl cl1_in 1 (by decide) wf_Tx_15 rfl d_Tx_append_26 ?_
    refine lv_iload_n hx hb d_Tx_append_29 rfl (lv_at hl 1 rfl) ?_
    refine x_cast E hP hD hS e1 (j := n) rfl h9 (by decide) d_Tx_append_30 (fun w1 H locs hU1 hP hD hS => ?_)
    have e1 : w1[q + 1]? = some (a, .inl (cC g, 300, .inl (upd f n (vp_nar .char x)))) := hU1.1
    have e0 : w1[q]? = some (h, .inr (1, [.ref a, .int (nI n)])) := (hU1.2 _ (by omega)).trans e0
    have hQ := hQ.up hU1 (by omega)
    refine lv_aload_n hx hb d_Tx_append_31 rfl (lv_at hl 0 rfl) ?_
    refine lv_dup hx hb d_Tx_append_32 rfl ?_
    refine x_get E hP e0 rfl cl1_in 1 (by decide) wf_Tx_15 rfl d_Tx_append_33 ?_
    refine lv_iconst (v := 1) hx hb d_Tx_append_36 (by decide) ?_
    refine lv_iadd hx hb d_Tx_append_37 ?_
    refine x_top (y := nI (n + 1)) (nI_1 n) ?_
    refine x_put E hP hD hS e0 rfl cl1_in cl1_ty cl1_nm 1 (by decide) wf_Tx_15 rfl rfl rfl (Nat.le_of_ble_eq_true rfl) d_Tx_append_38 (fun w2 H locs hU2 hP hD hS => ?_)
    have e0 : w2[q]? = some (h, .inr (1, [.ref a, .int (nI (n + 1))])) := hU2.1
    have e1 : w2[q + 1]? = some (a, .inl (cC g, 300, .inl (upd f n (vp_nar .char x)))) := (hU2.2 _ (by omega)).trans e1
    have hQ := hQ.up hU2 (by omega)
    refine lv_iconst (v := 1) hx hb d_Tx_append_41 (by decide) ?_
    rw [hx0] at e1
    exact x_rz E hr hS rfl ⟨by rw [if_pos h9], hQ, by rw [tx_add, tx_len, if_pos h9, if_pos h9]; exact ⟨e0, e1⟩⟩ hP hD d_Tx_append_42
  · refine lv_iconst (v := 0) hx hb d_Tx_append_19 (by decide) ?_
    have h9 : ¬ n < 300 := fun h => c16 (nI_lt h (by omega))
    exact x_rz E hr hS rfl ⟨by rw [if_neg h9], hQ, by rw [tx_add, tx_len, if_neg h9, if_neg h9]; exact ⟨e0, e1⟩⟩ hP hD d_Tx_append_20
abbrev tx_S : Type := (Nat → Int32) × Nat
def tx_psh (s : tx_S) (x : Int32) : tx_S := (tx_add s.1 s.2 x, tx_len s.2)
def tx_un (k : Nat) : Nat := 1000 / 10 ^ k
/-- the digit of v at the unit k, as the code makes it -/
def tx_dc (v : Int32) (k : Nat) : Int32 := ((48 + (v / nI (tx_un k) - v / nI (tx_un k) / 10 * 10)).toUInt32 % 65536).toInt32
def tx_dg (v : Int32) (k : Nat) (s : tx_S) : tx_S := if nI (tx_un k) ≤ v then tx_psh s (tx_dc v k) else if k = 3 then tx_psh s (tx_dc v k) else s
def xTs (g : xG) (ws : va_W) (q h a : Nat) (s : tx_S) : Prop := xText g ws q h a s.1 s.2
theorem tx_psh_le {s : tx_S} {x : Int32} (h : s.2 ≤ 300) : (tx_psh s x).2 ≤ 300 := by
  show tx_len s.2 ≤ 300
  unfold tx_len
  split <;> omega
theorem tx_dg_le {w : Int32} {k : Nat} {s : tx_S} (h : s.2 ≤ 300) : (tx_dg w k s).2 ≤ 300 := by
  unfold tx_dg
  split
  · exact tx_psh_le h
  · split
    · exact tx_psh_le h
    · exact h
theorem tx_it_le {w : Int32} {s : tx_S} (h : s.2 ≤ 300) : ∀ k, (it (tx_dg w) k s).2 ≤ 300
  | 0 => h
  | k + 1 => tx_dg_le (tx_it_le h k)
theorem tx_un_in {k : Nat} (h : k ≤ 4) : (k = 0 ∧ tx_un k = 1000) ∨ (k = 1 ∧ tx_un k = 100) ∨ (k = 2 ∧ tx_un k = 10) ∨ (k = 3 ∧ tx_un k = 1) ∨ (k = 4 ∧ tx_un k = 0) := by
  obtain rfl | rfl | rfl | rfl | rfl : k = 0 ∨ k = 1 ∨ k = 2 ∨ k = 3 ∨ k = 4 := by omega
  all_goals decide
theorem tx_un_div {k : Nat} (h : k ≤ 3) : nI (tx_un k) / 10 = nI (tx_un (k + 1)) := by
  obtain rfl | rfl | rfl | rfl : k = 0 ∨ k = 1 ∨ k = 2 ∨ k = 3 := by omega
  all_goals decide +kernel
theorem tx_char {w : Nat} (h : w ≤ 65535) : (((nI w).toUInt32 % 65536).toInt32 = nI w) := by
  rw [pk_char, pk_tn (by omega), Nat.mod_eq_of_lt (by omega)]
theorem tx_nar {w : Nat} (h : w ≤ 65535) : vp_nar .char (nI w) = nI w := by
  have e := (pk_charN (q := w) (by omega)).1
  unfold vp_nar
  rw [e]
set_option maxRecDepth 100000 in
set_option maxHeartbeats 4000000 in
theorem c_Tx_appendNumber (l : Launch) (g : xG) (b0 : Nat) (ws : va_W) {q h a n : Nat} {f : Nat → Int32} (hT : xText g ws q h a f n) (hn : n ≤ 300) (w : Int32) : xMv l g b0 y_Tx_appendNumber b_Tx_appendNumber 3 1 [.ref h, .int w] ws (fun u => xQ q (q + 2) ws u ∧ xTs g u q h a (it (tx_dg w) 4 (f, n))) := by
  unfold xMv
  refine x_in (by decide) (Nat.le_of_ble_eq_true rfl) ?_
  intro p e s m below meth c ls E hr hin hP hD hl
  obtain ⟨hx, hb, hml, hown, hts, hK, hZ, hb0, hlocks⟩ := id E
  have hS : va_S (xA b0) s.heap s.heap [] := va_S.rf
  have hl : lv_has ls 3 [(0, .ref h), (1, .int w)] := hl
  have hQ : xQ q (q + 2) ws ws := xQ.rf
  have eT : xTs g ws q h a (f, n) := hT
  refine lv_sipush (v := 1000) hx hb d_Tx_appendNumber_0 (by decide) ?_
  refine lv_istore_n (lv' := [(2, .int 1000), (0, .ref h), (1, .int w)]) hx hb d_Tx_appendNumber_3 rfl hl (by decide) rfl (fun ls hl => ?_)
  have loop : ∀ (k i : Nat)  (v : va_W) (H : Heap) (locs : List Loc) (ls : Array Slot), (4 < i + k) → (i ≤ 4) → (lv_has ls 3 [(2, .int (nI (tx_un i))), (0, .ref h), (1, .int w)]) → (va_P (xD g) vwCl v H) → (va_D (xA b0) v) → (va_S (xA b0) s.heap H locs) → (xQ q (q + 2) ws v) → (xTs g v q h a (it (tx_dg w) i (f, n))) → W p l e (rmL 1) s m ([.ref h, .int w] : List Value).toArray below meth c H locs 0 0 (MQ below (va_Qv (fun u => xQ q (q + 2) ws u ∧ xTs g u q h a (it (tx_dg w) 4 (f, n))) (fun u t => va_P (xD g) vwCl u t.heap ∧ va_D (xA b0) u) (xA b0)) ([.ref h, .int w] : List Value).toArray s 0 0 (xA b0)) (F0 m 4 ls []) := by
    intro k
    induction k with
    | zero =>
      intro i v H locs ls hk hi hl hP hD hS hQ eT
      omega
    | succ k ih =>
      intro i v H locs ls hk hi hl hP hD hS hQ eT
      have hv9 : (it (tx_dg w) i (f, n)).2 ≤ 300 := tx_it_le (s := (f, n)) hn i
      have eV : it (tx_dg w) (i + 1) (f, n) = tx_dg w i (it (tx_dg w) i (f, n)) := rfl
      have hu := tx_un_in hi
      generalize eV0 : it (tx_dg w) i (f, n) = V at eT eV hv9
      refine lv_iload_n hx hb d_Tx_appendNumber_4 rfl (lv_at hl 0 rfl) ?_
      refine lv_iconst (v := 1) hx hb d_Tx_appendNumber_5 (by decide) ?_
      refine lv_icmp_lt (tgt := 42) hx hb d_Tx_appendNumber_6 (by decide) (fun c6 => ?_) (fun c6 => ?_)
      · have hi9 : i = 4 := by
          have := (nI_ltI (b := 1) (by omega) (by decide)).mp c6
          omega
        rw [← eV0, hi9] at eT
        exact x_rv E hr hS ⟨hQ, eT⟩ hP hD d_Tx_appendNumber_42
      · have hi9 : i ≤ 3 := Nat.not_lt.mp fun h => c6 (nI_lt (b := 1) (by omega) (by decide))
        have hu1 : 1 ≤ tx_un i := by omega
        refine lv_iload_n hx hb d_Tx_appendNumber_9 rfl (lv_at hl 2 rfl) ?_
        refine lv_iload_n hx hb d_Tx_appendNumber_10 rfl (lv_at hl 0 rfl) ?_
        refine lv_icmp_ge (tgt := 19) hx hb d_Tx_appendNumber_11 (by decide) (fun c11 => ?_) (fun c11 => ?_)
        · have h11 := c11
          refine lv_aload_n hx hb d_Tx_appendNumber_19 rfl (lv_at hl 1 rfl) ?_
          refine lv_bipush (v := 48) hx hb d_Tx_appendNumber_20 (by decide) ?_
          refine lv_iload_n hx hb d_Tx_appendNumber_22 rfl (lv_at hl 2 rfl) ?_
          refine lv_iload_n hx hb d_Tx_appendNumber_23 rfl (lv_at hl 0 rfl) ?_
          refine lv_idiv hx hb d_Tx_appendNumber_24 (nI_ne0 (by omega) (by omega)) ?_
          refine lv_bipush (v := 10) hx hb d_Tx_appendNumber_25 (by decide) ?_
          refine lv_irem hx hb d_Tx_appendNumber_27 (by decide) ?_
          refine lv_iadd hx hb d_Tx_appendNumber_28 ?_
          refine lv_i2c (v := tx_dc w i) hx hb d_Tx_appendNumber_29 rfl ?_
          refine x_cVi (As := [.int (tx_dc w i)]) (rest := []) E (c_Tx_append l g b0 _ eT hv9 (tx_dc w i) (pk_vc _)) wy_Tx_append wl_Tx_19 hP hD hS eT.1 rfl hl.1 ⟨by decide, by decide⟩ ⟨Nat.le_refl _, Nat.le_refl _⟩ rfl (Nat.le_of_ble_eq_true rfl) d_Tx_appendNumber_30 (fun r30 w51 H locs hr30 hP hD hS => ?_)
          obtain ⟨-, hq, eT⟩ := hr30
          have hQ := hQ.tr hq
          have eT : xTs g _ q h a (tx_psh V (tx_dc w i)) := eT
          refine lv_pop hx hb d_Tx_appendNumber_33 rfl ?_
          refine lv_iload_n hx hb d_Tx_appendNumber_34 rfl (lv_at hl 0 rfl) ?_
          refine lv_bipush (v := 10) hx hb d_Tx_appendNumber_35 (by decide) ?_
          refine lv_idiv hx hb d_Tx_appendNumber_37 (by decide) ?_
          refine x_top (y := nI (tx_un (i + 1))) (tx_un_div hi9) ?_
          refine lv_istore_n (lv' := [(2, .int (nI (tx_un (i + 1)))), (0, .ref h), (1, .int w)]) hx hb d_Tx_appendNumber_38 rfl hl (by decide) rfl (fun ls hl => ?_)
          refine lv_goto (tgt := 4) hx hb d_Tx_appendNumber_39 (by decide) ?_
          rw [tx_dg, if_pos h11] at eV
          rw [← eV] at eT
          exact ih (i + 1) _ _ _ _ (by omega) (by omega) hl hP hD hS hQ eT
        · have h11 := c11
          refine lv_iload_n hx hb d_Tx_appendNumber_14 rfl (lv_at hl 0 rfl) ?_
          refine lv_iconst (v := 1) hx hb d_Tx_appendNumber_15 (by decide) ?_
          refine lv_icmp_ne (tgt := 34) hx hb d_Tx_appendNumber_16 (by decide) (fun c16 => ?_) (fun c16 => ?_)
          · have h16 : ¬ i = 3 := fun h => c16 (by rw [h]; decide)
            refine lv_iload_n hx hb d_Tx_appendNumber_34 rfl (lv_at hl 0 rfl) ?_
            refine lv_bipush (v := 10) hx hb d_Tx_appendNumber_35 (by decide) ?_
            refine lv_idiv hx hb d_Tx_appendNumber_37 (by decide) ?_
            refine x_top (y := nI (tx_un (i + 1))) (tx_un_div hi9) ?_
            refine lv_istore_n (lv' := [(2, .int (nI (tx_un (i + 1)))), (0, .ref h), (1, .int w)]) hx hb d_Tx_appendNumber_38 rfl hl (by decide) rfl (fun ls hl => ?_)
            refine lv_goto (tgt := 4) hx hb d_Tx_appendNumber_39 (by decide) ?_
            rw [tx_dg, if_neg h11, if_neg h16] at eV
            rw [← eV] at eT
            exact ih (i + 1) _ _ _ _ (by omega) (by omega) hl hP hD hS hQ eT
          · have h16 : i = 3 := by
              have := (nI_eq (b := 1) (by omega) (by decide)).mp c16
              omega
            refine lv_aload_n hx hb d_Tx_appendNumber_19 rfl (lv_at hl 1 rfl) ?_
            refine lv_bipush (v := 48) hx hb d_Tx_appendNumber_20 (by decide) ?_
            refine lv_iload_n hx hb d_Tx_appendNumber_22 rfl (lv_at hl 2 rfl) ?_
            refine lv_iload_n hx hb d_Tx_appendNumber_23 rfl (lv_at hl 0 rfl) ?_
            refine lv_idiv hx hb d_Tx_appendNumber_24 (nI_ne0 (by omega) (by omega)) ?_
            refine lv_bipush (v := 10) hx hb d_Tx_appendNumber_25 (by decide) ?_
            refine lv_irem hx hb d_Tx_appendNumber_27 (by decide) ?_
            refine lv_iadd hx hb d_Tx_appendNumber_28 ?_
            refine lv_i2c (v := tx_dc w i) hx hb d_Tx_appendNumber_29 rfl ?_
            refine x_cVi (As := [.int (tx_dc w i)]) (rest := []) E (c_Tx_append l g b0 _ eT hv9 (tx_dc w i) (pk_vc _)) wy_Tx_append wl_Tx_19 hP hD hS eT.1 rfl hl.1 ⟨by decide, by decide⟩ ⟨Nat.le_refl _, Nat.le_refl _⟩ rfl (Nat.le_of_ble_eq_true rfl) d_Tx_appendNumber_30 (fun r30 w51 H locs hr30 hP hD hS => ?_)
            obtain ⟨-, hq, eT⟩ := hr30
            have hQ := hQ.tr hq
            have eT : xTs g _ q h a (tx_psh V (tx_dc w i)) := eT
            refine lv_pop hx hb d_Tx_appendNumber_33 rfl ?_
            refine lv_iload_n hx hb d_Tx_appendNumber_34 rfl (lv_at hl 0 rfl) ?_
            refine lv_bipush (v := 10) hx hb d_Tx_appendNumber_35 (by decide) ?_
            refine lv_idiv hx hb d_Tx_appendNumber_37 (by decide) ?_
            refine x_top (y := nI (tx_un (i + 1))) (tx_un_div hi9) ?_
            refine lv_istore_n (lv' := [(2, .int (nI (tx_un (i + 1)))), (0, .ref h), (1, .int w)]) hx hb d_Tx_appendNumber_38 rfl hl (by decide) rfl (fun ls hl => ?_)
            refine lv_goto (tgt := 4) hx hb d_Tx_appendNumber_39 (by decide) ?_
            rw [tx_dg, if_neg h11, if_pos h16] at eV
            rw [← eV] at eT
            exact ih (i + 1) _ _ _ _ (by omega) (by omega) hl hP hD hS hQ eT
  have eT : xTs g _ q h a (it (tx_dg w) 0 (f, n)) := eT
  exact loop 5 0 _ _ _ _ (by omega) (by omega) hl hP hD hS hQ eT
