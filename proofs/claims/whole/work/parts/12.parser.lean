/-- the parser's state: its place; the machine that it fills: columns, names, count -/
abbrev ps_S : Type := Nat × (Nat → Nat → Int32) × (Nat → Int32) × Nat
def xPz (g : xG) (ws : va_W) (qp qt qm hp ht ta : Nat) (f : Nat → Int32) (n hm om dm : Nat) (rm : Nat → Nat) (z : ps_S) : Prop := ws[qp]? = some (hp, .inr (3, [.ref ht, .int (nI z.1)])) ∧ xText g ws qt ht ta f n ∧ xMach g ws qm hm om dm rm z.2.1 z.2.2.1 z.2.2.2
/-- apart: the parser's cell, its text, the machine -/
def xAp (qp qt qm : Nat) : Prop := (qt + 2 ≤ qm ∨ qm + 9 ≤ qt) ∧ (qp < qt ∨ qt + 2 ≤ qp) ∧ (qp < qm ∨ qm + 9 ≤ qp)
/-- only the parser's cell and the machine's have changed -/
def xQ2 (qp qm : Nat) (ws w1 : va_W) : Prop := ∀ k, k ≠ qp → (k < qm ∨ qm + 9 ≤ k) → w1[k]? = ws[k]?
theorem xQ2.rf {qp qm : Nat} {ws : va_W} : xQ2 qp qm ws ws := fun _ _ _ => rfl
theorem xQ2.tr {qp qm : Nat} {w0 w1 w2 : va_W} (h : xQ2 qp qm w0 w1) (h2 : xQ2 qp qm w1 w2) : xQ2 qp qm w0 w2 := fun k a b => (h2 k a b).trans (h k a b)
theorem xQ2.up {qp qm : Nat} {w0 w1 w2 : va_W} {x : Nat × va_E} (h : xQ2 qp qm w0 w1) (h2 : xU w1 qp x w2) : xQ2 qp qm w0 w2 := fun k a b => (h2.2 k a).trans (h k a b)
theorem xQ2.mc {qp qm : Nat} {w0 w1 w2 : va_W} (h : xQ2 qp qm w0 w1) (h2 : xQ qm (qm + 9) w1 w2) : xQ2 qp qm w0 w2 := fun k a b => (h2 k b).trans (h k a b)
section XPZ
variable {g : xG} {ws w1 : va_W} {qp qt qm hp ht ta n hm om dm : Nat} {f : Nat → Int32} {rm : Nat → Nat} {z : ps_S}
theorem xPz.pl (h : xPz g ws qp qt qm hp ht ta f n hm om dm rm z) (hd : xAp qp qt qm) {p' : Nat} (hU : xU ws qp (hp, .inr (3, [.ref ht, .int (nI p')])) w1) : xPz g w1 qp qt qm hp ht ta f n hm om dm rm (p', z.2) := by
  obtain ⟨h0, h1, h2⟩ := h
  obtain ⟨d1, d2, d3⟩ := hd
  exact ⟨hU.1, ⟨(hU.2 _ (by omega)).trans h1.1, (hU.2 _ (by omega)).trans h1.2⟩, ⟨(hU.2 _ (by omega)).trans h2.1, (hU.2 _ (by omega)).trans h2.2.1, (hU.2 _ (by omega)).trans h2.2.2.1, fun j hj => (hU.2 _ (by omega)).trans (h2.2.2.2 j hj)⟩⟩
theorem xPz.mc (h : xPz g ws qp qt qm hp ht ta f n hm om dm rm z) (hd : xAp qp qt qm) {M : Nat → Nat → Int32} {ix : Nat → Int32} {cn : Nat} (hQ : xQ qm (qm + 9) ws w1) (hM : xMach g w1 qm hm om dm rm M ix cn) : xPz g w1 qp qt qm hp ht ta f n hm om dm rm (z.1, M, ix, cn) := by
  obtain ⟨h0, h1, h2⟩ := h
  obtain ⟨d1, d2, d3⟩ := hd
  exact ⟨(hQ _ (by omega)).trans h0, h1.keep hQ (by omega), hM⟩
end XPZ
def ps_isd (c : Int32) : Int32 := if c < 48 then 0 else if 57 < c then 0 else 1
def ps_skip (f : Nat → Int32) (n : Nat) (c : Int32) (z : ps_S) : Int32 × ps_S := if tx_at f n (nI z.1) = c then (1, (z.1 + 1, z.2)) else (0, z)
def ps_dig (f : Nat → Int32) (n : Nat) : Nat → Nat → Int32 → Nat × Int32
  | 0, pl, v => (pl, v)
  | k + 1, pl, v => if ps_isd (tx_at f n (nI pl)) = 0 then (pl, v) else ps_dig f n k (pl + 1) (v * 10 + tx_at f n (nI pl) - 48)
def ps_num (f : Nat → Int32) (n : Nat) (lo hi : Int32) (z : ps_S) : Int32 × ps_S := if (ps_dig f n 4 z.1 0).1 = z.1 then (-1, z) else if (ps_dig f n 4 z.1 0).2 < lo then (-1, z) else if (ps_dig f n 4 z.1 0).2 ≤ hi then ((ps_dig f n 4 z.1 0).2, ((ps_dig f n 4 z.1 0).1, z.2)) else (-1, z)
theorem tx_at_lt {f : Nat → Int32} {n i : Nat} (hi : i < n) (hn : n ≤ 300) : tx_at f n (nI i) = f i := by
  rw [tx_at, if_neg (nI_pos (by omega)), if_neg (nI_ge hi (by omega)), nI_clamp (by omega)]
theorem tx_at_ge {f : Nat → Int32} {n i : Nat} (hi : n ≤ i) (hi2 : i ≤ 300) : tx_at f n (nI i) = -1 := by
  rw [tx_at, if_neg (nI_pos (by omega)), if_pos (nI_le hi (by omega))]
theorem tx_at_ne {f : Nat → Int32} {n i : Nat} (hi : i ≤ n) (hn : n ≤ 300) (h : ¬ tx_at f n (nI i) = -1) : i < n := by
  rcases Nat.lt_or_ge i n with q | q
  · exact q
  · exact absurd (tx_at_ge q (by omega)) h
theorem ps_dig_le {f : Nat → Int32} {n : Nat} (hn : n ≤ 300) : ∀ (k pl : Nat) (v : Int32), pl ≤ n → pl ≤ (ps_dig f n k pl v).1 ∧ (ps_dig f n k pl v).1 ≤ n
  | 0, pl, v, h => ⟨Nat.le_refl _, h⟩
  | k + 1, pl, v, h => by
    unfold ps_dig
    split
    · exact ⟨Nat.le_refl _, h⟩
    · rename_i h1
      have h2 : pl < n := tx_at_ne h hn (fun q => h1 (by rw [q]; decide))
      have h3 := ps_dig_le (f := f) hn k (pl + 1) (v * 10 + tx_at f n (nI pl) - 48) h2
      exact ⟨by omega, h3.2⟩
set_option maxRecDepth 100000 in
set_option maxHeartbeats 4000000 in
theorem c_Ps_isDigit (l : Launch) (g : xG) (b0 : Nat) (ws : va_W) (x : Int32) : xRi l g b0 y_Ps_isDigit b_Ps_isDigit 1 (some .boolean) 0 [.int x] ws (fun r => r = ps_isd x) := by
  unfold xRi
  refine x_in (by decide) (Nat.le_of_ble_eq_true rfl) ?_
  intro p e s m below meth c ls E hr hin hP hD hl
  obtain ⟨hx, hb, hml, hown, hts, hK, hZ, hb0, hlocks⟩ := id E
  have hS : va_S (xA b0) s.heap s.heap [] := va_S.rf
  have hl : lv_has ls 1 [(0, .int x)] := hl
  refine lv_iload_n hx hb d_Ps_isDigit_0 rfl (lv_at hl 0 rfl) ?_
  refine lv_bipush (v := 48) hx hb d_Ps_isDigit_1 (by decide) ?_
  refine lv_icmp_lt (tgt := 16) hx hb d_Ps_isDigit_3 (by decide) (fun c3 => ?_) (fun c3 => ?_)
  · refine lv_iconst (v := 0) hx hb d_Ps_isDigit_16 (by decide) ?_
    exact x_pz E hr rfl (by rw [ps_isd, if_pos c3]) d_Ps_isDigit_17
  · refine lv_iload_n hx hb d_Ps_isDigit_6 rfl (lv_at hl 0 rfl) ?_
    refine lv_bipush (v := 57) hx hb d_Ps_isDigit_7 (by decide) ?_
    refine lv_icmp_gt (tgt := 16) hx hb d_Ps_isDigit_9 (by decide) (fun c9 => ?_) (fun c9 => ?_)
    · refine lv_iconst (v := 0) hx hb d_Ps_isDigit_16 (by decide) ?_
      exact x_pz E hr rfl (by rw [ps_isd, if_neg c3, if_pos c9]) d_Ps_isDigit_17
    · refine lv_iconst (v := 1) hx hb d_Ps_isDigit_12 (by decide) ?_
      refine lv_goto (tgt := 17) hx hb d_Ps_isDigit_13 (by decide) ?_
      exact x_pz E hr rfl (by rw [ps_isd, if_neg c3, if_neg c9]) d_Ps_isDigit_17
def ps_kind (x : Int32) : Int32 := if xL 0 = x then 0 else if xL 1 = x then 1 else if xL 2 = x then 2 else if xL 3 = x then 3 else if xL 4 = x then 4 else -1
set_option maxRecDepth 100000 in
set_option maxHeartbeats 4000000 in
theorem c_Ps_kindOf (l : Launch) (g : xG) (b0 : Nat) (ws : va_W) (x : Int32) : xRi l g b0 y_Ps_kindOf b_Ps_kindOf 2 (some .int) 0 [.int x] ws (fun r => r = ps_kind x) := by
  unfold xRi
  refine x_in (by decide) (Nat.le_of_ble_eq_true rfl) ?_
  intro p e s m below meth c ls E hr hin hP hD hl
  obtain ⟨hx, hb, hml, hown, hts, hK, hZ, hb0, hlocks⟩ := id E
  have hS : va_S (xA b0) s.heap s.heap [] := va_S.rf
  have hl : lv_has ls 2 [(0, .int x)] := hl
  refine lv_iconst (v := 0) hx hb d_Ps_kindOf_0 (by decide) ?_
  refine lv_istore_n (lv' := [(1, .int 0), (0, .int x)]) hx hb d_Ps_kindOf_1 rfl hl (by decide) rfl (fun ls hl => ?_)
  refine lv_iload_n hx hb d_Ps_kindOf_2 rfl (lv_at hl 0 rfl) ?_
  refine x_gets_L_Ps E hS d_Ps_kindOf_3 ?_
  refine x_len_L E hS d_Ps_kindOf_6 ?_
  refine lv_icmp_ge (tgt := 27) hx hb d_Ps_kindOf_7 (by decide) (fun c7 => absurd c7 (by decide)) (fun c7 => ?_)
  refine x_gets_L_Ps E hS d_Ps_kindOf_10 ?_
  refine lv_iload_n hx hb d_Ps_kindOf_13 rfl (lv_at hl 0 rfl) ?_
  refine x_tab_L E hS rfl (by decide) d_Ps_kindOf_14 ?_
  refine lv_iload_n hx hb d_Ps_kindOf_15 rfl (lv_at hl 1 rfl) ?_
  refine lv_icmp_ne (tgt := 21) hx hb d_Ps_kindOf_16 (by decide) (fun c16 => ?_) (fun c16 => ?_)
  · refine lv_iinc (v := 1) (lv' := [(1, .int 1), (0, .int x)]) hx hb d_Ps_kindOf_21 hl (k := 0) rfl (by decide) (by decide) rfl (fun ls hl => ?_)
    refine lv_goto (tgt := 2) hx hb d_Ps_kindOf_24 (by decide) ?_
    refine lv_iload_n hx hb d_Ps_kindOf_2 rfl (lv_at hl 0 rfl) ?_
    refine x_gets_L_Ps E hS d_Ps_kindOf_3 ?_
    refine x_len_L E hS d_Ps_kindOf_6 ?_
    refine lv_icmp_ge (tgt := 27) hx hb d_Ps_kindOf_7 (by decide) (fun c7_1 => absurd c7_1 (by decide)) (fun c7_1 => ?_)
    refine x_gets_L_Ps E hS d_Ps_kindOf_10 ?_
    refine lv_iload_n hx hb d_Ps_kindOf_13 rfl (lv_at hl 0 rfl) ?_
    refine x_tab_L E hS rfl (by decide) d_Ps_kindOf_14 ?_
    refine lv_iload_n hx hb d_Ps_kindOf_15 rfl (lv_at hl 1 rfl) ?_
    refine lv_icmp_ne (tgt := 21) hx hb d_Ps_kindOf_16 (by decide) (fun c16_2 => ?_) (fun c16_2 => ?_)
    · refine lv_iinc (v := 2) (lv' := [(1, .int 2), (0, .int x)]) hx hb d_Ps_kindOf_21 hl (k := 0) rfl (by decide) (by decide) rfl (fun ls hl => ?_)
      refine lv_goto (tgt := 2) hx hb d_Ps_kindOf_24 (by decide) ?_
      refine lv_iload_n hx hb d_Ps_kindOf_2 rfl (lv_at hl 0 rfl) ?_
      refine x_gets_L_Ps E hS d_Ps_kindOf_3 ?_
      refine x_len_L E hS d_Ps_kindOf_6 ?_
      refine lv_icmp_ge (tgt := 27) hx hb d_Ps_kindOf_7 (by decide) (fun c7_3 => absurd c7_3 (by decide)) (fun c7_3 => ?_)
      refine x_gets_L_Ps E hS d_Ps_kindOf_10 ?_
      refine lv_iload_n hx hb d_Ps_kindOf_13 rfl (lv_at hl 0 rfl) ?_
      refine x_tab_L E hS rfl (by decide) d_Ps_kindOf_14 ?_
      refine lv_iload_n hx hb d_Ps_kindOf_15 rfl (lv_at hl 1 rfl) ?_
      refine lv_icmp_ne (tgt := 21) hx hb d_Ps_kindOf_16 (by decide) (fun c16_4 => ?_) (fun c16_4 => ?_)
      · refine lv_iinc (v := 3) (lv' := [(1, .int 3), (0, .int x)]) hx hb d_Ps_kindOf_21 hl (k := 0) rfl (by decide) (by decide) rfl (fun ls hl => ?_)
        refine lv_goto (tgt := 2) hx hb d_Ps_kindOf_24 (by decide) ?_
        refine lv_iload_n hx hb d_Ps_kindOf_2 rfl (lv_at hl 0 rfl) ?_
        refine x_gets_L_Ps E hS d_Ps_kindOf_3 ?_
        refine x_len_L E hS d_Ps_kindOf_6 ?_
        refine lv_icmp_ge (tgt := 27) hx hb d_Ps_kindOf_7 (by decide) (fun c7_5 => absurd c7_5 (by decide)) (fun c7_5 => ?_)
        refine x_gets_L_Ps E hS d_Ps_kindOf_10 ?_
        refine lv_iload_n hx hb d_Ps_kindOf_13 rfl (lv_at hl 0 rfl) ?_
        refine x_tab_L E hS rfl (by decide) d_Ps_kindOf_14 ?_
        refine lv_iload_n hx hb d_Ps_kindOf_15 rfl (lv_at hl 1 rfl) ?_
        refine lv_icmp_ne (tgt := 21) hx hb d_Ps_kindOf_16 (by decide) (fun c16_6 => ?_) (fun c16_6 => ?_)
        · refine lv_iinc (v := 4) (lv' := [(1, .int 4), (0, .int x)]) hx hb d_Ps_kindOf_21 hl (k := 0) rfl (by decide) (by decide) rfl (fun ls hl => ?_)
          refine lv_goto (tgt := 2) hx hb d_Ps_kindOf_24 (by decide) ?_
          refine lv_iload_n hx hb d_Ps_kindOf_2 rfl (lv_at hl 0 rfl) ?_
          refine x_gets_L_Ps E hS d_Ps_kindOf_3 ?_
          refine x_len_L E hS d_Ps_kindOf_6 ?_
          refine lv_icmp_ge (tgt := 27) hx hb d_Ps_kindOf_7 (by decide) (fun c7_7 => absurd c7_7 (by decide)) (fun c7_7 => ?_)
          refine x_gets_L_Ps E hS d_Ps_kindOf_10 ?_
          refine lv_iload_n hx hb d_Ps_kindOf_13 rfl (lv_at hl 0 rfl) ?_
          refine x_tab_L E hS rfl (by decide) d_Ps_kindOf_14 ?_
          refine lv_iload_n hx hb d_Ps_kindOf_15 rfl (lv_at hl 1 rfl) ?_
          refine lv_icmp_ne (tgt := 21) hx hb d_Ps_kindOf_16 (by decide) (fun c16_8 => ?_) (fun c16_8 => ?_)
          · refine lv_iinc (v := 5) (lv' := [(1, .int 5), (0, .int x)]) hx hb d_Ps_kindOf_21 hl (k := 0) rfl (by decide) (by decide) rfl (fun ls hl => ?_)
            refine lv_goto (tgt := 2) hx hb d_Ps_kindOf_24 (by decide) ?_
            refine lv_iload_n hx hb d_Ps_kindOf_2 rfl (lv_at hl 0 rfl) ?_
            refine x_gets_L_Ps E hS d_Ps_kindOf_3 ?_
            refine x_len_L E hS d_Ps_kindOf_6 ?_
            refine lv_icmp_ge (tgt := 27) hx hb d_Ps_kindOf_7 (by decide) (fun c7_9 => ?_) (fun c7_9 => absurd (by decide) c7_9)
            refine lv_iconst (v := (-1)) hx hb d_Ps_kindOf_27 (by decide) ?_
            exact x_pi E hr (by rw [ps_kind, if_neg c16, if_neg c16_2, if_neg c16_4, if_neg c16_6, if_neg c16_8]) d_Ps_kindOf_28
          · refine lv_iload_n hx hb d_Ps_kindOf_19 rfl (lv_at hl 0 rfl) ?_
            exact x_pi E hr (by rw [ps_kind, if_neg c16, if_neg c16_2, if_neg c16_4, if_neg c16_6, if_pos c16_8]) d_Ps_kindOf_20
        · refine lv_iload_n hx hb d_Ps_kindOf_19 rfl (lv_at hl 0 rfl) ?_
          exact x_pi E hr (by rw [ps_kind, if_neg c16, if_neg c16_2, if_neg c16_4, if_pos c16_6]) d_Ps_kindOf_20
      · refine lv_iload_n hx hb d_Ps_kindOf_19 rfl (lv_at hl 0 rfl) ?_
        exact x_pi E hr (by rw [ps_kind, if_neg c16, if_neg c16_2, if_pos c16_4]) d_Ps_kindOf_20
    · refine lv_iload_n hx hb d_Ps_kindOf_19 rfl (lv_at hl 0 rfl) ?_
      exact x_pi E hr (by rw [ps_kind, if_neg c16, if_pos c16_2]) d_Ps_kindOf_20
  · refine lv_iload_n hx hb d_Ps_kindOf_19 rfl (lv_at hl 0 rfl) ?_
    exact x_pi E hr (by rw [ps_kind, if_pos c16]) d_Ps_kindOf_20
set_option maxRecDepth 100000 in
set_option maxHeartbeats 4000000 in
theorem c_Ps_skip (l : Launch) (g : xG) (b0 : Nat) (ws : va_W) {qp qt qm hp ht ta n hm om dm : Nat} {f : Nat → Int32} {rm : Nat → Nat} (hd : xAp qp qt qm) (hn : n ≤ 300) {z : ps_S} (eZ : xPz g ws qp qt qm hp ht ta f n hm om dm rm z) (hpl : z.1 ≤ n) (hcn : z.2.2.2 ≤ 24) (x : Int32) (hx1 : ¬ x = -1) : xMi l g b0 y_Ps_skip b_Ps_skip 2 (some .boolean) 1 [.ref hp, .int x] ws (fun r u => r = (ps_skip f n x z).1 ∧ xQ2 qp qm ws u ∧ xPz g u qp qt qm hp ht ta f n hm om dm rm ((ps_skip f n x z).2) ∧ (ps_skip f n x z).2.1 ≤ n ∧ (ps_skip f n x z).2.2.2.2 ≤ 24) := by
  unfold xMi
  refine x_in (by decide) (Nat.le_of_ble_eq_true rfl) ?_
  intro p e s m below meth c ls E hr hin hP hD hl
  obtain ⟨hx, hb, hml, hown, hts, hK, hZ, hb0, hlocks⟩ := id E
  have hS : va_S (xA b0) s.heap s.heap [] := va_S.rf
  have hl : lv_has ls 2 [(0, .ref hp), (1, .int x)] := hl
  have hQ : xQ2 qp qm ws ws := xQ2.rf
  refine lv_aload_n hx hb d_Ps_skip_0 rfl (lv_at hl 0 rfl) ?_
  refine x_get E hP eZ.1 rfl cl3_in 0 (by decide) wf_Ps_9 rfl d_Ps_skip_1 ?_
  refine lv_aload_n hx hb d_Ps_skip_4 rfl (lv_at hl 0 rfl) ?_
  refine x_get E hP eZ.1 rfl cl3_in 1 (by decide) wf_Ps_15 rfl d_Ps_skip_5 ?_
  refine x_cRi (As := [.int (nI z.1)]) (rest := []) E (c_Tx_characterAt l g b0 _ eZ.2.1 hn (nI z.1)) wy_Tx_characterAt wl_Ps_33 hP hD hS eZ.2.1.1 rfl hl.1 ⟨by decide, by decide⟩ ⟨Nat.le_refl _, Nat.le_refl _⟩ rfl (Nat.le_of_ble_eq_true rfl) d_Ps_skip_8 (fun r8 hr8 => ?_)
  subst hr8
  refine lv_iload_n hx hb d_Ps_skip_11 rfl (lv_at hl 1 rfl) ?_
  refine lv_icmp_eq (tgt := 17) hx hb d_Ps_skip_12 (by decide) (fun c12 => ?_) (fun c12 => ?_)
  · refine lv_aload_n hx hb d_Ps_skip_17 rfl (lv_at hl 0 rfl) ?_
    refine lv_dup hx hb d_Ps_skip_18 rfl ?_
    refine x_get E hP eZ.1 rfl cl3_in 1 (by decide) wf_Ps_15 rfl d_Ps_skip_19 ?_
    refine lv_iconst (v := 1) hx hb d_Ps_skip_22 (by decide) ?_
    refine lv_iadd hx hb d_Ps_skip_23 ?_
    refine x_top (y := nI (z.1 + 1)) (nI_1 z.1) ?_
    refine x_put E hP hD hS eZ.1 rfl cl3_in cl3_ty cl3_nm 1 (by decide) wf_Ps_15 rfl rfl rfl (Nat.le_of_ble_eq_true rfl) d_Ps_skip_24 (fun w2 H locs hU2 hP hD hS => ?_)
    have hQ := hQ.up hU2
    have eZ := eZ.pl hd (p' := z.1 + 1) hU2
    refine lv_iconst (v := 1) hx hb d_Ps_skip_27 (by decide) ?_
    exact x_rz E hr hS rfl (by rw [ps_skip, if_pos c12]; exact ⟨rfl, hQ, eZ, tx_at_ne hpl hn (fun q => hx1 (c12.symm.trans q)), hcn⟩) hP hD d_Ps_skip_28
  · refine lv_iconst (v := 0) hx hb d_Ps_skip_15 (by decide) ?_
    exact x_rz E hr hS rfl (by rw [ps_skip, if_neg c12]; exact ⟨rfl, hQ, eZ, hpl, hcn⟩) hP hD d_Ps_skip_16
set_option maxRecDepth 100000 in
set_option maxHeartbeats 4000000 in
theorem c_Ps_readNumber (l : Launch) (g : xG) (b0 : Nat) (ws : va_W) {qp qt qm hp ht ta n hm om dm : Nat} {f : Nat → Int32} {rm : Nat → Nat} (hd : xAp qp qt qm) (hn : n ≤ 300) {z : ps_S} (eZ : xPz g ws qp qt qm hp ht ta f n hm om dm rm z) (hpl : z.1 ≤ n) (hcn : z.2.2.2 ≤ 24) (lo hi : Int32) : xMi l g b0 y_Ps_readNumber b_Ps_readNumber 6 (some .int) 1 [.ref hp, .int lo, .int hi] ws (fun r u => r = (ps_num f n lo hi z).1 ∧ xQ2 qp qm ws u ∧ xPz g u qp qt qm hp ht ta f n hm om dm rm ((ps_num f n lo hi z).2) ∧ (ps_num f n lo hi z).2.1 ≤ n ∧ (ps_num f n lo hi z).2.2.2.2 ≤ 24) := by
  unfold xMi
  refine x_in (by decide) (Nat.le_of_ble_eq_true rfl) ?_
  intro p e s m below meth c ls E hr hin hP hD hl
  obtain ⟨hx, hb, hml, hown, hts, hK, hZ, hb0, hlocks⟩ := id E
  have hS : va_S (xA b0) s.heap s.heap [] := va_S.rf
  have hl : lv_has ls 6 [(0, .ref hp), (1, .int lo), (2, .int hi)] := hl
  have hQ : xQ2 qp qm ws ws := xQ2.rf
  refine lv_aload_n hx hb d_Ps_readNumber_0 rfl (lv_at hl 0 rfl) ?_
  refine x_get E hP eZ.1 rfl cl3_in 1 (by decide) wf_Ps_15 rfl d_Ps_readNumber_1 ?_
  refine lv_istore_n (lv' := [(3, .int (nI z.1)), (0, .ref hp), (1, .int lo), (2, .int hi)]) hx hb d_Ps_readNumber_4 rfl hl (by decide) rfl (fun ls hl => ?_)
  refine lv_iconst (v := 0) hx hb d_Ps_readNumber_5 (by decide) ?_
  refine lv_istore (lv' := [(4, .int 0), (3, .int (nI z.1)), (0, .ref hp), (1, .int lo), (2, .int hi)]) hx hb d_Ps_readNumber_6 hl (by decide) rfl (fun ls hl => ?_)
  refine lv_iconst (v := 0) hx hb d_Ps_readNumber_8 (by decide) ?_
  refine lv_istore (lv' := [(5, .int 0), (4, .int 0), (3, .int (nI z.1)), (0, .ref hp), (1, .int lo), (2, .int hi)]) hx hb d_Ps_readNumber_9 hl (by decide) rfl (fun ls hl => ?_)
  have loop : ∀ (k i : Nat) (pl : Nat) (v : Int32) (w : va_W) (H : Heap) (locs : List Loc) (ls : Array Slot), (4 < i + k) → (i ≤ 4) → (pl ≤ n) → (ps_dig f n 4 z.1 0 = ps_dig f n (4 - i) pl v) → (lv_has ls 6 [(5, .int (nI i)), (4, .int v), (3, .int (nI z.1)), (0, .ref hp), (1, .int lo), (2, .int hi)]) → (va_P (xD g) vwCl w H) → (va_D (xA b0) w) → (va_S (xA b0) s.heap H locs) → (xQ2 qp qm ws w) → (xPz g w qp qt qm hp ht ta f n hm om dm rm (pl, z.2)) → W p l e (rmL 1) s m ([.ref hp, .int lo, .int hi] : List Value).toArray below meth c H locs 0 0 (MQ below (va_Qi (fun r u => r = (ps_num f n lo hi z).1 ∧ xQ2 qp qm ws u ∧ xPz g u qp qt qm hp ht ta f n hm om dm rm ((ps_num f n lo hi z).2) ∧ (ps_num f n lo hi z).2.1 ≤ n ∧ (ps_num f n lo hi z).2.2.2.2 ≤ 24) (fun u t => va_P (xD g) vwCl u t.heap ∧ va_D (xA b0) u) (xA b0)) ([.ref hp, .int lo, .int hi] : List Value).toArray s 0 0 (xA b0)) (F0 m 11 ls []) := by
    intro k
    induction k with
    | zero =>
      intro i pl v w H locs ls hk hi4 hp9 hv hl hP hD hS hQ eZ
      omega
    | succ k ih =>
      intro i pl v w H locs ls hk hi4 hp9 hv hl hP hD hS hQ eZ
      refine lv_iload hx hb d_Ps_readNumber_11 (lv_at hl 0 rfl) ?_
      refine lv_iconst (v := 4) hx hb d_Ps_readNumber_13 (by decide) ?_
      refine lv_icmp_ge (tgt := 72) hx hb d_Ps_readNumber_14 (by decide) (fun c14 => ?_) (fun c14 => ?_)
      · have hi9 : i = 4 := by
          have := (nI_leI (a := 4) (by decide) (by omega)).mp c14
          omega
        rw [hi9] at hv
        have hv : ps_dig f n 4 z.1 0 = (pl, v) := hv
        refine lv_aload_n hx hb d_Ps_readNumber_72 rfl (lv_at hl 3 rfl) ?_
        refine x_get E hP eZ.1 rfl cl3_in 1 (by decide) wf_Ps_15 rfl d_Ps_readNumber_73 ?_
        refine lv_iload_n hx hb d_Ps_readNumber_76 rfl (lv_at hl 2 rfl) ?_
        refine lv_icmp_ne (tgt := 82) hx hb d_Ps_readNumber_77 (by decide) (fun c77 => ?_) (fun c77 => ?_)
        · have e9 : ¬ pl = z.1 := fun h => c77 (by rw [h])
          refine lv_iload hx hb d_Ps_readNumber_82 (lv_at hl 1 rfl) ?_
          refine lv_iload_n hx hb d_Ps_readNumber_84 rfl (lv_at hl 4 rfl) ?_
          refine lv_icmp_lt (tgt := 94) hx hb d_Ps_readNumber_85 (by decide) (fun c85 => ?_) (fun c85 => ?_)
          · refine lv_aload_n hx hb d_Ps_readNumber_94 rfl (lv_at hl 3 rfl) ?_
            refine lv_iload_n hx hb d_Ps_readNumber_95 rfl (lv_at hl 2 rfl) ?_
            refine x_put E hP hD hS eZ.1 rfl cl3_in cl3_ty cl3_nm 1 (by decide) wf_Ps_15 rfl rfl rfl (Nat.le_of_ble_eq_true rfl) d_Ps_readNumber_96 (fun w51 H locs hU51 hP hD hS => ?_)
            have hQ := hQ.up hU51
            have eZ := eZ.pl hd (p' := z.1) hU51
            refine lv_iconst (v := (-1)) hx hb d_Ps_readNumber_99 (by decide) ?_
            exact x_ri E hr hS (by rw [ps_num, hv, if_neg e9, if_pos c85]; exact ⟨rfl, hQ, eZ, hpl, hcn⟩) hP hD d_Ps_readNumber_100
          · refine lv_iload hx hb d_Ps_readNumber_88 (lv_at hl 1 rfl) ?_
            refine lv_iload_n hx hb d_Ps_readNumber_90 rfl (lv_at hl 5 rfl) ?_
            refine lv_icmp_le (tgt := 101) hx hb d_Ps_readNumber_91 (by decide) (fun c91 => ?_) (fun c91 => ?_)
            · refine lv_iload hx hb d_Ps_readNumber_101 (lv_at hl 1 rfl) ?_
              exact x_ri E hr hS (by rw [ps_num, hv, if_neg e9, if_neg c85, if_pos c91]; exact ⟨rfl, hQ, eZ, hp9, hcn⟩) hP hD d_Ps_readNumber_103
            · refine lv_aload_n hx hb d_Ps_readNumber_94 rfl (lv_at hl 3 rfl) ?_
              refine lv_iload_n hx hb d_Ps_readNumber_95 rfl (lv_at hl 2 rfl) ?_
              refine x_put E hP hD hS eZ.1 rfl cl3_in cl3_ty cl3_nm 1 (by decide) wf_Ps_15 rfl rfl rfl (Nat.le_of_ble_eq_true rfl) d_Ps_readNumber_96 (fun w51 H locs hU51 hP hD hS => ?_)
              have hQ := hQ.up hU51
              have eZ := eZ.pl hd (p' := z.1) hU51
              refine lv_iconst (v := (-1)) hx hb d_Ps_readNumber_99 (by decide) ?_
              exact x_ri E hr hS (by rw [ps_num, hv, if_neg e9, if_neg c85, if_neg c91]; exact ⟨rfl, hQ, eZ, hpl, hcn⟩) hP hD d_Ps_readNumber_100
        · refine lv_iconst (v := (-1)) hx hb d_Ps_readNumber_80 (by decide) ?_
          have e9 : pl = z.1 := (nI_eq (by omega) (by omega)).mp c77
          exact x_ri E hr hS (by rw [ps_num, hv, if_pos e9]; rw [e9] at eZ; exact ⟨rfl, hQ, eZ, hpl, hcn⟩) hP hD d_Ps_readNumber_81
      · have hi9 : i < 4 := Nat.not_le.mp fun h => c14 (nI_le (a := 4) h (by omega))
        rw [show 4 - i = (4 - (i + 1)) + 1 by omega] at hv
        refine lv_aload_n hx hb d_Ps_readNumber_17 rfl (lv_at hl 3 rfl) ?_
        refine x_get E hP eZ.1 rfl cl3_in 0 (by decide) wf_Ps_9 rfl d_Ps_readNumber_18 ?_
        refine lv_aload_n hx hb d_Ps_readNumber_21 rfl (lv_at hl 3 rfl) ?_
        refine x_get E hP eZ.1 rfl cl3_in 1 (by decide) wf_Ps_15 rfl d_Ps_readNumber_22 ?_
        refine x_cRi (As := [.int (nI (pl, z.2).1)]) (rest := []) E (c_Tx_characterAt l g b0 _ eZ.2.1 hn (nI (pl, z.2).1)) wy_Tx_characterAt wl_Ps_33 hP hD hS eZ.2.1.1 rfl hl.1 ⟨by decide, by decide⟩ ⟨Nat.le_refl _, Nat.le_refl _⟩ rfl (Nat.le_of_ble_eq_true rfl) d_Ps_readNumber_25 (fun r25 hr25 => ?_)
        subst hr25
        refine x_cSi (As := [.int (tx_at f n (nI (pl, z.2).1))]) (rest := []) E (c_Ps_isDigit l g b0 _ (tx_at f n (nI pl))) wy_Ps_isDigit wl_Ps_73 hP hD hS hl.1 ⟨by decide, by decide⟩ ⟨Nat.le_refl _, Nat.le_refl _⟩ rfl (Nat.le_of_ble_eq_true rfl) d_Ps_readNumber_28 (fun r28 hr28 => ?_)
        subst hr28
        refine lv_if_eq (tgt := 72) hx hb d_Ps_readNumber_31 (by decide) (fun c31 => ?_) (fun c31 => ?_)
        · have hv : ps_dig f n 4 z.1 0 = (pl, v) := by rw [hv, ps_dig, if_pos c31]
          refine lv_aload_n hx hb d_Ps_readNumber_72 rfl (lv_at hl 3 rfl) ?_
          refine x_get E hP eZ.1 rfl cl3_in 1 (by decide) wf_Ps_15 rfl d_Ps_readNumber_73 ?_
          refine lv_iload_n hx hb d_Ps_readNumber_76 rfl (lv_at hl 2 rfl) ?_
          refine lv_icmp_ne (tgt := 82) hx hb d_Ps_readNumber_77 (by decide) (fun c77 => ?_) (fun c77 => ?_)
          · have e9 : ¬ pl = z.1 := fun h => c77 (by rw [h])
            refine lv_iload hx hb d_Ps_readNumber_82 (lv_at hl 1 rfl) ?_
            refine lv_iload_n hx hb d_Ps_readNumber_84 rfl (lv_at hl 4 rfl) ?_
            refine lv_icmp_lt (tgt := 94) hx hb d_Ps_readNumber_85 (by decide) (fun c85 => ?_) (fun c85 => ?_)
            · refine lv_aload_n hx hb d_Ps_readNumber_94 rfl (lv_at hl 3 rfl) ?_
              refine lv_iload_n hx hb d_Ps_readNumber_95 rfl (lv_at hl 2 rfl) ?_
              refine x_put E hP hD hS eZ.1 rfl cl3_in cl3_ty cl3_nm 1 (by decide) wf_Ps_15 rfl rfl rfl (Nat.le_of_ble_eq_true rfl) d_Ps_readNumber_96 (fun w52 H locs hU52 hP hD hS => ?_)
              have hQ := hQ.up hU52
              have eZ := eZ.pl hd (p' := z.1) hU52
              refine lv_iconst (v := (-1)) hx hb d_Ps_readNumber_99 (by decide) ?_
              exact x_ri E hr hS (by rw [ps_num, hv, if_neg e9, if_pos c85]; exact ⟨rfl, hQ, eZ, hpl, hcn⟩) hP hD d_Ps_readNumber_100
            · refine lv_iload hx hb d_Ps_readNumber_88 (lv_at hl 1 rfl) ?_
              refine lv_iload_n hx hb d_Ps_readNumber_90 rfl (lv_at hl 5 rfl) ?_
              refine lv_icmp_le (tgt := 101) hx hb d_Ps_readNumber_91 (by decide) (fun c91 => ?_) (fun c91 => ?_)
              · refine lv_iload hx hb d_Ps_readNumber_101 (lv_at hl 1 rfl) ?_
                exact x_ri E hr hS (by rw [ps_num, hv, if_neg e9, if_neg c85, if_pos c91]; exact ⟨rfl, hQ, eZ, hp9, hcn⟩) hP hD d_Ps_readNumber_103
              · refine lv_aload_n hx hb d_Ps_readNumber_94 rfl (lv_at hl 3 rfl) ?_
                refine lv_iload_n hx hb d_Ps_readNumber_95 rfl (lv_at hl 2 rfl) ?_
                refine x_put E hP hD hS eZ.1 rfl cl3_in cl3_ty cl3_nm 1 (by decide) wf_Ps_15 rfl rfl rfl (Nat.le_of_ble_eq_true rfl) d_Ps_readNumber_96 (fun w52 H locs hU52 hP hD hS => ?_)
                have hQ := hQ.up hU52
                have eZ := eZ.pl hd (p' := z.1) hU52
                refine lv_iconst (v := (-1)) hx hb d_Ps_readNumber_99 (by decide) ?_
                exact x_ri E hr hS (by rw [ps_num, hv, if_neg e9, if_neg c85, if_neg c91]; exact ⟨rfl, hQ, eZ, hpl, hcn⟩) hP hD d_Ps_readNumber_100
          · refine lv_iconst (v := (-1)) hx hb d_Ps_readNumber_80 (by decide) ?_
            have e9 : pl = z.1 := (nI_eq (by omega) (by omega)).mp c77
            exact x_ri E hr hS (by rw [ps_num, hv, if_pos e9]; rw [e9] at eZ; exact ⟨rfl, hQ, eZ, hpl, hcn⟩) hP hD d_Ps_readNumber_81
        · have hv : ps_dig f n 4 z.1 0 = ps_dig f n (4 - (i + 1)) (pl + 1) (v * 10 + tx_at f n (nI pl) - 48) := by rw [hv, ps_dig, if_neg c31]
          have hp8 : pl < n := tx_at_ne hp9 hn (fun q => c31 (by rw [q]; decide))
          refine lv_iload hx hb d_Ps_readNumber_34 (lv_at hl 1 rfl) ?_
          refine lv_bipush (v := 10) hx hb d_Ps_readNumber_36 (by decide) ?_
          refine lv_imul hx hb d_Ps_readNumber_38 ?_
          refine lv_aload_n hx hb d_Ps_readNumber_39 rfl (lv_at hl 3 rfl) ?_
          refine x_get E hP eZ.1 rfl cl3_in 0 (by decide) wf_Ps_9 rfl d_Ps_readNumber_40 ?_
          refine lv_aload_n hx hb d_Ps_readNumber_43 rfl (lv_at hl 3 rfl) ?_
          refine x_get E hP eZ.1 rfl cl3_in 1 (by decide) wf_Ps_15 rfl d_Ps_readNumber_44 ?_
          refine x_cRi (As := [.int (nI (pl, z.2).1)]) (rest := [.int (v * 10)]) E (c_Tx_characterAt l g b0 _ eZ.2.1 hn (nI (pl, z.2).1)) wy_Tx_characterAt wl_Ps_33 hP hD hS eZ.2.1.1 rfl hl.1 ⟨by decide, by decide⟩ ⟨Nat.le_refl _, Nat.le_refl _⟩ rfl (Nat.le_of_ble_eq_true rfl) d_Ps_readNumber_47 (fun r47 hr47 => ?_)
          subst hr47
          refine lv_iadd hx hb d_Ps_readNumber_50 ?_
          refine lv_bipush (v := 48) hx hb d_Ps_readNumber_51 (by decide) ?_
          refine lv_isub hx hb d_Ps_readNumber_53 ?_
          refine lv_istore (lv' := [(4, .int (((v * 10) + (tx_at f n (nI (pl, z.2).1))) - 48)), (5, .int (nI i)), (3, .int (nI z.1)), (0, .ref hp), (1, .int lo), (2, .int hi)]) hx hb d_Ps_readNumber_54 hl (by decide) rfl (fun ls hl => ?_)
          refine lv_aload_n hx hb d_Ps_readNumber_56 rfl (lv_at hl 3 rfl) ?_
          refine lv_dup hx hb d_Ps_readNumber_57 rfl ?_
          refine x_get E hP eZ.1 rfl cl3_in 1 (by decide) wf_Ps_15 rfl d_Ps_readNumber_58 ?_
          refine lv_iconst (v := 1) hx hb d_Ps_readNumber_61 (by decide) ?_
          refine lv_iadd hx hb d_Ps_readNumber_62 ?_
          refine x_top (y := nI (pl + 1)) (nI_1 pl) ?_
          refine x_put E hP hD hS eZ.1 rfl cl3_in cl3_ty cl3_nm 1 (by decide) wf_Ps_15 rfl rfl rfl (Nat.le_of_ble_eq_true rfl) d_Ps_readNumber_63 (fun w53 H locs hU53 hP hD hS => ?_)
          have hQ := hQ.up hU53
          have eZ := eZ.pl hd (p' := pl + 1) hU53
          refine lv_iinc (v := nI (i + 1)) (lv' := [(5, .int (nI (i + 1))), (4, .int (((v * 10) + (tx_at f n (nI (pl, z.2).1))) - 48)), (3, .int (nI z.1)), (0, .ref hp), (1, .int lo), (2, .int hi)]) hx hb d_Ps_readNumber_66 hl (k := 1) rfl (nI_1 i) (by decide) rfl (fun ls hl => ?_)
          refine lv_goto (tgt := 11) hx hb d_Ps_readNumber_69 (by decide) ?_
          exact ih (i + 1) (pl + 1) (v * 10 + tx_at f n (nI pl) - 48) _ _ _ _ (by omega) (by omega) (by omega) hv hl hP hD hS hQ eZ
  exact loop 5 0 z.1 0 _ _ _ _ (by omega) (by omega) hpl rfl hl hP hD hS hQ eZ
def ps_set (z : ps_S) (k : Nat) (v : Int32) : ps_S := (z.1, xg_up z.2.1 k (z.2.2.2 - 1) v, z.2.2.1, z.2.2.2)
def ps_val2 (k : Nat) (b : Int32 × ps_S) : Int32 × ps_S := if b.1 = -1 then (0, b.2) else (1, ps_set b.2 k b.1)
def ps_and (a : Int32 × ps_S) (h : ps_S → Int32 × ps_S) : Int32 × ps_S := if a.1 = 0 then (0, a.2) else h a.2
def ps_value (f : Nat → Int32) (n : Nat) (x : Int32) (k : Nat) (lo hi : Int32) (z : ps_S) : Int32 × ps_S := ps_and (ps_skip f n x z) (fun y => ps_val2 k (ps_num f n lo hi y))
def ps_new (z : ps_S) (kd nm : Int32) : ps_S := (z.1, mc_new z.2.1 z.2.2.2 kd nm, upd z.2.2.1 nm.toNatClampNeg (nI z.2.2.2), z.2.2.2 + 1)
def ps_nam2 (kd : Int32) (z : ps_S) (b : Int32 × ps_S) : Int32 × ps_S := if b.1 = -1 then (0, b.2) else if mc_ix b.2.2.2.1 b.1 = -1 then (1, ps_new b.2 kd b.1) else (0, (z.1, b.2.2))
def ps_name (f : Nat → Int32) (n : Nat) (kd : Int32) (z : ps_S) : Int32 × ps_S := ps_nam2 kd z (ps_num f n 0 29 z)
theorem ps_num_in (f : Nat → Int32) (n : Nat) (lo hi : Int32) (z : ps_S) : (ps_num f n lo hi z).1 = -1 ∨ (¬ (ps_num f n lo hi z).1 < lo ∧ (ps_num f n lo hi z).1 ≤ hi) := by
  unfold ps_num
  split
  · exact Or.inl rfl
  · split
    · exact Or.inl rfl
    · split
      · rename_i h1 h2
        exact Or.inr ⟨h1, h2⟩
      · exact Or.inl rfl
theorem ps_num_z (f : Nat → Int32) (n : Nat) (lo hi : Int32) (z : ps_S) : (ps_num f n lo hi z).2.2 = z.2 := by
  unfold ps_num
  split
  · rfl
  · split
    · rfl
    · split <;> rfl
theorem ps_skip_z (f : Nat → Int32) (n : Nat) (x : Int32) (z : ps_S) : (ps_skip f n x z).2.2 = z.2 := by
  unfold ps_skip
  split <;> rfl
theorem ps_skip_01 (f : Nat → Int32) (n : Nat) (x : Int32) (z : ps_S) : (ps_skip f n x z).1 = 0 ∨ (ps_skip f n x z).1 = 1 := by
  unfold ps_skip
  split
  · exact Or.inr rfl
  · exact Or.inl rfl
set_option maxRecDepth 100000 in
set_option maxHeartbeats 4000000 in
theorem c_Ps_readValue (l : Launch) (g : xG) (b0 : Nat) (ws : va_W) {qp qt qm hp ht ta n hm om dm : Nat} {f : Nat → Int32} {rm : Nat → Nat} (hd : xAp qp qt qm) (hn : n ≤ 300) {z : ps_S} (eZ : xPz g ws qp qt qm hp ht ta f n hm om dm rm z) (hpl : z.1 ≤ n) (hcn : z.2.2.2 ≤ 24) (hc1 : 1 ≤ z.2.2.2) (x col lo hi : Int32) (hx1 : ¬ x = -1) (k : Nat) (hk : col = nI k) (hk6 : k < 6) : xMi l g b0 y_Ps_readValue b_Ps_readValue 7 (some .boolean) 2 [.ref hp, .ref hm, .int x, .int col, .int lo, .int hi] ws (fun r u => r = (ps_value f n x k lo hi z).1 ∧ xQ2 qp qm ws u ∧ xPz g u qp qt qm hp ht ta f n hm om dm rm ((ps_value f n x k lo hi z).2) ∧ (ps_value f n x k lo hi z).2.1 ≤ n ∧ (ps_value f n x k lo hi z).2.2.2.2 ≤ 24) := by
  unfold xMi
  refine x_in (by decide) (Nat.le_of_ble_eq_true rfl) ?_
  intro p e s m below meth c ls E hr hin hP hD hl
  obtain ⟨hx, hb, hml, hown, hts, hK, hZ, hb0, hlocks⟩ := id E
  have hS : va_S (xA b0) s.heap s.heap [] := va_S.rf
  have hl : lv_has ls 7 [(0, .ref hp), (1, .ref hm), (2, .int x), (3, .int col), (4, .int lo), (5, .int hi)] := hl
  have hQ : xQ2 qp qm ws ws := xQ2.rf
  refine lv_aload_n hx hb d_Ps_readValue_0 rfl (lv_at hl 0 rfl) ?_
  refine lv_iload_n hx hb d_Ps_readValue_1 rfl (lv_at hl 2 rfl) ?_
  refine x_cVi (As := [.int x]) (rest := []) E (c_Ps_skip l g b0 _ hd hn eZ hpl hcn x hx1) wy_Ps_skip wl_Ps_55 hP hD hS eZ.1 rfl hl.1 ⟨by decide, by decide⟩ ⟨Nat.le_refl _, Nat.le_refl _⟩ rfl (Nat.le_of_ble_eq_true rfl) d_Ps_readValue_2 (fun r2 w1 H locs hr2 hP hD hS => ?_)
  obtain ⟨rfl, hq, eZ, hpl, hcn⟩ := hr2
  have hQ := hQ.tr hq
  refine lv_if_ne (tgt := 10) hx hb d_Ps_readValue_5 (by decide) (fun c5 => ?_) (fun c5 => ?_)
  · refine lv_aload_n hx hb d_Ps_readValue_10 rfl (lv_at hl 0 rfl) ?_
    refine lv_iload hx hb d_Ps_readValue_11 (lv_at hl 4 rfl) ?_
    refine lv_iload hx hb d_Ps_readValue_13 (lv_at hl 5 rfl) ?_
    refine x_cVi (As := [.int lo, .int hi]) (rest := []) E (c_Ps_readNumber l g b0 _ hd hn eZ hpl hcn lo hi) wy_Ps_readNumber wl_Ps_59 hP hD hS eZ.1 rfl hl.1 ⟨by decide, by decide⟩ ⟨Nat.le_refl _, Nat.le_refl _⟩ rfl (Nat.le_of_ble_eq_true rfl) d_Ps_readValue_15 (fun r15 w2 H locs hr15 hP hD hS => ?_)
    obtain ⟨rfl, hq, eZ, hpl, hcn⟩ := hr15
    have hQ := hQ.tr hq
    have hc2 : 1 ≤ (ps_num f n lo hi (ps_skip f n x z).2).2.2.2.2 := by rw [ps_num_z, ps_skip_z]; exact hc1
    refine lv_istore (lv' := [(6, .int ((ps_num f n lo hi (ps_skip f n x z).2).1)), (0, .ref hp), (1, .ref hm), (2, .int x), (3, .int col), (4, .int lo), (5, .int hi)]) hx hb d_Ps_readValue_18 hl (by decide) rfl (fun ls hl => ?_)
    refine lv_iload hx hb d_Ps_readValue_20 (lv_at hl 0 rfl) ?_
    refine lv_iconst (v := (-1)) hx hb d_Ps_readValue_22 (by decide) ?_
    refine lv_icmp_ne (tgt := 28) hx hb d_Ps_readValue_23 (by decide) (fun c23 => ?_) (fun c23 => ?_)
    · refine lv_aload_n hx hb d_Ps_readValue_28 rfl (lv_at hl 2 rfl) ?_
      refine lv_iload_n hx hb d_Ps_readValue_29 rfl (lv_at hl 4 rfl) ?_
      refine lv_iload hx hb d_Ps_readValue_30 (lv_at hl 0 rfl) ?_
      refine x_cVv (As := [.int col, .int ((ps_num f n lo hi (ps_skip f n x z).2).1)]) (rest := []) E (c_Mc_setLatest l g b0 _ eZ.2.2 hc2 hcn col (ps_num f n lo hi (ps_skip f n x z).2).1 k hk hk6) wy_Mc_setLatest wl_Ps_70 hP hD hS eZ.2.2.1 rfl hl.1 ⟨by decide, by decide⟩ ⟨Nat.le_refl _, Nat.le_refl _⟩ rfl (Nat.le_of_ble_eq_true rfl) d_Ps_readValue_32 (fun w3 H locs hr32 hP hD hS => ?_)
      obtain ⟨hq, eM⟩ := hr32
      have hQ := hQ.mc hq
      have eZ := eZ.mc hd hq eM
      refine lv_iconst (v := 1) hx hb d_Ps_readValue_35 (by decide) ?_
      exact x_rz E hr hS rfl (by rw [ps_value, ps_and, if_neg c5, ps_val2, if_neg c23]; exact ⟨rfl, hQ, eZ, hpl, hcn⟩) hP hD d_Ps_readValue_36
    · refine lv_iconst (v := 0) hx hb d_Ps_readValue_26 (by decide) ?_
      exact x_rz E hr hS rfl (by rw [ps_value, ps_and, if_neg c5, ps_val2, if_pos c23]; exact ⟨rfl, hQ, eZ, hpl, hcn⟩) hP hD d_Ps_readValue_27
  · refine lv_iconst (v := 0) hx hb d_Ps_readValue_8 (by decide) ?_
    exact x_rz E hr hS rfl (by rw [ps_value, ps_and, if_pos c5]; exact ⟨rfl, hQ, eZ, hpl, hcn⟩) hP hD d_Ps_readValue_9
set_option maxRecDepth 100000 in
set_option maxHeartbeats 4000000 in
theorem c_Ps_readNewName (l : Launch) (g : xG) (b0 : Nat) (ws : va_W) {qp qt qm hp ht ta n hm om dm : Nat} {f : Nat → Int32} {rm : Nat → Nat} (hd : xAp qp qt qm) (hn : n ≤ 300) {z : ps_S} (eZ : xPz g ws qp qt qm hp ht ta f n hm om dm rm z) (hpl : z.1 ≤ n) (hcn : z.2.2.2 < 24) (kd : Int32) : xMi l g b0 y_Ps_readNewName b_Ps_readNewName 5 (some .boolean) 2 [.ref hp, .ref hm, .int kd] ws (fun r u => r = (ps_name f n kd z).1 ∧ xQ2 qp qm ws u ∧ xPz g u qp qt qm hp ht ta f n hm om dm rm ((ps_name f n kd z).2) ∧ (ps_name f n kd z).2.1 ≤ n ∧ (ps_name f n kd z).2.2.2.2 ≤ 24) := by
  unfold xMi
  refine x_in (by decide) (Nat.le_of_ble_eq_true rfl) ?_
  intro p e s m below meth c ls E hr hin hP hD hl
  obtain ⟨hx, hb, hml, hown, hts, hK, hZ, hb0, hlocks⟩ := id E
  have hS : va_S (xA b0) s.heap s.heap [] := va_S.rf
  have hl : lv_has ls 5 [(0, .ref hp), (1, .ref hm), (2, .int kd)] := hl
  have hQ : xQ2 qp qm ws ws := xQ2.rf
  have hpl0 := hpl
  refine lv_aload_n hx hb d_Ps_readNewName_0 rfl (lv_at hl 0 rfl) ?_
  refine x_get E hP eZ.1 rfl cl3_in 1 (by decide) wf_Ps_15 rfl d_Ps_readNewName_1 ?_
  refine lv_istore_n (lv' := [(3, .int (nI z.1)), (0, .ref hp), (1, .ref hm), (2, .int kd)]) hx hb d_Ps_readNewName_4 rfl hl (by decide) rfl (fun ls hl => ?_)
  refine lv_aload_n hx hb d_Ps_readNewName_5 rfl (lv_at hl 1 rfl) ?_
  refine lv_iconst (v := 0) hx hb d_Ps_readNewName_6 (by decide) ?_
  refine lv_bipush (v := 29) hx hb d_Ps_readNewName_7 (by decide) ?_
  refine x_cVi (As := [.int 0, .int 29]) (rest := []) E (c_Ps_readNumber l g b0 _ hd hn eZ hpl (by omega) 0 29) wy_Ps_readNumber wl_Ps_59 hP hD hS eZ.1 rfl hl.1 ⟨by decide, by decide⟩ ⟨Nat.le_refl _, Nat.le_refl _⟩ rfl (Nat.le_of_ble_eq_true rfl) d_Ps_readNewName_9 (fun r9 w1 H locs hr9 hP hD hS => ?_)
  obtain ⟨rfl, hq, eZ, hpl, hcn⟩ := hr9
  have hQ := hQ.tr hq
  have hcz : (ps_num f n 0 29 z).2.2.2.2 = z.2.2.2 := by rw [ps_num_z]
  refine lv_istore (lv' := [(4, .int ((ps_num f n 0 29 z).1)), (3, .int (nI z.1)), (0, .ref hp), (1, .ref hm), (2, .int kd)]) hx hb d_Ps_readNewName_12 hl (by decide) rfl (fun ls hl => ?_)
  refine lv_iload hx hb d_Ps_readNewName_14 (lv_at hl 0 rfl) ?_
  refine lv_iconst (v := (-1)) hx hb d_Ps_readNewName_16 (by decide) ?_
  refine lv_icmp_ne (tgt := 22) hx hb d_Ps_readNewName_17 (by decide) (fun c17 => ?_) (fun c17 => ?_)
  · refine lv_aload_n hx hb d_Ps_readNewName_22 rfl (lv_at hl 3 rfl) ?_
    refine lv_iload hx hb d_Ps_readNewName_23 (lv_at hl 0 rfl) ?_
    refine x_cRi (As := [.int ((ps_num f n 0 29 z).1)]) (rest := []) E (c_Mc_indexOf l g b0 _ eZ.2.2 hcn (ps_num f n 0 29 z).1) wy_Mc_indexOf wl_Ps_63 hP hD hS eZ.2.2.1 rfl hl.1 ⟨by decide, by decide⟩ ⟨Nat.le_refl _, Nat.le_refl _⟩ rfl (Nat.le_of_ble_eq_true rfl) d_Ps_readNewName_25 (fun r25 hr25 => ?_)
    subst hr25
    refine lv_iconst (v := (-1)) hx hb d_Ps_readNewName_28 (by decide) ?_
    refine lv_icmp_eq (tgt := 39) hx hb d_Ps_readNewName_29 (by decide) (fun c29 => ?_) (fun c29 => ?_)
    · obtain ⟨h8, h9⟩ := (ps_num_in f n 0 29 z).resolve_left c17
      obtain ⟨nm, hnm30, hnm⟩ := x_ix (n := 30) (by decide) h8 (fun h7 => absurd (Int32.le_trans h7 h9) (by decide))
      refine lv_aload_n hx hb d_Ps_readNewName_39 rfl (lv_at hl 3 rfl) ?_
      refine lv_iload_n hx hb d_Ps_readNewName_40 rfl (lv_at hl 4 rfl) ?_
      refine lv_iload hx hb d_Ps_readNewName_41 (lv_at hl 0 rfl) ?_
      refine x_cVv (As := [.int kd, .int ((ps_num f n 0 29 z).1)]) (rest := []) E (c_Mc_addPart l g b0 _ eZ.2.2 (by omega) kd (ps_num f n 0 29 z).1 nm hnm hnm30) wy_Mc_addPart wl_Ps_66 hP hD hS eZ.2.2.1 rfl hl.1 ⟨by decide, by decide⟩ ⟨Nat.le_refl _, Nat.le_refl _⟩ rfl (Nat.le_of_ble_eq_true rfl) d_Ps_readNewName_43 (fun w3 H locs hr43 hP hD hS => ?_)
      obtain ⟨hq, eM⟩ := hr43
      have hQ := hQ.mc hq
      have eZ := eZ.mc hd hq eM
      refine lv_iconst (v := 1) hx hb d_Ps_readNewName_46 (by decide) ?_
      exact x_rz E hr hS rfl (by rw [ps_name, ps_nam2, if_neg c17, if_pos c29]; refine ⟨rfl, hQ, ?_, hpl, by show _ + 1 ≤ 24; omega⟩; rw [ps_new, hnm, nI_clamp (by omega), ← hnm]; exact eZ) hP hD d_Ps_readNewName_47
    · refine lv_aload_n hx hb d_Ps_readNewName_32 rfl (lv_at hl 2 rfl) ?_
      refine lv_iload_n hx hb d_Ps_readNewName_33 rfl (lv_at hl 1 rfl) ?_
      refine x_put E hP hD hS eZ.1 rfl cl3_in cl3_ty cl3_nm 1 (by decide) wf_Ps_15 rfl rfl rfl (Nat.le_of_ble_eq_true rfl) d_Ps_readNewName_34 (fun w3 H locs hU3 hP hD hS => ?_)
      have hQ := hQ.up hU3
      have eZ := eZ.pl hd (p' := z.1) hU3
      refine lv_iconst (v := 0) hx hb d_Ps_readNewName_37 (by decide) ?_
      exact x_rz E hr hS rfl (by rw [ps_name, ps_nam2, if_neg c17, if_neg c29]; exact ⟨rfl, hQ, eZ, hpl0, hcn⟩) hP hD d_Ps_readNewName_38
  · refine lv_iconst (v := 0) hx hb d_Ps_readNewName_20 (by decide) ?_
    exact x_rz E hr hS rfl (by rw [ps_name, ps_nam2, if_pos c17]; exact ⟨rfl, hQ, eZ, hpl, by omega⟩) hP hD d_Ps_readNewName_21
def ps_p5 (f : Nat → Int32) (n k : Nat) (z : ps_S) : Int32 × ps_S := ps_and (if k = 3 then ps_value f n 44 5 0 29 z else (1, z)) (ps_skip f n 59)
def ps_p4 (f : Nat → Int32) (n k : Nat) (z : ps_S) : Int32 × ps_S := ps_and (if k = 4 then (1, z) else ps_value f n 62 4 0 29 z) (ps_p5 f n k)
def ps_p3 (f : Nat → Int32) (n k : Nat) (z : ps_S) : Int32 × ps_S := ps_and (if k = 1 then ps_value f n 44 3 1 9999 z else (1, z)) (ps_p4 f n k)
def ps_p2 (f : Nat → Int32) (n k : Nat) (z : ps_S) : Int32 × ps_S := ps_and (ps_value f n 61 2 (xLo k) (xHi k) z) (ps_p3 f n k)
def ps_p1 (f : Nat → Int32) (n k : Nat) (z : ps_S) : Int32 × ps_S := ps_and (ps_name f n (nI k) z) (ps_p2 f n k)
def ps_part (f : Nat → Int32) (n : Nat) (z : ps_S) : Int32 × ps_S := if ps_kind (tx_at f n (nI z.1)) = -1 then (0, z) else ps_p1 f n (ps_kind (tx_at f n (nI z.1))).toNatClampNeg (z.1 + 1, z.2)
theorem ps_kind_in (x : Int32) : ps_kind x = -1 ∨ ps_kind x = 0 ∨ ps_kind x = 1 ∨ ps_kind x = 2 ∨ ps_kind x = 3 ∨ ps_kind x = 4 := by
  unfold ps_kind
  split
  · exact Or.inr (Or.inl rfl)
  · split
    · exact Or.inr (Or.inr (Or.inl rfl))
    · split
      · exact Or.inr (Or.inr (Or.inr (Or.inl rfl)))
      · split
        · exact Or.inr (Or.inr (Or.inr (Or.inr (Or.inl rfl))))
        · split
          · exact Or.inr (Or.inr (Or.inr (Or.inr (Or.inr rfl))))
          · exact Or.inl rfl
theorem ps_kind_m1 : ps_kind (-1) = -1 := by decide
theorem ps_and_cn {a : Int32 × ps_S} {h : ps_S → Int32 × ps_S} {c : Nat} (ha : a.2.2.2.2 = c) (hh : ∀ z : ps_S, z.2.2.2 = c → (h z).2.2.2.2 = c) : (ps_and a h).2.2.2.2 = c := by
  unfold ps_and
  split
  · exact ha
  · exact hh _ ha
theorem ps_value_cn {f : Nat → Int32} {n : Nat} {x : Int32} {k : Nat} {lo hi : Int32} {z : ps_S} : (ps_value f n x k lo hi z).2.2.2.2 = z.2.2.2 := by
  refine ps_and_cn (by rw [ps_skip_z]) (fun y hy => ?_)
  unfold ps_val2
  split
  · show (ps_num f n lo hi y).2.2.2.2 = _
    rw [ps_num_z]; exact hy
  · show (ps_num f n lo hi y).2.2.2.2 = _
    rw [ps_num_z]; exact hy
theorem ps_name_cn {f : Nat → Int32} {n : Nat} {kd : Int32} {z : ps_S} : (ps_name f n kd z).2.2.2.2 ≤ z.2.2.2 + 1 ∧ (¬ (ps_name f n kd z).1 = 0 → (ps_name f n kd z).2.2.2.2 = z.2.2.2 + 1) := by
  unfold ps_name ps_nam2
  split
  · refine ⟨?_, fun h => absurd rfl h⟩
    show (ps_num f n 0 29 z).2.2.2.2 ≤ _
    rw [ps_num_z]; omega
  · split
    · have e : (ps_num f n 0 29 z).2.2.2.2 = z.2.2.2 := by rw [ps_num_z]
      exact ⟨by show (ps_num f n 0 29 z).2.2.2.2 + 1 ≤ _; omega, fun _ => by show (ps_num f n 0 29 z).2.2.2.2 + 1 = _; omega⟩
    · refine ⟨?_, fun h => absurd rfl h⟩
      show (ps_num f n 0 29 z).2.2.2.2 ≤ _
      rw [ps_num_z]; omega
theorem ps_p1_cn {f : Nat → Int32} {n k : Nat} {z : ps_S} : (ps_p1 f n k z).2.2.2.2 ≤ z.2.2.2 + 1 := by
  have h1 := ps_name_cn (f := f) (n := n) (kd := nI k) (z := z)
  unfold ps_p1 ps_and
  split
  · exact h1.1
  · rename_i h2
    have h3 := h1.2 h2
    have h4 : ∀ y : ps_S, (ps_p2 f n k y).2.2.2.2 = y.2.2.2 := fun y => ps_and_cn ps_value_cn (fun y hy => ps_and_cn (by split <;> first | (rw [ps_value_cn]; exact hy) | exact hy) (fun y hy => ps_and_cn (by split <;> first | (rw [ps_value_cn]; exact hy) | exact hy) (fun y hy => ps_and_cn (by split <;> first | (rw [ps_value_cn]; exact hy) | exact hy) (fun y hy => by rw [ps_skip_z]; exact hy))))
    rw [h4]
    omega
theorem ps_part_cn {f : Nat → Int32} {n : Nat} {z : ps_S} : (ps_part f n z).2.2.2.2 ≤ z.2.2.2 + 1 := by
  unfold ps_part
  split
  · show z.2.2.2 ≤ _
    omega
  · exact ps_p1_cn
set_option maxRecDepth 100000 in
set_option maxHeartbeats 4000000 in
theorem c_Ps_readPart (l : Launch) (g : xG) (b0 : Nat) (ws : va_W) {qp qt qm hp ht ta n hm om dm : Nat} {f : Nat → Int32} {rm : Nat → Nat} (hd : xAp qp qt qm) (hn : n ≤ 300) {z : ps_S} (eZ : xPz g ws qp qt qm hp ht ta f n hm om dm rm z) (hpl : z.1 ≤ n) (hcn : z.2.2.2 < 24) : xMi l g b0 y_Ps_readPart b_Ps_readPart 3 (some .boolean) 3 [.ref hp, .ref hm] ws (fun r u => r = (ps_part f n z).1 ∧ xQ2 qp qm ws u ∧ xPz g u qp qt qm hp ht ta f n hm om dm rm ((ps_part f n z).2) ∧ (ps_part f n z).2.1 ≤ n ∧ (ps_part f n z).2.2.2.2 ≤ 24) := by
  unfold xMi
  refine x_in (by decide) (Nat.le_of_ble_eq_true rfl) ?_
  intro p e s m below meth c ls E hr hin hP hD hl
  obtain ⟨hx, hb, hml, hown, hts, hK, hZ, hb0, hlocks⟩ := id E
  have hS : va_S (xA b0) s.heap s.heap [] := va_S.rf
  have hl : lv_has ls 3 [(0, .ref hp), (1, .ref hm)] := hl
  have hQ : xQ2 qp qm ws ws := xQ2.rf
  have hcn0 := hcn
  have hpl0 := hpl
  refine lv_aload_n hx hb d_Ps_readPart_0 rfl (lv_at hl 0 rfl) ?_
  refine x_get E hP eZ.1 rfl cl3_in 0 (by decide) wf_Ps_9 rfl d_Ps_readPart_1 ?_
  refine lv_aload_n hx hb d_Ps_readPart_4 rfl (lv_at hl 0 rfl) ?_
  refine x_get E hP eZ.1 rfl cl3_in 1 (by decide) wf_Ps_15 rfl d_Ps_readPart_5 ?_
  refine x_cRi (As := [.int (nI z.1)]) (rest := []) E (c_Tx_characterAt l g b0 _ eZ.2.1 hn (nI z.1)) wy_Tx_characterAt wl_Ps_33 hP hD hS eZ.2.1.1 rfl hl.1 ⟨by decide, by decide⟩ ⟨Nat.le_refl _, Nat.le_refl _⟩ rfl (Nat.le_of_ble_eq_true rfl) d_Ps_readPart_8 (fun r8 hr8 => ?_)
  subst hr8
  refine x_cSi (As := [.int (tx_at f n (nI z.1))]) (rest := []) E (c_Ps_kindOf l g b0 _ (tx_at f n (nI z.1))) wy_Ps_kindOf wl_Ps_37 hP hD hS hl.1 ⟨by decide, by decide⟩ ⟨Nat.le_refl _, Nat.le_refl _⟩ rfl (Nat.le_of_ble_eq_true rfl) d_Ps_readPart_11 (fun r11 hr11 => ?_)
  subst hr11
  rcases ps_kind_in (tx_at f n (nI z.1)) with hk0 | hk0 | hk0 | hk0 | hk0 | hk0
  · refine x_top (y := (-1)) hk0 ?_
    refine lv_istore_n (lv' := [(2, .int (-1)), (0, .ref hp), (1, .ref hm)]) hx hb d_Ps_readPart_14 rfl hl (by decide) rfl (fun ls hl => ?_)
    refine lv_iload_n hx hb d_Ps_readPart_15 rfl (lv_at hl 0 rfl) ?_
    refine lv_if_lt (tgt := 35) hx hb d_Ps_readPart_16 (by decide) (fun c16 => ?_) (fun c16 => absurd (by decide) c16)
    refine lv_iconst (v := 0) hx hb d_Ps_readPart_35 (by decide) ?_
    exact x_rz E hr hS rfl (by rw [ps_part, if_pos hk0]; exact ⟨rfl, hQ, eZ, hpl, by omega⟩) hP hD d_Ps_readPart_36
  · refine x_top (y := 0) hk0 ?_
    refine lv_istore_n (lv' := [(2, .int 0), (0, .ref hp), (1, .ref hm)]) hx hb d_Ps_readPart_14 rfl hl (by decide) rfl (fun ls hl => ?_)
    refine lv_iload_n hx hb d_Ps_readPart_15 rfl (lv_at hl 0 rfl) ?_
    refine lv_if_lt (tgt := 35) hx hb d_Ps_readPart_16 (by decide) (fun c16 => absurd c16 (by decide)) (fun c16 => ?_)
    refine lv_iload_n hx hb d_Ps_readPart_19 rfl (lv_at hl 0 rfl) ?_
    refine x_gets_A_Ps E hS d_Ps_readPart_20 ?_
    refine x_len_A E hS d_Ps_readPart_23 ?_
    refine lv_icmp_ge (tgt := 35) hx hb d_Ps_readPart_24 (by decide) (fun c24 => absurd c24 (by decide)) (fun c24 => ?_)
    refine lv_iload_n hx hb d_Ps_readPart_27 rfl (lv_at hl 0 rfl) ?_
    refine x_gets_B_Ps E hS d_Ps_readPart_28 ?_
    refine x_len_B E hS d_Ps_readPart_31 ?_
    refine lv_icmp_lt (tgt := 37) hx hb d_Ps_readPart_32 (by decide) (fun c32 => ?_) (fun c32 => absurd (by decide) c32)
    refine lv_aload_n hx hb d_Ps_readPart_37 rfl (lv_at hl 1 rfl) ?_
    refine lv_dup hx hb d_Ps_readPart_38 rfl ?_
    refine x_get E hP eZ.1 rfl cl3_in 1 (by decide) wf_Ps_15 rfl d_Ps_readPart_39 ?_
    refine lv_iconst (v := 1) hx hb d_Ps_readPart_42 (by decide) ?_
    refine lv_iadd hx hb d_Ps_readPart_43 ?_
    refine x_top (y := nI (z.1 + 1)) (nI_1 z.1) ?_
    have hpl : z.1 + 1 ≤ n := tx_at_ne hpl hn (fun q => by rw [q, ps_kind_m1] at hk0; exact absurd hk0 (by decide))
    refine x_put E hP hD hS eZ.1 rfl cl3_in cl3_ty cl3_nm 1 (by decide) wf_Ps_15 rfl rfl rfl (Nat.le_of_ble_eq_true rfl) d_Ps_readPart_44 (fun w2 H locs hU2 hP hD hS => ?_)
    have hQ := hQ.up hU2
    have eZ := eZ.pl hd (p' := z.1 + 1) hU2
    refine lv_aload_n hx hb d_Ps_readPart_47 rfl (lv_at hl 1 rfl) ?_
    refine lv_aload_n hx hb d_Ps_readPart_48 rfl (lv_at hl 2 rfl) ?_
    refine lv_iload_n hx hb d_Ps_readPart_49 rfl (lv_at hl 0 rfl) ?_
    refine x_cVi (As := [.ref hm, .int 0]) (rest := []) E (c_Ps_readNewName l g b0 _ hd hn eZ hpl hcn 0) wy_Ps_readNewName wl_Ps_47 hP hD hS eZ.1 rfl hl.1 ⟨by decide, by decide⟩ ⟨Nat.le_refl _, Nat.le_refl _⟩ rfl (Nat.le_of_ble_eq_true rfl) d_Ps_readPart_50 (fun r50 w3 H locs hr50 hP hD hS => ?_)
    obtain ⟨rfl, hq, eZ, hpl, hcn⟩ := hr50
    have hQ := hQ.tr hq
    have hc9 := ps_name_cn (f := f) (n := n) (kd := 0) (z := (z.1 + 1, z.2))
    refine lv_if_eq (tgt := 148) hx hb d_Ps_readPart_53 (by decide) (fun c53 => ?_) (fun c53 => ?_)
    · refine lv_iconst (v := 0) hx hb d_Ps_readPart_148 (by decide) ?_
      exact x_rz E hr hS rfl (by rw [ps_part, if_neg (by rw [hk0]; decide), hk0, show ((0 : Int32)).toNatClampNeg = 0 from rfl, ps_p1, ps_and, if_pos c53]; exact ⟨rfl, hQ, eZ, hpl, hcn⟩) hP hD d_Ps_readPart_149
    · have hc1 := hc9.2 c53
      replace hc1 := Nat.le_of_eq hc1.symm
      replace hc1 := Nat.le_trans (Nat.le_add_left 1 _) hc1
      refine lv_aload_n hx hb d_Ps_readPart_56 rfl (lv_at hl 1 rfl) ?_
      refine lv_aload_n hx hb d_Ps_readPart_57 rfl (lv_at hl 2 rfl) ?_
      refine lv_bipush (v := 61) hx hb d_Ps_readPart_58 (by decide) ?_
      refine lv_iconst (v := 2) hx hb d_Ps_readPart_60 (by decide) ?_
      refine x_gets_A_Ps E hS d_Ps_readPart_61 ?_
      refine lv_iload_n hx hb d_Ps_readPart_64 rfl (lv_at hl 0 rfl) ?_
      refine x_tab_A E hS rfl (by decide) d_Ps_readPart_65 ?_
      refine x_gets_B_Ps E hS d_Ps_readPart_66 ?_
      refine lv_iload_n hx hb d_Ps_readPart_69 rfl (lv_at hl 0 rfl) ?_
      refine x_tab_B E hS rfl (by decide) d_Ps_readPart_70 ?_
      refine x_cVi (As := [.ref hm, .int 61, .int 2, .int (xLo 0), .int (xHi 0)]) (rest := []) E (c_Ps_readValue l g b0 _ hd hn eZ hpl hcn hc1 61 2 (xLo 0) (xHi 0) (by decide) 2 rfl (by decide)) wy_Ps_readValue wl_Ps_51 hP hD hS eZ.1 rfl hl.1 ⟨by decide, by decide⟩ ⟨Nat.le_refl _, Nat.le_refl _⟩ rfl (Nat.le_of_ble_eq_true rfl) d_Ps_readPart_71 (fun r71 w4 H locs hr71 hP hD hS => ?_)
      obtain ⟨rfl, hq, eZ, hpl, hcn⟩ := hr71
      have hQ := hQ.tr hq
      have hc1 : 1 ≤ (ps_value f n 61 2 (xLo 0) (xHi 0) ((ps_name f n 0 (z.1 + 1, z.2)).2)).2.2.2.2 := by rw [ps_value_cn]; exact hc1
      refine lv_if_eq (tgt := 148) hx hb d_Ps_readPart_74 (by decide) (fun c74 => ?_) (fun c74 => ?_)
      · refine lv_iconst (v := 0) hx hb d_Ps_readPart_148 (by decide) ?_
        exact x_rz E hr hS rfl (by rw [ps_part, if_neg (by rw [hk0]; decide), hk0, show ((0 : Int32)).toNatClampNeg = 0 from rfl, ps_p1, ps_and, if_neg c53, ps_p2, ps_and, if_pos c74]; exact ⟨rfl, hQ, eZ, hpl, hcn⟩) hP hD d_Ps_readPart_149
      · refine lv_iload_n hx hb d_Ps_readPart_77 rfl (lv_at hl 0 rfl) ?_
        refine lv_iconst (v := 1) hx hb d_Ps_readPart_78 (by decide) ?_
        refine lv_icmp_ne (tgt := 97) hx hb d_Ps_readPart_79 (by decide) (fun c79 => ?_) (fun c79 => absurd c79 (by decide))
        refine lv_iload_n hx hb d_Ps_readPart_97 rfl (lv_at hl 0 rfl) ?_
        refine lv_iconst (v := 4) hx hb d_Ps_readPart_98 (by decide) ?_
        refine lv_icmp_eq (tgt := 116) hx hb d_Ps_readPart_99 (by decide) (fun c99 => absurd c99 (by decide)) (fun c99 => ?_)
        refine lv_aload_n hx hb d_Ps_readPart_102 rfl (lv_at hl 1 rfl) ?_
        refine lv_aload_n hx hb d_Ps_readPart_103 rfl (lv_at hl 2 rfl) ?_
        refine lv_bipush (v := 62) hx hb d_Ps_readPart_104 (by decide) ?_
        refine lv_iconst (v := 4) hx hb d_Ps_readPart_106 (by decide) ?_
        refine lv_iconst (v := 0) hx hb d_Ps_readPart_107 (by decide) ?_
        refine lv_bipush (v := 29) hx hb d_Ps_readPart_108 (by decide) ?_
        refine x_cVi (As := [.ref hm, .int 62, .int 4, .int 0, .int 29]) (rest := []) E (c_Ps_readValue l g b0 _ hd hn eZ hpl hcn hc1 62 4 0 29 (by decide) 4 rfl (by decide)) wy_Ps_readValue wl_Ps_51 hP hD hS eZ.1 rfl hl.1 ⟨by decide, by decide⟩ ⟨Nat.le_refl _, Nat.le_refl _⟩ rfl (Nat.le_of_ble_eq_true rfl) d_Ps_readPart_110 (fun r110 w5 H locs hr110 hP hD hS => ?_)
        obtain ⟨rfl, hq, eZ, hpl, hcn⟩ := hr110
        have hQ := hQ.tr hq
        have hc1 : 1 ≤ (ps_value f n 62 4 0 29 ((ps_value f n 61 2 (xLo 0) (xHi 0) ((ps_name f n 0 (z.1 + 1, z.2)).2)).2)).2.2.2.2 := by rw [ps_value_cn]; exact hc1
        refine lv_if_eq (tgt := 148) hx hb d_Ps_readPart_113 (by decide) (fun c113 => ?_) (fun c113 => ?_)
        · refine lv_iconst (v := 0) hx hb d_Ps_readPart_148 (by decide) ?_
          exact x_rz E hr hS rfl (by rw [ps_part, if_neg (by rw [hk0]; decide), hk0, show ((0 : Int32)).toNatClampNeg = 0 from rfl, ps_p1, ps_and, if_neg c53, ps_p2, ps_and, if_neg c74, ps_p3, if_neg (by decide), ps_and, if_neg (by decide), ps_p4, if_neg (by decide), ps_and, if_pos c113]; exact ⟨rfl, hQ, eZ, hpl, hcn⟩) hP hD d_Ps_readPart_149
        · refine lv_iload_n hx hb d_Ps_readPart_116 rfl (lv_at hl 0 rfl) ?_
          refine lv_iconst (v := 3) hx hb d_Ps_readPart_117 (by decide) ?_
          refine lv_icmp_ne (tgt := 135) hx hb d_Ps_readPart_118 (by decide) (fun c118 => ?_) (fun c118 => absurd c118 (by decide))
          refine lv_aload_n hx hb d_Ps_readPart_135 rfl (lv_at hl 1 rfl) ?_
          refine lv_bipush (v := 59) hx hb d_Ps_readPart_136 (by decide) ?_
          refine x_cVi (As := [.int 59]) (rest := []) E (c_Ps_skip l g b0 _ hd hn eZ hpl hcn 59 (by decide)) wy_Ps_skip wl_Ps_55 hP hD hS eZ.1 rfl hl.1 ⟨by decide, by decide⟩ ⟨Nat.le_refl _, Nat.le_refl _⟩ rfl (Nat.le_of_ble_eq_true rfl) d_Ps_readPart_138 (fun r138 w6 H locs hr138 hP hD hS => ?_)
          obtain ⟨rfl, hq, eZ, hpl, hcn⟩ := hr138
          have hQ := hQ.tr hq
          refine lv_if_eq (tgt := 148) hx hb d_Ps_readPart_141 (by decide) (fun c141 => ?_) (fun c141 => ?_)
          · refine lv_iconst (v := 0) hx hb d_Ps_readPart_148 (by decide) ?_
            exact x_rz E hr hS rfl (by rw [ps_part, if_neg (by rw [hk0]; decide), hk0, show ((0 : Int32)).toNatClampNeg = 0 from rfl, ps_p1, ps_and, if_neg c53, ps_p2, ps_and, if_neg c74, ps_p3, if_neg (by decide), ps_and, if_neg (by decide), ps_p4, if_neg (by decide), ps_and, if_neg c113, ps_p5, if_neg (by decide), ps_and, if_neg (by decide)]; exact ⟨c141.symm, hQ, eZ, hpl, hcn⟩) hP hD d_Ps_readPart_149
          · refine lv_iconst (v := 1) hx hb d_Ps_readPart_144 (by decide) ?_
            refine lv_goto (tgt := 149) hx hb d_Ps_readPart_145 (by decide) ?_
            exact x_rz E hr hS rfl (by rw [ps_part, if_neg (by rw [hk0]; decide), hk0, show ((0 : Int32)).toNatClampNeg = 0 from rfl, ps_p1, ps_and, if_neg c53, ps_p2, ps_and, if_neg c74, ps_p3, if_neg (by decide), ps_and, if_neg (by decide), ps_p4, if_neg (by decide), ps_and, if_neg c113, ps_p5, if_neg (by decide), ps_and, if_neg (by decide)]; exact ⟨((ps_skip_01 f n 59 _).resolve_left c141).symm, hQ, eZ, hpl, hcn⟩) hP hD d_Ps_readPart_149
  · refine x_top (y := 1) hk0 ?_
    refine lv_istore_n (lv' := [(2, .int 1), (0, .ref hp), (1, .ref hm)]) hx hb d_Ps_readPart_14 rfl hl (by decide) rfl (fun ls hl => ?_)
    refine lv_iload_n hx hb d_Ps_readPart_15 rfl (lv_at hl 0 rfl) ?_
    refine lv_if_lt (tgt := 35) hx hb d_Ps_readPart_16 (by decide) (fun c16 => absurd c16 (by decide)) (fun c16 => ?_)
    refine lv_iload_n hx hb d_Ps_readPart_19 rfl (lv_at hl 0 rfl) ?_
    refine x_gets_A_Ps E hS d_Ps_readPart_20 ?_
    refine x_len_A E hS d_Ps_readPart_23 ?_
    refine lv_icmp_ge (tgt := 35) hx hb d_Ps_readPart_24 (by decide) (fun c24 => absurd c24 (by decide)) (fun c24 => ?_)
    refine lv_iload_n hx hb d_Ps_readPart_27 rfl (lv_at hl 0 rfl) ?_
    refine x_gets_B_Ps E hS d_Ps_readPart_28 ?_
    refine x_len_B E hS d_Ps_readPart_31 ?_
    refine lv_icmp_lt (tgt := 37) hx hb d_Ps_readPart_32 (by decide) (fun c32 => ?_) (fun c32 => absurd (by decide) c32)
    refine lv_aload_n hx hb d_Ps_readPart_37 rfl (lv_at hl 1 rfl) ?_
    refine lv_dup hx hb d_Ps_readPart_38 rfl ?_
    refine x_get E hP eZ.1 rfl cl3_in 1 (by decide) wf_Ps_15 rfl d_Ps_readPart_39 ?_
    refine lv_iconst (v := 1) hx hb d_Ps_readPart_42 (by decide) ?_
    refine lv_iadd hx hb d_Ps_readPart_43 ?_
    refine x_top (y := nI (z.1 + 1)) (nI_1 z.1) ?_
    have hpl : z.1 + 1 ≤ n := tx_at_ne hpl hn (fun q => by rw [q, ps_kind_m1] at hk0; exact absurd hk0 (by decide))
    refine x_put E hP hD hS eZ.1 rfl cl3_in cl3_ty cl3_nm 1 (by decide) wf_Ps_15 rfl rfl rfl (Nat.le_of_ble_eq_true rfl) d_Ps_readPart_44 (fun w2 H locs hU2 hP hD hS => ?_)
    have hQ := hQ.up hU2
    have eZ := eZ.pl hd (p' := z.1 + 1) hU2
    refine lv_aload_n hx hb d_Ps_readPart_47 rfl (lv_at hl 1 rfl) ?_
    refine lv_aload_n hx hb d_Ps_readPart_48 rfl (lv_at hl 2 rfl) ?_
    refine lv_iload_n hx hb d_Ps_readPart_49 rfl (lv_at hl 0 rfl) ?_
    refine x_cVi (As := [.ref hm, .int 1]) (rest := []) E (c_Ps_readNewName l g b0 _ hd hn eZ hpl hcn 1) wy_Ps_readNewName wl_Ps_47 hP hD hS eZ.1 rfl hl.1 ⟨by decide, by decide⟩ ⟨Nat.le_refl _, Nat.le_refl _⟩ rfl (Nat.le_of_ble_eq_true rfl) d_Ps_readPart_50 (fun r50 w3 H locs hr50 hP hD hS => ?_)
    obtain ⟨rfl, hq, eZ, hpl, hcn⟩ := hr50
    have hQ := hQ.tr hq
    have hc9 := ps_name_cn (f := f) (n := n) (kd := 1) (z := (z.1 + 1, z.2))
    refine lv_if_eq (tgt := 148) hx hb d_Ps_readPart_53 (by decide) (fun c53 => ?_) (fun c53 => ?_)
    · refine lv_iconst (v := 0) hx hb d_Ps_readPart_148 (by decide) ?_
      exact x_rz E hr hS rfl (by rw [ps_part, if_neg (by rw [hk0]; decide), hk0, show ((1 : Int32)).toNatClampNeg = 1 from rfl, ps_p1, ps_and, if_pos c53]; exact ⟨rfl, hQ, eZ, hpl, hcn⟩) hP hD d_Ps_readPart_149
    · have hc1 := hc9.2 c53
      replace hc1 := Nat.le_of_eq hc1.symm
      replace hc1 := Nat.le_trans (Nat.le_add_left 1 _) hc1
      refine lv_aload_n hx hb d_Ps_readPart_56 rfl (lv_at hl 1 rfl) ?_
      refine lv_aload_n hx hb d_Ps_readPart_57 rfl (lv_at hl 2 rfl) ?_
      refine lv_bipush (v := 61) hx hb d_Ps_readPart_58 (by decide) ?_
      refine lv_iconst (v := 2) hx hb d_Ps_readPart_60 (by decide) ?_
      refine x_gets_A_Ps E hS d_Ps_readPart_61 ?_
      refine lv_iload_n hx hb d_Ps_readPart_64 rfl (lv_at hl 0 rfl) ?_
      refine x_tab_A E hS rfl (by decide) d_Ps_readPart_65 ?_
      refine x_gets_B_Ps E hS d_Ps_readPart_66 ?_
      refine lv_iload_n hx hb d_Ps_readPart_69 rfl (lv_at hl 0 rfl) ?_
      refine x_tab_B E hS rfl (by decide) d_Ps_readPart_70 ?_
      refine x_cVi (As := [.ref hm, .int 61, .int 2, .int (xLo 1), .int (xHi 1)]) (rest := []) E (c_Ps_readValue l g b0 _ hd hn eZ hpl hcn hc1 61 2 (xLo 1) (xHi 1) (by decide) 2 rfl (by decide)) wy_Ps_readValue wl_Ps_51 hP hD hS eZ.1 rfl hl.1 ⟨by decide, by decide⟩ ⟨Nat.le_refl _, Nat.le_refl _⟩ rfl (Nat.le_of_ble_eq_true rfl) d_Ps_readPart_71 (fun r71 w4 H locs hr71 hP hD hS => ?_)
      obtain ⟨rfl, hq, eZ, hpl, hcn⟩ := hr71
      have hQ := hQ.tr hq
      have hc1 : 1 ≤ (ps_value f n 61 2 (xLo 1) (xHi 1) ((ps_name f n 1 (z.1 + 1, z.2)).2)).2.2.2.2 := by rw [ps_value_cn]; exact hc1
      refine lv_if_eq (tgt := 148) hx hb d_Ps_readPart_74 (by decide) (fun c74 => ?_) (fun c74 => ?_)
      · refine lv_iconst (v := 0) hx hb d_Ps_readPart_148 (by decide) ?_
        exact x_rz E hr hS rfl (by rw [ps_part, if_neg (by rw [hk0]; decide), hk0, show ((1 : Int32)).toNatClampNeg = 1 from rfl, ps_p1, ps_and, if_neg c53, ps_p2, ps_and, if_pos c74]; exact ⟨rfl, hQ, eZ, hpl, hcn⟩) hP hD d_Ps_readPart_149
      · refine lv_iload_n hx hb d_Ps_readPart_77 rfl (lv_at hl 0 rfl) ?_
        refine lv_iconst (v := 1) hx hb d_Ps_readPart_78 (by decide) ?_
        refine lv_icmp_ne (tgt := 97) hx hb d_Ps_readPart_79 (by decide) (fun c79 => absurd (by decide) c79) (fun c79 => ?_)
        refine lv_aload_n hx hb d_Ps_readPart_82 rfl (lv_at hl 1 rfl) ?_
        refine lv_aload_n hx hb d_Ps_readPart_83 rfl (lv_at hl 2 rfl) ?_
        refine lv_bipush (v := 44) hx hb d_Ps_readPart_84 (by decide) ?_
        refine lv_iconst (v := 3) hx hb d_Ps_readPart_86 (by decide) ?_
        refine lv_iconst (v := 1) hx hb d_Ps_readPart_87 (by decide) ?_
        refine lv_sipush (v := 9999) hx hb d_Ps_readPart_88 (by decide) ?_
        refine x_cVi (As := [.ref hm, .int 44, .int 3, .int 1, .int 9999]) (rest := []) E (c_Ps_readValue l g b0 _ hd hn eZ hpl hcn hc1 44 3 1 9999 (by decide) 3 rfl (by decide)) wy_Ps_readValue wl_Ps_51 hP hD hS eZ.1 rfl hl.1 ⟨by decide, by decide⟩ ⟨Nat.le_refl _, Nat.le_refl _⟩ rfl (Nat.le_of_ble_eq_true rfl) d_Ps_readPart_91 (fun r91 w5 H locs hr91 hP hD hS => ?_)
        obtain ⟨rfl, hq, eZ, hpl, hcn⟩ := hr91
        have hQ := hQ.tr hq
        have hc1 : 1 ≤ (ps_value f n 44 3 1 9999 ((ps_value f n 61 2 (xLo 1) (xHi 1) ((ps_name f n 1 (z.1 + 1, z.2)).2)).2)).2.2.2.2 := by rw [ps_value_cn]; exact hc1
        refine lv_if_eq (tgt := 148) hx hb d_Ps_readPart_94 (by decide) (fun c94 => ?_) (fun c94 => ?_)
        · refine lv_iconst (v := 0) hx hb d_Ps_readPart_148 (by decide) ?_
          exact x_rz E hr hS rfl (by rw [ps_part, if_neg (by rw [hk0]; decide), hk0, show ((1 : Int32)).toNatClampNeg = 1 from rfl, ps_p1, ps_and, if_neg c53, ps_p2, ps_and, if_neg c74, ps_p3, if_pos rfl, ps_and, if_pos c94]; exact ⟨rfl, hQ, eZ, hpl, hcn⟩) hP hD d_Ps_readPart_149
        · refine lv_iload_n hx hb d_Ps_readPart_97 rfl (lv_at hl 0 rfl) ?_
          refine lv_iconst (v := 4) hx hb d_Ps_readPart_98 (by decide) ?_
          refine lv_icmp_eq (tgt := 116) hx hb d_Ps_readPart_99 (by decide) (fun c99 => absurd c99 (by decide)) (fun c99 => ?_)
          refine lv_aload_n hx hb d_Ps_readPart_102 rfl (lv_at hl 1 rfl) ?_
          refine lv_aload_n hx hb d_Ps_readPart_103 rfl (lv_at hl 2 rfl) ?_
          refine lv_bipush (v := 62) hx hb d_Ps_readPart_104 (by decide) ?_
          refine lv_iconst (v := 4) hx hb d_Ps_readPart_106 (by decide) ?_
          refine lv_iconst (v := 0) hx hb d_Ps_readPart_107 (by decide) ?_
          refine lv_bipush (v := 29) hx hb d_Ps_readPart_108 (by decide) ?_
          refine x_cVi (As := [.ref hm, .int 62, .int 4, .int 0, .int 29]) (rest := []) E (c_Ps_readValue l g b0 _ hd hn eZ hpl hcn hc1 62 4 0 29 (by decide) 4 rfl (by decide)) wy_Ps_readValue wl_Ps_51 hP hD hS eZ.1 rfl hl.1 ⟨by decide, by decide⟩ ⟨Nat.le_refl _, Nat.le_refl _⟩ rfl (Nat.le_of_ble_eq_true rfl) d_Ps_readPart_110 (fun r110 w6 H locs hr110 hP hD hS => ?_)
          obtain ⟨rfl, hq, eZ, hpl, hcn⟩ := hr110
          have hQ := hQ.tr hq
          have hc1 : 1 ≤ (ps_value f n 62 4 0 29 ((ps_value f n 44 3 1 9999 ((ps_value f n 61 2 (xLo 1) (xHi 1) ((ps_name f n 1 (z.1 + 1, z.2)).2)).2)).2)).2.2.2.2 := by rw [ps_value_cn]; exact hc1
          refine lv_if_eq (tgt := 148) hx hb d_Ps_readPart_113 (by decide) (fun c113 => ?_) (fun c113 => ?_)
          · refine lv_iconst (v := 0) hx hb d_Ps_readPart_148 (by decide) ?_
            exact x_rz E hr hS rfl (by rw [ps_part, if_neg (by rw [hk0]; decide), hk0, show ((1 : Int32)).toNatClampNeg = 1 from rfl, ps_p1, ps_and, if_neg c53, ps_p2, ps_and, if_neg c74, ps_p3, if_pos rfl, ps_and, if_neg c94, ps_p4, if_neg (by decide), ps_and, if_pos c113]; exact ⟨rfl, hQ, eZ, hpl, hcn⟩) hP hD d_Ps_readPart_149
          · refine lv_iload_n hx hb d_Ps_readPart_116 rfl (lv_at hl 0 rfl) ?_
            refine lv_iconst (v := 3) hx hb d_Ps_readPart_117 (by decide) ?_
            refine lv_icmp_ne (tgt := 135) hx hb d_Ps_readPart_118 (by decide) (fun c118 => ?_) (fun c118 => absurd c118 (by decide))
            refine lv_aload_n hx hb d_Ps_readPart_135 rfl (lv_at hl 1 rfl) ?_
            refine lv_bipush (v := 59) hx hb d_Ps_readPart_136 (by decide) ?_
            refine x_cVi (As := [.int 59]) (rest := []) E (c_Ps_skip l g b0 _ hd hn eZ hpl hcn 59 (by decide)) wy_Ps_skip wl_Ps_55 hP hD hS eZ.1 rfl hl.1 ⟨by decide, by decide⟩ ⟨Nat.le_refl _, Nat.le_refl _⟩ rfl (Nat.le_of_ble_eq_true rfl) d_Ps_readPart_138 (fun r138 w7 H locs hr138 hP hD hS => ?_)
            obtain ⟨rfl, hq, eZ, hpl, hcn⟩ := hr138
            have hQ := hQ.tr hq
            refine lv_if_eq (tgt := 148) hx hb d_Ps_readPart_141 (by decide) (fun c141 => ?_) (fun c141 => ?_)
            · refine lv_iconst (v := 0) hx hb d_Ps_readPart_148 (by decide) ?_
              exact x_rz E hr hS rfl (by rw [ps_part, if_neg (by rw [hk0]; decide), hk0, show ((1 : Int32)).toNatClampNeg = 1 from rfl, ps_p1, ps_and, if_neg c53, ps_p2, ps_and, if_neg c74, ps_p3, if_pos rfl, ps_and, if_neg c94, ps_p4, if_neg (by decide), ps_and, if_neg c113, ps_p5, if_neg (by decide), ps_and, if_neg (by decide)]; exact ⟨c141.symm, hQ, eZ, hpl, hcn⟩) hP hD d_Ps_readPart_149
            · refine lv_iconst (v := 1) hx hb d_Ps_readPart_144 (by decide) ?_
              refine lv_goto (tgt := 149) hx hb d_Ps_readPart_145 (by decide) ?_
              exact x_rz E hr hS rfl (by rw [ps_part, if_neg (by rw [hk0]; decide), hk0, show ((1 : Int32)).toNatClampNeg = 1 from rfl, ps_p1, ps_and, if_neg c53, ps_p2, ps_and, if_neg c74, ps_p3, if_pos rfl, ps_and, if_neg c94, ps_p4, if_neg (by decide), ps_and, if_neg c113, ps_p5, if_neg (by decide), ps_and, if_neg (by decide)]; exact ⟨((ps_skip_01 f n 59 _).resolve_left c141).symm, hQ, eZ, hpl, hcn⟩) hP hD d_Ps_readPart_149
  · refine x_top (y := 2) hk0 ?_
    refine lv_istore_n (lv' := [(2, .int 2), (0, .ref hp), (1, .ref hm)]) hx hb d_Ps_readPart_14 rfl hl (by decide) rfl (fun ls hl => ?_)
    refine lv_iload_n hx hb d_Ps_readPart_15 rfl (lv_at hl 0 rfl) ?_
    refine lv_if_lt (tgt := 35) hx hb d_Ps_readPart_16 (by decide) (fun c16 => absurd c16 (by decide)) (fun c16 => ?_)
    refine lv_iload_n hx hb d_Ps_readPart_19 rfl (lv_at hl 0 rfl) ?_
    refine x_gets_A_Ps E hS d_Ps_readPart_20 ?_
    refine x_len_A E hS d_Ps_readPart_23 ?_
    refine lv_icmp_ge (tgt := 35) hx hb d_Ps_readPart_24 (by decide) (fun c24 => absurd c24 (by decide)) (fun c24 => ?_)
    refine lv_iload_n hx hb d_Ps_readPart_27 rfl (lv_at hl 0 rfl) ?_
    refine x_gets_B_Ps E hS d_Ps_readPart_28 ?_
    refine x_len_B E hS d_Ps_readPart_31 ?_
    refine lv_icmp_lt (tgt := 37) hx hb d_Ps_readPart_32 (by decide) (fun c32 => ?_) (fun c32 => absurd (by decide) c32)
    refine lv_aload_n hx hb d_Ps_readPart_37 rfl (lv_at hl 1 rfl) ?_
    refine lv_dup hx hb d_Ps_readPart_38 rfl ?_
    refine x_get E hP eZ.1 rfl cl3_in 1 (by decide) wf_Ps_15 rfl d_Ps_readPart_39 ?_
    refine lv_iconst (v := 1) hx hb d_Ps_readPart_42 (by decide) ?_
    refine lv_iadd hx hb d_Ps_readPart_43 ?_
    refine x_top (y := nI (z.1 + 1)) (nI_1 z.1) ?_
    have hpl : z.1 + 1 ≤ n := tx_at_ne hpl hn (fun q => by rw [q, ps_kind_m1] at hk0; exact absurd hk0 (by decide))
    refine x_put E hP hD hS eZ.1 rfl cl3_in cl3_ty cl3_nm 1 (by decide) wf_Ps_15 rfl rfl rfl (Nat.le_of_ble_eq_true rfl) d_Ps_readPart_44 (fun w2 H locs hU2 hP hD hS => ?_)
    have hQ := hQ.up hU2
    have eZ := eZ.pl hd (p' := z.1 + 1) hU2
    refine lv_aload_n hx hb d_Ps_readPart_47 rfl (lv_at hl 1 rfl) ?_
    refine lv_aload_n hx hb d_Ps_readPart_48 rfl (lv_at hl 2 rfl) ?_
    refine lv_iload_n hx hb d_Ps_readPart_49 rfl (lv_at hl 0 rfl) ?_
    refine x_cVi (As := [.ref hm, .int 2]) (rest := []) E (c_Ps_readNewName l g b0 _ hd hn eZ hpl hcn 2) wy_Ps_readNewName wl_Ps_47 hP hD hS eZ.1 rfl hl.1 ⟨by decide, by decide⟩ ⟨Nat.le_refl _, Nat.le_refl _⟩ rfl (Nat.le_of_ble_eq_true rfl) d_Ps_readPart_50 (fun r50 w3 H locs hr50 hP hD hS => ?_)
    obtain ⟨rfl, hq, eZ, hpl, hcn⟩ := hr50
    have hQ := hQ.tr hq
    have hc9 := ps_name_cn (f := f) (n := n) (kd := 2) (z := (z.1 + 1, z.2))
    refine lv_if_eq (tgt := 148) hx hb d_Ps_readPart_53 (by decide) (fun c53 => ?_) (fun c53 => ?_)
    · refine lv_iconst (v := 0) hx hb d_Ps_readPart_148 (by decide) ?_
      exact x_rz E hr hS rfl (by rw [ps_part, if_neg (by rw [hk0]; decide), hk0, show ((2 : Int32)).toNatClampNeg = 2 from rfl, ps_p1, ps_and, if_pos c53]; exact ⟨rfl, hQ, eZ, hpl, hcn⟩) hP hD d_Ps_readPart_149
    · have hc1 := hc9.2 c53
      replace hc1 := Nat.le_of_eq hc1.symm
      replace hc1 := Nat.le_trans (Nat.le_add_left 1 _) hc1
      refine lv_aload_n hx hb d_Ps_readPart_56 rfl (lv_at hl 1 rfl) ?_
      refine lv_aload_n hx hb d_Ps_readPart_57 rfl (lv_at hl 2 rfl) ?_
      refine lv_bipush (v := 61) hx hb d_Ps_readPart_58 (by decide) ?_
      refine lv_iconst (v := 2) hx hb d_Ps_readPart_60 (by decide) ?_
      refine x_gets_A_Ps E hS d_Ps_readPart_61 ?_
      refine lv_iload_n hx hb d_Ps_readPart_64 rfl (lv_at hl 0 rfl) ?_
      refine x_tab_A E hS rfl (by decide) d_Ps_readPart_65 ?_
      refine x_gets_B_Ps E hS d_Ps_readPart_66 ?_
      refine lv_iload_n hx hb d_Ps_readPart_69 rfl (lv_at hl 0 rfl) ?_
      refine x_tab_B E hS rfl (by decide) d_Ps_readPart_70 ?_
      refine x_cVi (As := [.ref hm, .int 61, .int 2, .int (xLo 2), .int (xHi 2)]) (rest := []) E (c_Ps_readValue l g b0 _ hd hn eZ hpl hcn hc1 61 2 (xLo 2) (xHi 2) (by decide) 2 rfl (by decide)) wy_Ps_readValue wl_Ps_51 hP hD hS eZ.1 rfl hl.1 ⟨by decide, by decide⟩ ⟨Nat.le_refl _, Nat.le_refl _⟩ rfl (Nat.le_of_ble_eq_true rfl) d_Ps_readPart_71 (fun r71 w4 H locs hr71 hP hD hS => ?_)
      obtain ⟨rfl, hq, eZ, hpl, hcn⟩ := hr71
      have hQ := hQ.tr hq
      have hc1 : 1 ≤ (ps_value f n 61 2 (xLo 2) (xHi 2) ((ps_name f n 2 (z.1 + 1, z.2)).2)).2.2.2.2 := by rw [ps_value_cn]; exact hc1
      refine lv_if_eq (tgt := 148) hx hb d_Ps_readPart_74 (by decide) (fun c74 => ?_) (fun c74 => ?_)
      · refine lv_iconst (v := 0) hx hb d_Ps_readPart_148 (by decide) ?_
        exact x_rz E hr hS rfl (by rw [ps_part, if_neg (by rw [hk0]; decide), hk0, show ((2 : Int32)).toNatClampNeg = 2 from rfl, ps_p1, ps_and, if_neg c53, ps_p2, ps_and, if_pos c74]; exact ⟨rfl, hQ, eZ, hpl, hcn⟩) hP hD d_Ps_readPart_149
      · refine lv_iload_n hx hb d_Ps_readPart_77 rfl (lv_at hl 0 rfl) ?_
        refine lv_iconst (v := 1) hx hb d_Ps_readPart_78 (by decide) ?_
        refine lv_icmp_ne (tgt := 97) hx hb d_Ps_readPart_79 (by decide) (fun c79 => ?_) (fun c79 => absurd c79 (by decide))
        refine lv_iload_n hx hb d_Ps_readPart_97 rfl (lv_at hl 0 rfl) ?_
        refine lv_iconst (v := 4) hx hb d_Ps_readPart_98 (by decide) ?_
        refine lv_icmp_eq (tgt := 116) hx hb d_Ps_readPart_99 (by decide) (fun c99 => absurd c99 (by decide)) (fun c99 => ?_)
        refine lv_aload_n hx hb d_Ps_readPart_102 rfl (lv_at hl 1 rfl) ?_
        refine lv_aload_n hx hb d_Ps_readPart_103 rfl (lv_at hl 2 rfl) ?_
        refine lv_bipush (v := 62) hx hb d_Ps_readPart_104 (by decide) ?_
        refine lv_iconst (v := 4) hx hb d_Ps_readPart_106 (by decide) ?_
        refine lv_iconst (v := 0) hx hb d_Ps_readPart_107 (by decide) ?_
        refine lv_bipush (v := 29) hx hb d_Ps_readPart_108 (by decide) ?_
        refine x_cVi (As := [.ref hm, .int 62, .int 4, .int 0, .int 29]) (rest := []) E (c_Ps_readValue l g b0 _ hd hn eZ hpl hcn hc1 62 4 0 29 (by decide) 4 rfl (by decide)) wy_Ps_readValue wl_Ps_51 hP hD hS eZ.1 rfl hl.1 ⟨by decide, by decide⟩ ⟨Nat.le_refl _, Nat.le_refl _⟩ rfl (Nat.le_of_ble_eq_true rfl) d_Ps_readPart_110 (fun r110 w5 H locs hr110 hP hD hS => ?_)
        obtain ⟨rfl, hq, eZ, hpl, hcn⟩ := hr110
        have hQ := hQ.tr hq
        have hc1 : 1 ≤ (ps_value f n 62 4 0 29 ((ps_value f n 61 2 (xLo 2) (xHi 2) ((ps_name f n 2 (z.1 + 1, z.2)).2)).2)).2.2.2.2 := by rw [ps_value_cn]; exact hc1
        refine lv_if_eq (tgt := 148) hx hb d_Ps_readPart_113 (by decide) (fun c113 => ?_) (fun c113 => ?_)
        · refine lv_iconst (v := 0) hx hb d_Ps_readPart_148 (by decide) ?_
          exact x_rz E hr hS rfl (by rw [ps_part, if_neg (by rw [hk0]; decide), hk0, show ((2 : Int32)).toNatClampNeg = 2 from rfl, ps_p1, ps_and, if_neg c53, ps_p2, ps_and, if_neg c74, ps_p3, if_neg (by decide), ps_and, if_neg (by decide), ps_p4, if_neg (by decide), ps_and, if_pos c113]; exact ⟨rfl, hQ, eZ, hpl, hcn⟩) hP hD d_Ps_readPart_149
        · refine lv_iload_n hx hb d_Ps_readPart_116 rfl (lv_at hl 0 rfl) ?_
          refine lv_iconst (v := 3) hx hb d_Ps_readPart_117 (by decide) ?_
          refine lv_icmp_ne (tgt := 135) hx hb d_Ps_readPart_118 (by decide) (fun c118 => ?_) (fun c118 => absurd c118 (by decide))
          refine lv_aload_n hx hb d_Ps_readPart_135 rfl (lv_at hl 1 rfl) ?_
          refine lv_bipush (v := 59) hx hb d_Ps_readPart_136 (by decide) ?_
          refine x_cVi (As := [.int 59]) (rest := []) E (c_Ps_skip l g b0 _ hd hn eZ hpl hcn 59 (by decide)) wy_Ps_skip wl_Ps_55 hP hD hS eZ.1 rfl hl.1 ⟨by decide, by decide⟩ ⟨Nat.le_refl _, Nat.le_refl _⟩ rfl (Nat.le_of_ble_eq_true rfl) d_Ps_readPart_138 (fun r138 w6 H locs hr138 hP hD hS => ?_)
          obtain ⟨rfl, hq, eZ, hpl, hcn⟩ := hr138
          have hQ := hQ.tr hq
          refine lv_if_eq (tgt := 148) hx hb d_Ps_readPart_141 (by decide) (fun c141 => ?_) (fun c141 => ?_)
          · refine lv_iconst (v := 0) hx hb d_Ps_readPart_148 (by decide) ?_
            exact x_rz E hr hS rfl (by rw [ps_part, if_neg (by rw [hk0]; decide), hk0, show ((2 : Int32)).toNatClampNeg = 2 from rfl, ps_p1, ps_and, if_neg c53, ps_p2, ps_and, if_neg c74, ps_p3, if_neg (by decide), ps_and, if_neg (by decide), ps_p4, if_neg (by decide), ps_and, if_neg c113, ps_p5, if_neg (by decide), ps_and, if_neg (by decide)]; exact ⟨c141.symm, hQ, eZ, hpl, hcn⟩) hP hD d_Ps_readPart_149
          · refine lv_iconst (v := 1) hx hb d_Ps_readPart_144 (by decide) ?_
            refine lv_goto (tgt := 149) hx hb d_Ps_readPart_145 (by decide) ?_
            exact x_rz E hr hS rfl (by rw [ps_part, if_neg (by rw [hk0]; decide), hk0, show ((2 : Int32)).toNatClampNeg = 2 from rfl, ps_p1, ps_and, if_neg c53, ps_p2, ps_and, if_neg c74, ps_p3, if_neg (by decide), ps_and, if_neg (by decide), ps_p4, if_neg (by decide), ps_and, if_neg c113, ps_p5, if_neg (by decide), ps_and, if_neg (by decide)]; exact ⟨((ps_skip_01 f n 59 _).resolve_left c141).symm, hQ, eZ, hpl, hcn⟩) hP hD d_Ps_readPart_149
  · refine x_top (y := 3) hk0 ?_
    refine lv_istore_n (lv' := [(2, .int 3), (0, .ref hp), (1, .ref hm)]) hx hb d_Ps_readPart_14 rfl hl (by decide) rfl (fun ls hl => ?_)
    refine lv_iload_n hx hb d_Ps_readPart_15 rfl (lv_at hl 0 rfl) ?_
    refine lv_if_lt (tgt := 35) hx hb d_Ps_readPart_16 (by decide) (fun c16 => absurd c16 (by decide)) (fun c16 => ?_)
    refine lv_iload_n hx hb d_Ps_readPart_19 rfl (lv_at hl 0 rfl) ?_
    refine x_gets_A_Ps E hS d_Ps_readPart_20 ?_
    refine x_len_A E hS d_Ps_readPart_23 ?_
    refine lv_icmp_ge (tgt := 35) hx hb d_Ps_readPart_24 (by decide) (fun c24 => absurd c24 (by decide)) (fun c24 => ?_)
    refine lv_iload_n hx hb d_Ps_readPart_27 rfl (lv_at hl 0 rfl) ?_
    refine x_gets_B_Ps E hS d_Ps_readPart_28 ?_
    refine x_len_B E hS d_Ps_readPart_31 ?_
    refine lv_icmp_lt (tgt := 37) hx hb d_Ps_readPart_32 (by decide) (fun c32 => ?_) (fun c32 => absurd (by decide) c32)
    refine lv_aload_n hx hb d_Ps_readPart_37 rfl (lv_at hl 1 rfl) ?_
    refine lv_dup hx hb d_Ps_readPart_38 rfl ?_
    refine x_get E hP eZ.1 rfl cl3_in 1 (by decide) wf_Ps_15 rfl d_Ps_readPart_39 ?_
    refine lv_iconst (v := 1) hx hb d_Ps_readPart_42 (by decide) ?_
    refine lv_iadd hx hb d_Ps_readPart_43 ?_
    refine x_top (y := nI (z.1 + 1)) (nI_1 z.1) ?_
    have hpl : z.1 + 1 ≤ n := tx_at_ne hpl hn (fun q => by rw [q, ps_kind_m1] at hk0; exact absurd hk0 (by decide))
    refine x_put E hP hD hS eZ.1 rfl cl3_in cl3_ty cl3_nm 1 (by decide) wf_Ps_15 rfl rfl rfl (Nat.le_of_ble_eq_true rfl) d_Ps_readPart_44 (fun w2 H locs hU2 hP hD hS => ?_)
    have hQ := hQ.up hU2
    have eZ := eZ.pl hd (p' := z.1 + 1) hU2
    refine lv_aload_n hx hb d_Ps_readPart_47 rfl (lv_at hl 1 rfl) ?_
    refine lv_aload_n hx hb d_Ps_readPart_48 rfl (lv_at hl 2 rfl) ?_
    refine lv_iload_n hx hb d_Ps_readPart_49 rfl (lv_at hl 0 rfl) ?_
    refine x_cVi (As := [.ref hm, .int 3]) (rest := []) E (c_Ps_readNewName l g b0 _ hd hn eZ hpl hcn 3) wy_Ps_readNewName wl_Ps_47 hP hD hS eZ.1 rfl hl.1 ⟨by decide, by decide⟩ ⟨Nat.le_refl _, Nat.le_refl _⟩ rfl (Nat.le_of_ble_eq_true rfl) d_Ps_readPart_50 (fun r50 w3 H locs hr50 hP hD hS => ?_)
    obtain ⟨rfl, hq, eZ, hpl, hcn⟩ := hr50
    have hQ := hQ.tr hq
    have hc9 := ps_name_cn (f := f) (n := n) (kd := 3) (z := (z.1 + 1, z.2))
    refine lv_if_eq (tgt := 148) hx hb d_Ps_readPart_53 (by decide) (fun c53 => ?_) (fun c53 => ?_)
    · refine lv_iconst (v := 0) hx hb d_Ps_readPart_148 (by decide) ?_
      exact x_rz E hr hS rfl (by rw [ps_part, if_neg (by rw [hk0]; decide), hk0, show ((3 : Int32)).toNatClampNeg = 3 from rfl, ps_p1, ps_and, if_pos c53]; exact ⟨rfl, hQ, eZ, hpl, hcn⟩) hP hD d_Ps_readPart_149
    · have hc1 := hc9.2 c53
      replace hc1 := Nat.le_of_eq hc1.symm
      replace hc1 := Nat.le_trans (Nat.le_add_left 1 _) hc1
      refine lv_aload_n hx hb d_Ps_readPart_56 rfl (lv_at hl 1 rfl) ?_
      refine lv_aload_n hx hb d_Ps_readPart_57 rfl (lv_at hl 2 rfl) ?_
      refine lv_bipush (v := 61) hx hb d_Ps_readPart_58 (by decide) ?_
      refine lv_iconst (v := 2) hx hb d_Ps_readPart_60 (by decide) ?_
      refine x_gets_A_Ps E hS d_Ps_readPart_61 ?_
      refine lv_iload_n hx hb d_Ps_readPart_64 rfl (lv_at hl 0 rfl) ?_
      refine x_tab_A E hS rfl (by decide) d_Ps_readPart_65 ?_
      refine x_gets_B_Ps E hS d_Ps_readPart_66 ?_
      refine lv_iload_n hx hb d_Ps_readPart_69 rfl (lv_at hl 0 rfl) ?_
      refine x_tab_B E hS rfl (by decide) d_Ps_readPart_70 ?_
      refine x_cVi (As := [.ref hm, .int 61, .int 2, .int (xLo 3), .int (xHi 3)]) (rest := []) E (c_Ps_readValue l g b0 _ hd hn eZ hpl hcn hc1 61 2 (xLo 3) (xHi 3) (by decide) 2 rfl (by decide)) wy_Ps_readValue wl_Ps_51 hP hD hS eZ.1 rfl hl.1 ⟨by decide, by decide⟩ ⟨Nat.le_refl _, Nat.le_refl _⟩ rfl (Nat.le_of_ble_eq_true rfl) d_Ps_readPart_71 (fun r71 w4 H locs hr71 hP hD hS => ?_)
      obtain ⟨rfl, hq, eZ, hpl, hcn⟩ := hr71
      have hQ := hQ.tr hq
      have hc1 : 1 ≤ (ps_value f n 61 2 (xLo 3) (xHi 3) ((ps_name f n 3 (z.1 + 1, z.2)).2)).2.2.2.2 := by rw [ps_value_cn]; exact hc1
      refine lv_if_eq (tgt := 148) hx hb d_Ps_readPart_74 (by decide) (fun c74 => ?_) (fun c74 => ?_)
      · refine lv_iconst (v := 0) hx hb d_Ps_readPart_148 (by decide) ?_
        exact x_rz E hr hS rfl (by rw [ps_part, if_neg (by rw [hk0]; decide), hk0, show ((3 : Int32)).toNatClampNeg = 3 from rfl, ps_p1, ps_and, if_neg c53, ps_p2, ps_and, if_pos c74]; exact ⟨rfl, hQ, eZ, hpl, hcn⟩) hP hD d_Ps_readPart_149
      · refine lv_iload_n hx hb d_Ps_readPart_77 rfl (lv_at hl 0 rfl) ?_
        refine lv_iconst (v := 1) hx hb d_Ps_readPart_78 (by decide) ?_
        refine lv_icmp_ne (tgt := 97) hx hb d_Ps_readPart_79 (by decide) (fun c79 => ?_) (fun c79 => absurd c79 (by decide))
        refine lv_iload_n hx hb d_Ps_readPart_97 rfl (lv_at hl 0 rfl) ?_
        refine lv_iconst (v := 4) hx hb d_Ps_readPart_98 (by decide) ?_
        refine lv_icmp_eq (tgt := 116) hx hb d_Ps_readPart_99 (by decide) (fun c99 => absurd c99 (by decide)) (fun c99 => ?_)
        refine lv_aload_n hx hb d_Ps_readPart_102 rfl (lv_at hl 1 rfl) ?_
        refine lv_aload_n hx hb d_Ps_readPart_103 rfl (lv_at hl 2 rfl) ?_
        refine lv_bipush (v := 62) hx hb d_Ps_readPart_104 (by decide) ?_
        refine lv_iconst (v := 4) hx hb d_Ps_readPart_106 (by decide) ?_
        refine lv_iconst (v := 0) hx hb d_Ps_readPart_107 (by decide) ?_
        refine lv_bipush (v := 29) hx hb d_Ps_readPart_108 (by decide) ?_
        refine x_cVi (As := [.ref hm, .int 62, .int 4, .int 0, .int 29]) (rest := []) E (c_Ps_readValue l g b0 _ hd hn eZ hpl hcn hc1 62 4 0 29 (by decide) 4 rfl (by decide)) wy_Ps_readValue wl_Ps_51 hP hD hS eZ.1 rfl hl.1 ⟨by decide, by decide⟩ ⟨Nat.le_refl _, Nat.le_refl _⟩ rfl (Nat.le_of_ble_eq_true rfl) d_Ps_readPart_110 (fun r110 w5 H locs hr110 hP hD hS => ?_)
        obtain ⟨rfl, hq, eZ, hpl, hcn⟩ := hr110
        have hQ := hQ.tr hq
        have hc1 : 1 ≤ (ps_value f n 62 4 0 29 ((ps_value f n 61 2 (xLo 3) (xHi 3) ((ps_name f n 3 (z.1 + 1, z.2)).2)).2)).2.2.2.2 := by rw [ps_value_cn]; exact hc1
        refine lv_if_eq (tgt := 148) hx hb d_Ps_readPart_113 (by decide) (fun c113 => ?_) (fun c113 => ?_)
        · refine lv_iconst (v := 0) hx hb d_Ps_readPart_148 (by decide) ?_
          exact x_rz E hr hS rfl (by rw [ps_part, if_neg (by rw [hk0]; decide), hk0, show ((3 : Int32)).toNatClampNeg = 3 from rfl, ps_p1, ps_and, if_neg c53, ps_p2, ps_and, if_neg c74, ps_p3, if_neg (by decide), ps_and, if_neg (by decide), ps_p4, if_neg (by decide), ps_and, if_pos c113]; exact ⟨rfl, hQ, eZ, hpl, hcn⟩) hP hD d_Ps_readPart_149
        · refine lv_iload_n hx hb d_Ps_readPart_116 rfl (lv_at hl 0 rfl) ?_
          refine lv_iconst (v := 3) hx hb d_Ps_readPart_117 (by decide) ?_
          refine lv_icmp_ne (tgt := 135) hx hb d_Ps_readPart_118 (by decide) (fun c118 => absurd (by decide) c118) (fun c118 => ?_)
          refine lv_aload_n hx hb d_Ps_readPart_121 rfl (lv_at hl 1 rfl) ?_
          refine lv_aload_n hx hb d_Ps_readPart_122 rfl (lv_at hl 2 rfl) ?_
          refine lv_bipush (v := 44) hx hb d_Ps_readPart_123 (by decide) ?_
          refine lv_iconst (v := 5) hx hb d_Ps_readPart_125 (by decide) ?_
          refine lv_iconst (v := 0) hx hb d_Ps_readPart_126 (by decide) ?_
          refine lv_bipush (v := 29) hx hb d_Ps_readPart_127 (by decide) ?_
          refine x_cVi (As := [.ref hm, .int 44, .int 5, .int 0, .int 29]) (rest := []) E (c_Ps_readValue l g b0 _ hd hn eZ hpl hcn hc1 44 5 0 29 (by decide) 5 rfl (by decide)) wy_Ps_readValue wl_Ps_51 hP hD hS eZ.1 rfl hl.1 ⟨by decide, by decide⟩ ⟨Nat.le_refl _, Nat.le_refl _⟩ rfl (Nat.le_of_ble_eq_true rfl) d_Ps_readPart_129 (fun r129 w6 H locs hr129 hP hD hS => ?_)
          obtain ⟨rfl, hq, eZ, hpl, hcn⟩ := hr129
          have hQ := hQ.tr hq
          have hc1 : 1 ≤ (ps_value f n 44 5 0 29 ((ps_value f n 62 4 0 29 ((ps_value f n 61 2 (xLo 3) (xHi 3) ((ps_name f n 3 (z.1 + 1, z.2)).2)).2)).2)).2.2.2.2 := by rw [ps_value_cn]; exact hc1
          refine lv_if_eq (tgt := 148) hx hb d_Ps_readPart_132 (by decide) (fun c132 => ?_) (fun c132 => ?_)
          · refine lv_iconst (v := 0) hx hb d_Ps_readPart_148 (by decide) ?_
            exact x_rz E hr hS rfl (by rw [ps_part, if_neg (by rw [hk0]; decide), hk0, show ((3 : Int32)).toNatClampNeg = 3 from rfl, ps_p1, ps_and, if_neg c53, ps_p2, ps_and, if_neg c74, ps_p3, if_neg (by decide), ps_and, if_neg (by decide), ps_p4, if_neg (by decide), ps_and, if_neg c113, ps_p5, if_pos rfl, ps_and, if_pos c132]; exact ⟨rfl, hQ, eZ, hpl, hcn⟩) hP hD d_Ps_readPart_149
          · refine lv_aload_n hx hb d_Ps_readPart_135 rfl (lv_at hl 1 rfl) ?_
            refine lv_bipush (v := 59) hx hb d_Ps_readPart_136 (by decide) ?_
            refine x_cVi (As := [.int 59]) (rest := []) E (c_Ps_skip l g b0 _ hd hn eZ hpl hcn 59 (by decide)) wy_Ps_skip wl_Ps_55 hP hD hS eZ.1 rfl hl.1 ⟨by decide, by decide⟩ ⟨Nat.le_refl _, Nat.le_refl _⟩ rfl (Nat.le_of_ble_eq_true rfl) d_Ps_readPart_138 (fun r138 w7 H locs hr138 hP hD hS => ?_)
            obtain ⟨rfl, hq, eZ, hpl, hcn⟩ := hr138
            have hQ := hQ.tr hq
            refine lv_if_eq (tgt := 148) hx hb d_Ps_readPart_141 (by decide) (fun c141 => ?_) (fun c141 => ?_)
            · refine lv_iconst (v := 0) hx hb d_Ps_readPart_148 (by decide) ?_
              exact x_rz E hr hS rfl (by rw [ps_part, if_neg (by rw [hk0]; decide), hk0, show ((3 : Int32)).toNatClampNeg = 3 from rfl, ps_p1, ps_and, if_neg c53, ps_p2, ps_and, if_neg c74, ps_p3, if_neg (by decide), ps_and, if_neg (by decide), ps_p4, if_neg (by decide), ps_and, if_neg c113, ps_p5, if_pos rfl, ps_and, if_neg c132]; exact ⟨c141.symm, hQ, eZ, hpl, hcn⟩) hP hD d_Ps_readPart_149
            · refine lv_iconst (v := 1) hx hb d_Ps_readPart_144 (by decide) ?_
              refine lv_goto (tgt := 149) hx hb d_Ps_readPart_145 (by decide) ?_
              exact x_rz E hr hS rfl (by rw [ps_part, if_neg (by rw [hk0]; decide), hk0, show ((3 : Int32)).toNatClampNeg = 3 from rfl, ps_p1, ps_and, if_neg c53, ps_p2, ps_and, if_neg c74, ps_p3, if_neg (by decide), ps_and, if_neg (by decide), ps_p4, if_neg (by decide), ps_and, if_neg c113, ps_p5, if_pos rfl, ps_and, if_neg c132]; exact ⟨((ps_skip_01 f n 59 _).resolve_left c141).symm, hQ, eZ, hpl, hcn⟩) hP hD d_Ps_readPart_149
  · refine x_top (y := 4) hk0 ?_
    refine lv_istore_n (lv' := [(2, .int 4), (0, .ref hp), (1, .ref hm)]) hx hb d_Ps_readPart_14 rfl hl (by decide) rfl (fun ls hl => ?_)
    refine lv_iload_n hx hb d_Ps_readPart_15 rfl (lv_at hl 0 rfl) ?_
    refine lv_if_lt (tgt := 35) hx hb d_Ps_readPart_16 (by decide) (fun c16 => absurd c16 (by decide)) (fun c16 => ?_)
    refine lv_iload_n hx hb d_Ps_readPart_19 rfl (lv_at hl 0 rfl) ?_
    refine x_gets_A_Ps E hS d_Ps_readPart_20 ?_
    refine x_len_A E hS d_Ps_readPart_23 ?_
    refine lv_icmp_ge (tgt := 35) hx hb d_Ps_readPart_24 (by decide) (fun c24 => absurd c24 (by decide)) (fun c24 => ?_)
    refine lv_iload_n hx hb d_Ps_readPart_27 rfl (lv_at hl 0 rfl) ?_
    refine x_gets_B_Ps E hS d_Ps_readPart_28 ?_
    refine x_len_B E hS d_Ps_readPart_31 ?_
    refine lv_icmp_lt (tgt := 37) hx hb d_Ps_readPart_32 (by decide) (fun c32 => ?_) (fun c32 => absurd (by decide) c32)
    refine lv_aload_n hx hb d_Ps_readPart_37 rfl (lv_at hl 1 rfl) ?_
    refine lv_dup hx hb d_Ps_readPart_38 rfl ?_
    refine x_get E hP eZ.1 rfl cl3_in 1 (by decide) wf_Ps_15 rfl d_Ps_readPart_39 ?_
    refine lv_iconst (v := 1) hx hb d_Ps_readPart_42 (by decide) ?_
    refine lv_iadd hx hb d_Ps_readPart_43 ?_
    refine x_top (y := nI (z.1 + 1)) (nI_1 z.1) ?_
    have hpl : z.1 + 1 ≤ n := tx_at_ne hpl hn (fun q => by rw [q, ps_kind_m1] at hk0; exact absurd hk0 (by decide))
    refine x_put E hP hD hS eZ.1 rfl cl3_in cl3_ty cl3_nm 1 (by decide) wf_Ps_15 rfl rfl rfl (Nat.le_of_ble_eq_true rfl) d_Ps_readPart_44 (fun w2 H locs hU2 hP hD hS => ?_)
    have hQ := hQ.up hU2
    have eZ := eZ.pl hd (p' := z.1 + 1) hU2
    refine lv_aload_n hx hb d_Ps_readPart_47 rfl (lv_at hl 1 rfl) ?_
    refine lv_aload_n hx hb d_Ps_readPart_48 rfl (lv_at hl 2 rfl) ?_
    refine lv_iload_n hx hb d_Ps_readPart_49 rfl (lv_at hl 0 rfl) ?_
    refine x_cVi (As := [.ref hm, .int 4]) (rest := []) E (c_Ps_readNewName l g b0 _ hd hn eZ hpl hcn 4) wy_Ps_readNewName wl_Ps_47 hP hD hS eZ.1 rfl hl.1 ⟨by decide, by decide⟩ ⟨Nat.le_refl _, Nat.le_refl _⟩ rfl (Nat.le_of_ble_eq_true rfl) d_Ps_readPart_50 (fun r50 w3 H locs hr50 hP hD hS => ?_)
    obtain ⟨rfl, hq, eZ, hpl, hcn⟩ := hr50
    have hQ := hQ.tr hq
    have hc9 := ps_name_cn (f := f) (n := n) (kd := 4) (z := (z.1 + 1, z.2))
    refine lv_if_eq (tgt := 148) hx hb d_Ps_readPart_53 (by decide) (fun c53 => ?_) (fun c53 => ?_)
    · refine lv_iconst (v := 0) hx hb d_Ps_readPart_148 (by decide) ?_
      exact x_rz E hr hS rfl (by rw [ps_part, if_neg (by rw [hk0]; decide), hk0, show ((4 : Int32)).toNatClampNeg = 4 from rfl, ps_p1, ps_and, if_pos c53]; exact ⟨rfl, hQ, eZ, hpl, hcn⟩) hP hD d_Ps_readPart_149
    · have hc1 := hc9.2 c53
      replace hc1 := Nat.le_of_eq hc1.symm
      replace hc1 := Nat.le_trans (Nat.le_add_left 1 _) hc1
      refine lv_aload_n hx hb d_Ps_readPart_56 rfl (lv_at hl 1 rfl) ?_
      refine lv_aload_n hx hb d_Ps_readPart_57 rfl (lv_at hl 2 rfl) ?_
      refine lv_bipush (v := 61) hx hb d_Ps_readPart_58 (by decide) ?_
      refine lv_iconst (v := 2) hx hb d_Ps_readPart_60 (by decide) ?_
      refine x_gets_A_Ps E hS d_Ps_readPart_61 ?_
      refine lv_iload_n hx hb d_Ps_readPart_64 rfl (lv_at hl 0 rfl) ?_
      refine x_tab_A E hS rfl (by decide) d_Ps_readPart_65 ?_
      refine x_gets_B_Ps E hS d_Ps_readPart_66 ?_
      refine lv_iload_n hx hb d_Ps_readPart_69 rfl (lv_at hl 0 rfl) ?_
      refine x_tab_B E hS rfl (by decide) d_Ps_readPart_70 ?_
      refine x_cVi (As := [.ref hm, .int 61, .int 2, .int (xLo 4), .int (xHi 4)]) (rest := []) E (c_Ps_readValue l g b0 _ hd hn eZ hpl hcn hc1 61 2 (xLo 4) (xHi 4) (by decide) 2 rfl (by decide)) wy_Ps_readValue wl_Ps_51 hP hD hS eZ.1 rfl hl.1 ⟨by decide, by decide⟩ ⟨Nat.le_refl _, Nat.le_refl _⟩ rfl (Nat.le_of_ble_eq_true rfl) d_Ps_readPart_71 (fun r71 w4 H locs hr71 hP hD hS => ?_)
      obtain ⟨rfl, hq, eZ, hpl, hcn⟩ := hr71
      have hQ := hQ.tr hq
      have hc1 : 1 ≤ (ps_value f n 61 2 (xLo 4) (xHi 4) ((ps_name f n 4 (z.1 + 1, z.2)).2)).2.2.2.2 := by rw [ps_value_cn]; exact hc1
      refine lv_if_eq (tgt := 148) hx hb d_Ps_readPart_74 (by decide) (fun c74 => ?_) (fun c74 => ?_)
      · refine lv_iconst (v := 0) hx hb d_Ps_readPart_148 (by decide) ?_
        exact x_rz E hr hS rfl (by rw [ps_part, if_neg (by rw [hk0]; decide), hk0, show ((4 : Int32)).toNatClampNeg = 4 from rfl, ps_p1, ps_and, if_neg c53, ps_p2, ps_and, if_pos c74]; exact ⟨rfl, hQ, eZ, hpl, hcn⟩) hP hD d_Ps_readPart_149
      · refine lv_iload_n hx hb d_Ps_readPart_77 rfl (lv_at hl 0 rfl) ?_
        refine lv_iconst (v := 1) hx hb d_Ps_readPart_78 (by decide) ?_
        refine lv_icmp_ne (tgt := 97) hx hb d_Ps_readPart_79 (by decide) (fun c79 => ?_) (fun c79 => absurd c79 (by decide))
        refine lv_iload_n hx hb d_Ps_readPart_97 rfl (lv_at hl 0 rfl) ?_
        refine lv_iconst (v := 4) hx hb d_Ps_readPart_98 (by decide) ?_
        refine lv_icmp_eq (tgt := 116) hx hb d_Ps_readPart_99 (by decide) (fun c99 => ?_) (fun c99 => absurd (by decide) c99)
        refine lv_iload_n hx hb d_Ps_readPart_116 rfl (lv_at hl 0 rfl) ?_
        refine lv_iconst (v := 3) hx hb d_Ps_readPart_117 (by decide) ?_
        refine lv_icmp_ne (tgt := 135) hx hb d_Ps_readPart_118 (by decide) (fun c118 => ?_) (fun c118 => absurd c118 (by decide))
        refine lv_aload_n hx hb d_Ps_readPart_135 rfl (lv_at hl 1 rfl) ?_
        refine lv_bipush (v := 59) hx hb d_Ps_readPart_136 (by decide) ?_
        refine x_cVi (As := [.int 59]) (rest := []) E (c_Ps_skip l g b0 _ hd hn eZ hpl hcn 59 (by decide)) wy_Ps_skip wl_Ps_55 hP hD hS eZ.1 rfl hl.1 ⟨by decide, by decide⟩ ⟨Nat.le_refl _, Nat.le_refl _⟩ rfl (Nat.le_of_ble_eq_true rfl) d_Ps_readPart_138 (fun r138 w5 H locs hr138 hP hD hS => ?_)
        obtain ⟨rfl, hq, eZ, hpl, hcn⟩ := hr138
        have hQ := hQ.tr hq
        refine lv_if_eq (tgt := 148) hx hb d_Ps_readPart_141 (by decide) (fun c141 => ?_) (fun c141 => ?_)
        · refine lv_iconst (v := 0) hx hb d_Ps_readPart_148 (by decide) ?_
          exact x_rz E hr hS rfl (by rw [ps_part, if_neg (by rw [hk0]; decide), hk0, show ((4 : Int32)).toNatClampNeg = 4 from rfl, ps_p1, ps_and, if_neg c53, ps_p2, ps_and, if_neg c74, ps_p3, if_neg (by decide), ps_and, if_neg (by decide), ps_p4, if_pos rfl, ps_and, if_neg (by decide), ps_p5, if_neg (by decide), ps_and, if_neg (by decide)]; exact ⟨c141.symm, hQ, eZ, hpl, hcn⟩) hP hD d_Ps_readPart_149
        · refine lv_iconst (v := 1) hx hb d_Ps_readPart_144 (by decide) ?_
          refine lv_goto (tgt := 149) hx hb d_Ps_readPart_145 (by decide) ?_
          exact x_rz E hr hS rfl (by rw [ps_part, if_neg (by rw [hk0]; decide), hk0, show ((4 : Int32)).toNatClampNeg = 4 from rfl, ps_p1, ps_and, if_neg c53, ps_p2, ps_and, if_neg c74, ps_p3, if_neg (by decide), ps_and, if_neg (by decide), ps_p4, if_pos rfl, ps_and, if_neg (by decide), ps_p5, if_neg (by decide), ps_and, if_neg (by decide)]; exact ⟨((ps_skip_01 f n 59 _).resolve_left c141).symm, hQ, eZ, hpl, hcn⟩) hP hD d_Ps_readPart_149
def ps_loop (f : Nat → Int32) (n : Nat) : Nat → Int32 × ps_S → Int32 × ps_S
  | 0, a => a
  | k + 1, a => if a.1 = 0 then a else if n ≤ a.2.1 then a else ps_loop f n k (ps_part f n a.2)
def ps_end (n : Nat) (a : Int32 × ps_S) : Int32 × ps_S := if a.1 = 0 then (0, a.2) else if a.2.1 = n then (1, a.2) else (0, a.2)
def ps_parts (f : Nat → Int32) (n : Nat) (z : ps_S) : Int32 × ps_S := ps_end n (ps_loop f n 23 (ps_part f n z))
set_option maxRecDepth 100000 in
set_option maxHeartbeats 4000000 in
theorem c_Ps_readParts (l : Launch) (g : xG) (b0 : Nat) (ws : va_W) {qp qt qm hp ht ta n hm om dm : Nat} {f : Nat → Int32} {rm : Nat → Nat} (hd : xAp qp qt qm) (hn : n ≤ 300) {z : ps_S} (eZ : xPz g ws qp qt qm hp ht ta f n hm om dm rm z) (hpl : z.1 ≤ n) (hcn : z.2.2.2 ≤ 24) : xMi l g b0 y_Ps_readParts b_Ps_readParts 4 (some .boolean) 4 [.ref hp, .ref hm] ws (fun r u => ∃ ix0, (∀ j, j < 30 → ix0 j = -1) ∧ r = (ps_parts f n (0, z.2.1, ix0, 0)).1 ∧ xQ2 qp qm ws u ∧ xPz g u qp qt qm hp ht ta f n hm om dm rm ((ps_parts f n (0, z.2.1, ix0, 0)).2) ∧ (ps_parts f n (0, z.2.1, ix0, 0)).2.1 ≤ n ∧ (ps_parts f n (0, z.2.1, ix0, 0)).2.2.2.2 ≤ 24) := by
  unfold xMi
  refine x_in (by decide) (Nat.le_of_ble_eq_true rfl) ?_
  intro p e s m below meth c ls E hr hin hP hD hl
  obtain ⟨hx, hb, hml, hown, hts, hK, hZ, hb0, hlocks⟩ := id E
  have hS : va_S (xA b0) s.heap s.heap [] := va_S.rf
  have hl : lv_has ls 4 [(0, .ref hp), (1, .ref hm)] := hl
  have hQ : xQ2 qp qm ws ws := xQ2.rf
  refine lv_aload_n hx hb d_Ps_readParts_0 rfl (lv_at hl 1 rfl) ?_
  refine x_cVv (As := []) (rest := []) E (c_Mc_clear l g b0 _ eZ.2.2 hcn) wy_Mc_clear wl_Ps_19 hP hD hS eZ.2.2.1 rfl hl.1 ⟨by decide, by decide⟩ ⟨Nat.le_refl _, Nat.le_refl _⟩ rfl (Nat.le_of_ble_eq_true rfl) d_Ps_readParts_1 (fun w1 H locs hr1 hP hD hS => ?_)
  obtain ⟨hq, ix0, eM, hix0⟩ := hr1
  have hQ := hQ.mc hq
  have eZ := eZ.mc hd hq eM
  refine lv_aload_n hx hb d_Ps_readParts_4 rfl (lv_at hl 0 rfl) ?_
  refine lv_iconst (v := 0) hx hb d_Ps_readParts_5 (by decide) ?_
  refine x_put E hP hD hS eZ.1 rfl cl3_in cl3_ty cl3_nm 1 (by decide) wf_Ps_15 rfl rfl rfl (Nat.le_of_ble_eq_true rfl) d_Ps_readParts_6 (fun w2 H locs hU2 hP hD hS => ?_)
  have hQ := hQ.up hU2
  have eZ := eZ.pl hd (p' := 0) hU2
  refine lv_aload_n hx hb d_Ps_readParts_9 rfl (lv_at hl 0 rfl) ?_
  refine lv_aload_n hx hb d_Ps_readParts_10 rfl (lv_at hl 1 rfl) ?_
  refine x_cVi (As := [.ref hm]) (rest := []) E (c_Ps_readPart l g b0 _ hd hn eZ (Nat.zero_le _) (by decide)) wy_Ps_readPart wl_Ps_24 hP hD hS eZ.1 rfl hl.1 ⟨by decide, by decide⟩ ⟨Nat.le_refl _, Nat.le_refl _⟩ rfl (Nat.le_of_ble_eq_true rfl) d_Ps_readParts_11 (fun r11 w3 H locs hr11 hP hD hS => ?_)
  obtain ⟨rfl, hq, eZ, hpl, hcn⟩ := hr11
  have hQ := hQ.tr hq
  have hc9 : (ps_part f n (0, z.2.1, ix0, 0)).2.2.2.2 ≤ 1 := ps_part_cn (f := f) (n := n) (z := (0, z.2.1, ix0, 0))
  refine lv_istore_n (lv' := [(2, .int ((ps_part f n (0, z.2.1, ix0, 0)).1)), (0, .ref hp), (1, .ref hm)]) hx hb d_Ps_readParts_14 rfl hl (by decide) rfl (fun ls hl => ?_)
  refine lv_iconst (v := 1) hx hb d_Ps_readParts_15 (by decide) ?_
  refine lv_istore_n (lv' := [(3, .int 1), (2, .int ((ps_part f n (0, z.2.1, ix0, 0)).1)), (0, .ref hp), (1, .ref hm)]) hx hb d_Ps_readParts_16 rfl hl (by decide) rfl (fun ls hl => ?_)
  have loop : ∀ (k i : Nat) (a : Int32 × ps_S) (v : va_W) (H : Heap) (locs : List Loc) (ls : Array Slot), (24 < i + k) → (1 ≤ i ∧ i ≤ 24) → (a.2.1 ≤ n) → (a.2.2.2.2 ≤ i) → (ps_loop f n 23 (ps_part f n (0, z.2.1, ix0, 0)) = ps_loop f n (24 - i) a) → (lv_has ls 4 [(3, .int (nI i)), (2, .int a.1), (0, .ref hp), (1, .ref hm)]) → (va_P (xD g) vwCl v H) → (va_D (xA b0) v) → (va_S (xA b0) s.heap H locs) → (xQ2 qp qm ws v) → (xPz g v qp qt qm hp ht ta f n hm om dm rm a.2) → W p l e (rmL 4) s m ([.ref hp, .ref hm] : List Value).toArray below meth c H locs 0 0 (MQ below (va_Qi (fun r u => ∃ ix0, (∀ j, j < 30 → ix0 j = -1) ∧ r = (ps_parts f n (0, z.2.1, ix0, 0)).1 ∧ xQ2 qp qm ws u ∧ xPz g u qp qt qm hp ht ta f n hm om dm rm ((ps_parts f n (0, z.2.1, ix0, 0)).2) ∧ (ps_parts f n (0, z.2.1, ix0, 0)).2.1 ≤ n ∧ (ps_parts f n (0, z.2.1, ix0, 0)).2.2.2.2 ≤ 24) (fun u t => va_P (xD g) vwCl u t.heap ∧ va_D (xA b0) u) (xA b0)) ([.ref hp, .ref hm] : List Value).toArray s 0 0 (xA b0)) (F0 m 17 ls []) := by
    intro k
    induction k with
    | zero =>
      intro i a v H locs ls hk hi hpl hcn hv hl hP hD hS hQ eZ
      omega
    | succ k ih =>
      intro i a v H locs ls hk hi hpl hcn hv hl hP hD hS hQ eZ
      refine lv_iload_n hx hb d_Ps_readParts_17 rfl (lv_at hl 0 rfl) ?_
      refine lv_bipush (v := 24) hx hb d_Ps_readParts_18 (by decide) ?_
      refine lv_icmp_ge (tgt := 53) hx hb d_Ps_readParts_20 (by decide) (fun c20 => ?_) (fun c20 => ?_)
      · have hi9 : i = 24 := by
          have := (nI_leI (a := 24) (by decide) (by omega)).mp c20
          omega
        rw [hi9] at hv
        have hv : ps_loop f n 23 (ps_part f n (0, z.2.1, ix0, 0)) = a := hv
        refine lv_iload_n hx hb d_Ps_readParts_53 rfl (lv_at hl 1 rfl) ?_
        refine lv_if_eq (tgt := 75) hx hb d_Ps_readParts_54 (by decide) (fun c54 => ?_) (fun c54 => ?_)
        · refine lv_iconst (v := 0) hx hb d_Ps_readParts_75 (by decide) ?_
          exact x_rz E hr hS rfl ⟨ix0, hix0, by rw [ps_parts, hv, ps_end, if_pos c54]; exact ⟨rfl, hQ, eZ, hpl, by omega⟩⟩ hP hD d_Ps_readParts_76
        · refine lv_aload_n hx hb d_Ps_readParts_57 rfl (lv_at hl 2 rfl) ?_
          refine x_get E hP eZ.1 rfl cl3_in 1 (by decide) wf_Ps_15 rfl d_Ps_readParts_58 ?_
          refine lv_aload_n hx hb d_Ps_readParts_61 rfl (lv_at hl 2 rfl) ?_
          refine x_get E hP eZ.1 rfl cl3_in 0 (by decide) wf_Ps_9 rfl d_Ps_readParts_62 ?_
          refine x_get E hP eZ.2.1.1 rfl cl1_in 1 (by decide) wf_Ps_28 rfl d_Ps_readParts_65 ?_
          refine lv_icmp_ne (tgt := 75) hx hb d_Ps_readParts_68 (by decide) (fun c68 => ?_) (fun c68 => ?_)
          · have h68 : ¬ a.2.1 = n := fun h => c68 (by rw [h])
            refine lv_iconst (v := 0) hx hb d_Ps_readParts_75 (by decide) ?_
            exact x_rz E hr hS rfl ⟨ix0, hix0, by rw [ps_parts, hv, ps_end, if_neg c54, if_neg h68]; exact ⟨rfl, hQ, eZ, hpl, by omega⟩⟩ hP hD d_Ps_readParts_76
          · have h68 : a.2.1 = n := (nI_eq (by omega) (by omega)).mp c68
            refine lv_iconst (v := 1) hx hb d_Ps_readParts_71 (by decide) ?_
            refine lv_goto (tgt := 76) hx hb d_Ps_readParts_72 (by decide) ?_
            exact x_rz E hr hS rfl ⟨ix0, hix0, by rw [ps_parts, hv, ps_end, if_neg c54, if_pos h68]; exact ⟨rfl, hQ, eZ, hpl, by omega⟩⟩ hP hD d_Ps_readParts_76
      · have hi9 : i < 24 := Nat.not_le.mp fun h => c20 (nI_le (a := 24) h (by omega))
        rw [show 24 - i = (24 - (i + 1)) + 1 by omega] at hv
        refine lv_iload_n hx hb d_Ps_readParts_23 rfl (lv_at hl 1 rfl) ?_
        refine lv_if_eq (tgt := 53) hx hb d_Ps_readParts_24 (by decide) (fun c24 => ?_) (fun c24 => ?_)
        · have hv : ps_loop f n 23 (ps_part f n (0, z.2.1, ix0, 0)) = a := by rw [hv, ps_loop, if_pos c24]
          refine lv_iload_n hx hb d_Ps_readParts_53 rfl (lv_at hl 1 rfl) ?_
          refine lv_if_eq (tgt := 75) hx hb d_Ps_readParts_54 (by decide) (fun c54 => ?_) (fun c54 => ?_)
          · refine lv_iconst (v := 0) hx hb d_Ps_readParts_75 (by decide) ?_
            exact x_rz E hr hS rfl ⟨ix0, hix0, by rw [ps_parts, hv, ps_end, if_pos c54]; exact ⟨rfl, hQ, eZ, hpl, by omega⟩⟩ hP hD d_Ps_readParts_76
          · refine lv_aload_n hx hb d_Ps_readParts_57 rfl (lv_at hl 2 rfl) ?_
            refine x_get E hP eZ.1 rfl cl3_in 1 (by decide) wf_Ps_15 rfl d_Ps_readParts_58 ?_
            refine lv_aload_n hx hb d_Ps_readParts_61 rfl (lv_at hl 2 rfl) ?_
            refine x_get E hP eZ.1 rfl cl3_in 0 (by decide) wf_Ps_9 rfl d_Ps_readParts_62 ?_
            refine x_get E hP eZ.2.1.1 rfl cl1_in 1 (by decide) wf_Ps_28 rfl d_Ps_readParts_65 ?_
            refine lv_icmp_ne (tgt := 75) hx hb d_Ps_readParts_68 (by decide) (fun c68 => ?_) (fun c68 => ?_)
            · have h68 : ¬ a.2.1 = n := fun h => c68 (by rw [h])
              refine lv_iconst (v := 0) hx hb d_Ps_readParts_75 (by decide) ?_
              exact x_rz E hr hS rfl ⟨ix0, hix0, by rw [ps_parts, hv, ps_end, if_neg c54, if_neg h68]; exact ⟨rfl, hQ, eZ, hpl, by omega⟩⟩ hP hD d_Ps_readParts_76
            · have h68 : a.2.1 = n := (nI_eq (by omega) (by omega)).mp c68
              refine lv_iconst (v := 1) hx hb d_Ps_readParts_71 (by decide) ?_
              refine lv_goto (tgt := 76) hx hb d_Ps_readParts_72 (by decide) ?_
              exact x_rz E hr hS rfl ⟨ix0, hix0, by rw [ps_parts, hv, ps_end, if_neg c54, if_pos h68]; exact ⟨rfl, hQ, eZ, hpl, by omega⟩⟩ hP hD d_Ps_readParts_76
        · refine lv_aload_n hx hb d_Ps_readParts_27 rfl (lv_at hl 2 rfl) ?_
          refine x_get E hP eZ.1 rfl cl3_in 1 (by decide) wf_Ps_15 rfl d_Ps_readParts_28 ?_
          refine lv_aload_n hx hb d_Ps_readParts_31 rfl (lv_at hl 2 rfl) ?_
          refine x_get E hP eZ.1 rfl cl3_in 0 (by decide) wf_Ps_9 rfl d_Ps_readParts_32 ?_
          refine x_get E hP eZ.2.1.1 rfl cl1_in 1 (by decide) wf_Ps_28 rfl d_Ps_readParts_35 ?_
          refine lv_icmp_ge (tgt := 53) hx hb d_Ps_readParts_38 (by decide) (fun c38 => ?_) (fun c38 => ?_)
          · have h38 : n ≤ a.2.1 := (nI_leI (by omega) (by omega)).mp c38
            have hv : ps_loop f n 23 (ps_part f n (0, z.2.1, ix0, 0)) = a := by rw [hv, ps_loop, if_neg c24, if_pos h38]
            refine lv_iload_n hx hb d_Ps_readParts_53 rfl (lv_at hl 1 rfl) ?_
            refine lv_if_eq (tgt := 75) hx hb d_Ps_readParts_54 (by decide) (fun c54 => ?_) (fun c54 => ?_)
            · refine lv_iconst (v := 0) hx hb d_Ps_readParts_75 (by decide) ?_
              exact x_rz E hr hS rfl ⟨ix0, hix0, by rw [ps_parts, hv, ps_end, if_pos c54]; exact ⟨rfl, hQ, eZ, hpl, by omega⟩⟩ hP hD d_Ps_readParts_76
            · refine lv_aload_n hx hb d_Ps_readParts_57 rfl (lv_at hl 2 rfl) ?_
              refine x_get E hP eZ.1 rfl cl3_in 1 (by decide) wf_Ps_15 rfl d_Ps_readParts_58 ?_
              refine lv_aload_n hx hb d_Ps_readParts_61 rfl (lv_at hl 2 rfl) ?_
              refine x_get E hP eZ.1 rfl cl3_in 0 (by decide) wf_Ps_9 rfl d_Ps_readParts_62 ?_
              refine x_get E hP eZ.2.1.1 rfl cl1_in 1 (by decide) wf_Ps_28 rfl d_Ps_readParts_65 ?_
              refine lv_icmp_ne (tgt := 75) hx hb d_Ps_readParts_68 (by decide) (fun c68 => ?_) (fun c68 => ?_)
              · have h68 : ¬ a.2.1 = n := fun h => c68 (by rw [h])
                refine lv_iconst (v := 0) hx hb d_Ps_readParts_75 (by decide) ?_
                exact x_rz E hr hS rfl ⟨ix0, hix0, by rw [ps_parts, hv, ps_end, if_neg c54, if_neg h68]; exact ⟨rfl, hQ, eZ, hpl, by omega⟩⟩ hP hD d_Ps_readParts_76
              · have h68 : a.2.1 = n := (nI_eq (by omega) (by omega)).mp c68
                refine lv_iconst (v := 1) hx hb d_Ps_readParts_71 (by decide) ?_
                refine lv_goto (tgt := 76) hx hb d_Ps_readParts_72 (by decide) ?_
                exact x_rz E hr hS rfl ⟨ix0, hix0, by rw [ps_parts, hv, ps_end, if_neg c54, if_pos h68]; exact ⟨rfl, hQ, eZ, hpl, by omega⟩⟩ hP hD d_Ps_readParts_76
          · have h38 : ¬ n ≤ a.2.1 := fun h => c38 (nI_le h (by omega))
            have hv : ps_loop f n 23 (ps_part f n (0, z.2.1, ix0, 0)) = ps_loop f n (24 - (i + 1)) (ps_part f n a.2) := by rw [hv, ps_loop, if_neg c24, if_neg h38]
            have hc9 := ps_part_cn (f := f) (n := n) (z := a.2)
            refine lv_aload_n hx hb d_Ps_readParts_41 rfl (lv_at hl 2 rfl) ?_
            refine lv_aload_n hx hb d_Ps_readParts_42 rfl (lv_at hl 3 rfl) ?_
            refine x_cVi (As := [.ref hm]) (rest := []) E (c_Ps_readPart l g b0 _ hd hn eZ hpl (by omega)) wy_Ps_readPart wl_Ps_24 hP hD hS eZ.1 rfl hl.1 ⟨by decide, by decide⟩ ⟨Nat.le_refl _, Nat.le_refl _⟩ rfl (Nat.le_of_ble_eq_true rfl) d_Ps_readParts_43 (fun r43 w54 H locs hr43 hP hD hS => ?_)
            obtain ⟨rfl, hq, eZ, hpl, hcn⟩ := hr43
            have hQ := hQ.tr hq
            refine lv_istore_n (lv' := [(2, .int ((ps_part f n a.2).1)), (3, .int (nI i)), (0, .ref hp), (1, .ref hm)]) hx hb d_Ps_readParts_46 rfl hl (by decide) rfl (fun ls hl => ?_)
            refine lv_iinc (v := nI (i + 1)) (lv' := [(3, .int (nI (i + 1))), (2, .int ((ps_part f n a.2).1)), (0, .ref hp), (1, .ref hm)]) hx hb d_Ps_readParts_47 hl (k := 1) rfl (nI_1 i) (by decide) rfl (fun ls hl => ?_)
            refine lv_goto (tgt := 17) hx hb d_Ps_readParts_50 (by decide) ?_
            exact ih (i + 1) (ps_part f n a.2) _ _ _ _ (by omega) (by omega) hpl (by omega) hv hl hP hD hS hQ eZ
  exact loop 24 1 (ps_part f n (0, z.2.1, ix0, 0)) _ _ _ _ (by omega) (by omega) hpl hc9 rfl hl hP hD hS hQ eZ
