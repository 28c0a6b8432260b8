/-- the parser's state: its place; the machine that it fills: columns, names, count -/
abbrev ps_S : Type := Nat × (Nat → Nat → Int32) × (Nat → Int32) × Nat
def xPz (g : xG) (ws : va_W) (qp qt qm hp ht ta : Nat) (f : Nat → Int32) (n hm om dm : Nat) (rm : Nat → Nat) (z : ps_S) : Prop := ws[qp]? = some (hp, .inr (3, [.ref ht, .int (nI z.1)])) ∧ xText g ws qt ht ta f n ∧ xMach g ws qm hm om dm rm z.2.1 z.2.2.1 z.2.2.2
/-- apart: the parser's cell, its text, the machine -/
def xAp (qp qt qm : Nat) : Prop := (qt + 2 ≤ qm ∨ qm + 9 ≤ qt) ∧ (qp < qt ∨ qt + 2 ≤ qp) ∧ (qp < qm ∨ qm + 9 ≤ qp)
/-- only the parser's cell and the machine's have changed -/
def xQ2 (qp qm : Nat) (ws w1 : va_W) : Prop := ∀ k, k ≠ qp → (k < qm ∨ qm + 9 ≤ k) → w1[k]? = ws[k]?
theorem xQ2.rf {qp qm : Nat} {ws : va_W} : xQ2 qp qm ws ws := fun _ _ _ => rfl
theorem xQ2.tr {qp qm : Nat} {w0 w1 w2 : va_W} (h : xQ2 qp qm w0 w1) (h2 : xQ2 qp qm w1 w2) : xQ2 qp qm w0 w2 := fun k a b => (h2 k a b).trans (h k a b)
theorem xQ2.up {qp qm : Nat} {w0 w1 w2 : va_W} {x : Nat × va_E} (h : xQ2 qp qm w0 w1) (h2 : xU w1 qp x w2) : xQ2 qp qm w0 w2 := fun k a b => (h2.2 k a).trans (h k a b)
theorem xQ2.mc {qp qm : Nat} {w0 w1 w2 : va_W} (h : xQ2 qp qm w0 w1) (h2 : xQ qm (qm + 9) w1 w2) : xQ2 qp qm w0 w2 := fun k a b => (h2 k b).trans (h k a b)
section XPZ
variable {g : xG} {ws w1 : va_W} {qp qt qm hp ht ta n hm om dm : Nat} {f : Nat → Int32} {rm : Nat → Nat} {z : ps_S}
theorem xPz.pl (h : xPz g ws qp qt qm hp ht ta f n hm om dm rm z) (hd : xAp qp qt qm) {p' : Nat} (hU : xU ws qp (hp, .inr (3, [.ref ht, .int (nI p')])) w1) : xPz g w1 qp qt qm hp ht ta f n hm om dm rm (p', z.2) := by
  obtain ⟨h0, h1, h2⟩ := h
  obtain ⟨d1, d2, d3⟩ := hd
  exact ⟨hU.1, ⟨(hU.2 _ (by omega)).trans h1.1, (hU.2 _ (by omega)).trans h1.2⟩, ⟨(hU.2 _ (by omega)).trans h2.1, (hU.2 _ (by omega)).trans h2.2.1, (hU.2 _ (by omega)).trans h2.2.2.1, fun j hj => (hU.2 _ (by omega)).trans (h2.2.2.2 j hj)⟩⟩
theorem xPz.mc (h : xPz g ws qp qt qm hp ht ta f n hm om dm rm z) (hd : xAp qp qt qm) {M : Nat → Nat → Int32} {ix : Nat → Int32} {cn : Nat} (hQ : xQ qm (qm + 9) ws w1) (hM : xMach g w1 qm hm om dm rm M ix cn) : xPz g w1 qp qt qm hp ht ta f n hm om dm rm (z.1, M, ix, cn) := by
  obtain ⟨h0, h1, h2⟩ := h
  obtain ⟨d1, d2, d3⟩ := hd
  exact ⟨(hQ _ (by omega)).trans h0, h1.keep hQ (by omega), hM⟩
end XPZ
def ps_isd (c : Int32) : Int32 := if c < 48 then 0 else if 57 < c then 0 else 1
def ps_skip (f : Nat → Int32) (n : Nat) (c : Int32) (z : ps_S) : Int32 × ps_S := if tx_at f n (nI z.1) = c then (1, (z.1 + 1, z.2)) else (0, z)
def ps_dig (f : Nat → Int32) (n : Nat) : Nat → Nat → Int32 → Nat × Int32
  | 0, pl, v => (pl, v)
  | k + 1, pl, v => if ps_isd (tx_at f n (nI pl)) = 0 then (pl, v) else ps_dig f n k (pl + 1) (v * 10 + tx_at f n (nI pl) - 48)
def ps_num (f : Nat → Int32) (n : Nat) (lo hi : Int32) (z : ps_S) : Int32 × ps_S := if (ps_dig f n 4 z.1 0).1 = z.1 then (-1, z) else if (ps_dig f n 4 z.1 0).2 < lo then (-1, z) else if (ps_dig f n 4 z.1 0).2 ≤ hi then ((ps_dig f n 4 z.1 0).2, ((ps_dig f n 4 z.1 0).1, z.2)) else (-1, z)
theorem tx_at_lt {f : Nat → Int32} {n i : Nat} (hi : i < n) (hn : n ≤ 300) : tx_at f n (nI i) = f i := by
  rw [tx_at, if_neg (nI_pos (by omega)), if_neg (nI_ge hi (by omega)), nI_clamp (by omega)]
theorem tx_at_ge {f : Nat → Int32} {n i : Nat} (hi : n ≤ i) (hi2 : i ≤ 300) : tx_at f n (nI i) = -1 := by
  rw [tx_at, if_neg (nI_pos (by omega)), if_pos (nI_le hi (by omega))]
theorem tx_at_ne {f : Nat → Int32} {n i : Nat} (hi : i ≤ n) (hn : n ≤ 300) (h : ¬ tx_at f n (nI i) = -1) : i < n := by
  rcases Nat.lt_or_ge i n with q | q
  · exact q
  · exact absurd (tx_at_ge q (by omega)) h
theorem ps_dig_le {f : Nat → Int32} {n : Nat} (hn : n ≤ 300) : ∀ (k pl : Nat) (v : Int32), pl ≤ n → pl ≤ (ps_dig f n k pl v).1 ∧ (ps_dig f n k pl v).1 ≤ n
  | 0, pl, v, h => ⟨Nat.le_refl _, h⟩
  | k + 1, pl, v, h => by
    unfold ps_dig
    split
    · exact ⟨Nat.le_refl _, h⟩
    · rename_i h1
      have h2 : pl < n := tx_at_ne h hn (fun q => h1 (by rw [q]; decide))
      have h3 := ps_dig_le (f := f) hn k (pl + 1) (v * 10 + tx_at f n (nI pl) - 48) h2
      exact ⟨by omega, h3.2⟩
set_option maxRecDepth 100000 in
set_option maxHeartbeats 4000000 in
theorem c_Ps_isDigit (l : Launch) (g : xG) (b0 : Nat) (ws : va_W) (x : Int32) : xRi l g b0 y_Ps_isDigit b_Ps_isDigit 1 (some .boolean) 0 [.int x] ws (fun r => r = ps_isd x) := by
  unfold xRi
  refine x_in (by decide) (Nat.le_of_ble_eq_true rfl) ?_
  intro p e s m below meth c ls E hr hin hP hD hl
  obtain ⟨hx, hb, hml, hown, hts, hK, hZ, hb0, hlocks⟩ := id E
  have hS : va_S (xA b0) s.heap s.heap [] := va_S.rf
  have hl : lv_has ls 1 [(0, .int x)] := hl
  refine lv_iload_n hx hb d_Ps_isDigit_0 rfl (lv_at hl 0 rfl) ?_
  refine lv_bipush (v := 48) hx hb d_Ps_isDigit_1 (by decide) ?_
  refine lv_icmp_lt (tgt := 16) hx hb d_Ps_isDigit_3 (by decide) (fun c3 => ?_) (fun c3 => ?_)
  · refine lv_iconst (v := 0) hx hb d_Ps_isDigit_16 (by decide) ?_
    exact x_pz E hr rfl (by rw [ps_isd, if_pos c3]) d_Ps_isDigit_17
  · refine lv_iload_n hx hb d_Ps_isDigit_6 rfl (lv_at hl 0 rfl) ?_
    refine lv_bipush (v := 57) hx hb d_Ps_isDigit_7 (by decide) ?_
    refine lv_icmp_gt (tgt := 16) hx hb d_Ps_isDigit_9 (by decide) (fun c9 => ?_) (fun c9 => ?_)
    · refine lv_iconst (v := 0) hx hb d_Ps_isDigit_16 (by decide) ?_
      exact x_pz E hr rfl (by rw [ps_isd, if_neg c3, if_pos c9]) d_Ps_isDigit_17
    · refine lv_iconst (v := 1) hx hb d_Ps_isDigit_12 (by decide) ?_
      refine lv_goto (tgt := 17) hx hb d_Ps_isDigit_13 (by decide) ?_
      exact x_pz E hr rfl (by rw [ps_isd, if_neg c3, if_neg c9]) d_Ps_isDigit_17
def ps_kind (x : Int32) : Int32 := if xL 0 = x then 0 else if xL 1 = x then 1 else if xL 2 = x then 2 else if xL 3 = x then 3 else if xL 4 = x then 4 else -1
set_option maxRecDepth 100000 in
set_option maxHeartbeats 4000000 in
theorem c_Ps_kindOf (l : Launch) (g : xG) (b0 : Nat) (ws : va_W) (x : Int32) : xRi l g b0 y_Ps_kindOf b_Ps_kindOf 2 (some .int) 0 [.int x] ws (fun r => r = ps_kind x) := by
  unfold xRi
  refine x_in (by decide) (Nat.le_of_ble_eq_true rfl) ?_
  intro p e s m below meth c ls E hr hin hP hD hl
  obtain ⟨hx, hb, hml, hown, hts, hK, hZ, hb0, hlocks⟩ := id E
  have hS : va_S (xA b0) s.heap s.heap [] := va_S.rf
  have hl : lv_has ls 2 [(0, .int x)] := hl
  refine lv_iconst (v := 0) hx hb d_Ps_kindOf_0 (by decide) ?_
  refine lv_istore_n (lv' := [(1, .int 0), (0, .int x)]) hx hb d_Ps_kindOf_1 rfl hl (by decide) rfl (fun ls hl => ?_)
  refine lv_iload_n hx hb d_Ps_kindOf_2 rfl (lv_at hl 0 rfl) ?_
  refine x_gets_L_Ps E hS d_Ps_kindOf_3 ?_
  refine x_len_L E hS d_Ps_kindOf_6 ?_
  refine lv_icmp_ge (tgt := 27) hx hb d_Ps_kindOf_7 (by decide) (fun c7 => absurd c7 (by decide)) (fun c7 => ?_)
  refine x_gets_L_Ps E hS d_Ps_kindOf_10 ?_
  refine lv_iload_n hx hb d_Ps_kindOf_13 rfl (lv_at hl 0 rfl) ?_
  refine x_tab_L E hS rfl (by decide) d_Ps_kindOf_14 ?_
  refine lv_iload_n hx hb d_Ps_kindOf_15 rfl (lv_at hl 1 rfl) ?_
  refine lv_icmp_ne (tgt := 21) hx hb d_Ps_kindOf_16 (by decide) (fun c16 => ?_) (fun c16 => ?_)
  · refine lv_iinc (v := 1) (lv' := [(1, .int 1), (0, .int x)]) hx hb d_Ps_kindOf_21 hl (k := 0) rfl (by decide) (by decide) rfl (fun ls hl => ?_)
    refine lv_goto (tgt := 2) hx hb d_Ps_kindOf_24 (by decide) ?_
    refine lv_iload_n hx hb d_Ps_kindOf_2 rfl (lv_at hl 0 rfl) ?_
    refine x_gets_L_Ps E hS d_Ps_kindOf_3 ?_
    refine x_len_L E hS d_Ps_kindOf_6 ?_
    refine lv_icmp_ge (tgt := 27) hx hb d_Ps_kindOf_7 (by decide) (fun c7_1 => absurd c7_1 (by decide)) (fun c7_1 => ?_)
    refine x_gets_L_Ps E hS d_Ps_kindOf_10 ?_
    refine lv_iload_n hx hb d_Ps_kindOf_13 rfl (lv_at hl 0 rfl) ?_
    refine x_tab_L E hS rfl (by decide) d_Ps_kindOf_14 ?_
    refine lv_iload_n hx hb d_Ps_kindOf_15 rfl (lv_at hl 1 rfl) ?_
    refine lv_icmp_ne (tgt := 21) hx hb d_Ps_kindOf_16 (by decide) (fun c16_2 => ?_) (fun c16_2 => ?_)
    · refine lv_iinc (v := 2) (lv' := [(1, .int 2), (0, .int x)]) hx hb d_Ps_kindOf_21 hl (k := 0) rfl (by decide) (by decide) rfl (fun ls hl => ?_)
      refine lv_goto (tgt := 2) hx hb d_Ps_kindOf_24 (by decide) ?_
      refine lv_iload_n hx hb d_Ps_kindOf_2 rfl (lv_at hl 0 rfl) ?_
      refine x_gets_L_Ps E hS d_Ps_kindOf_3 ?_
      refine x_len_L E hS d_Ps_kindOf_6 ?_
      refine lv_icmp_ge (tgt := 27) hx hb d_Ps_kindOf_7 (by decide) (fun c7_3 => absurd c7_3 (by decide)) (fun c7_3 => ?_)
      refine x_gets_L_Ps E hS d_Ps_kindOf_10 ?_
      refine lv_iload_n hx hb d_Ps_kindOf_13 rfl (lv_at hl 0 rfl) ?_
      refine x_tab_L E hS rfl (by decide) d_Ps_kindOf_14 ?_
      refine lv_iload_n hx hb d_Ps_kindOf_15 rfl (lv_at hl 1 rfl) ?_
      refine lv_icmp_ne (tgt := 21) hx hb d_Ps_kindOf_16 (by decide) (fun c16_4 => ?_) (fun c16_4 => ?_)
      · refine lv_iinc (v := 3) (lv' := [(1, .int 3), (0, .int x)]) hx hb d_Ps_kindOf_21 hl (k := 0) rfl (by decide) (by decide) rfl (fun ls hl => ?_)
        refine lv_goto (tgt := 2) hx hb d_Ps_kindOf_24 (by decide) ?_
        refine lv_iload_n hx hb d_Ps_kindOf_2 rfl (lv_at hl 0 rfl) ?_
        refine x_gets_L_Ps E hS d_Ps_kindOf_3 ?_
        refine x_len_L E hS d_Ps_kindOf_6 ?_
        refine lv_icmp_ge (tgt := 27) hx hb d_Ps_kindOf_7 (by decide) (fun c7_5 => absurd c7_5 (by decide)) (fun c7_5 => ?_)
        refine x_gets_L_Ps E hS d_Ps_kindOf_10 ?_
        refine lv_iload_n hx hb d_Ps_kindOf_13 rfl (lv_at hl 0 rfl) ?_
        refine x_tab_L E hS rfl (by decide) d_Ps_kindOf_14 ?_
        refine lv_iload_n hx hb d_Ps_kindOf_15 rfl (lv_at hl 1 rfl) ?_
        refine lv_icmp_ne (tgt := 21) hx hb d_Ps_kindOf_16 (by decide) (fun c16_6 => ?_) (fun c16_6 => ?_)
        · refine lv_iinc (v := 4) (lv' := [(1, .int 4), (0, .int x)]) hx hb d_Ps_kindOf_21 hl (k := 0) rfl (by decide) (by decide) rfl (fun ls hl => ?_)
          refine lv_goto (tgt := 2) hx hb d_Ps_kindOf_24 (by decide) ?_
          refine lv_iload_n hx hb d_Ps_kindOf_2 rfl (lv_at hl 0 rfl) ?_
          refine x_gets_L_Ps E hS d_Ps_kindOf_3 ?_
          refine x_len_L E hS d_Ps_kindOf_6 ?_
          refine lv_icmp_ge (tgt := 27) hx hb d_Ps_kindOf_7 (by decide) (fun c7_7 => absurd c7_7 (by decide)) (fun c7_7 => ?_)
          refine x_gets_L_Ps E hS d_Ps_kindOf_10 ?_
          refine lv_iload_n hx hb d_Ps_kindOf_13 rfl (lv_at hl 0 rfl) ?_
          refine x_tab_L E hS rfl (by decide) d_Ps_kindOf_14 ?_
          refine lv_iload_n hx hb d_Ps_kindOf_15 rfl (lv_at hl 1 rfl) ?_
          refine lv_icmp_ne (tgt := 21) hx hb d_Ps_kindOf_16 (by decide) (fun c16_8 => ?_) (fun c16_8 => ?_)
          · refine lv_iinc (v := 5) (lv' := [(1, .int 5), (0, .int x)]) hx hb d_Ps_kindOf_21 hl (k := 0) rfl (by decide) (by decide) rfl (fun ls hl => ?_)
            refine lv_goto (tgt := 2) hx hb d_Ps_kindOf_24 (by decide) ?_
            refine lv_iload_n hx hb d_Ps_kindOf_2 rfl (lv_at hl 0 rfl) ?_
            refine x_gets_L_Ps E hS d_Ps_kindOf_3 ?_
            refine x_len_L E hS d_Ps_kindOf_6 ?_
            refine lv_icmp_ge (tgt := 27) hx hb d_Ps_kindOf_7 (by decide) (fun c7_9 => ?_) (fun c7_9 => absurd (by decide) c7_9)
            refine lv_iconst (v := (-1)) hx hb d_Ps_kindOf_27 (by decide) ?_
            exact x_pi E hr (by rw [ps_kind, if_neg c16, if_neg c16_2, if_neg c16_4, if_neg c16_6, if_neg c16_8]) d_Ps_kindOf_28
          · refine lv_iload_n hx hb d_Ps_kindOf_19 rfl (lv_at hl 0 rfl) ?_
            exact x_pi E hr (by rw [ps_kind, if_neg c16, if_neg c16_2, if_neg c16_4, if_neg c16_6, if_pos c16_8]) d_Ps_kindOf_20
        · refine lv_iload_n hx hb d_Ps_kindOf_19 rfl (lv_at hl 0 rfl) ?_
          exact x_pi E hr (by rw [ps_kind, if_neg c16, if_neg c16_2, if_neg c16_4, if_pos c16_6]) d_Ps_kindOf_20
      · refine lv_iload_n hx hb d_Ps_kindOf_19 rfl (lv_at hl 0 rfl) ?_
        exact x_pi E hr (by rw [ps_kind, if_neg c16, if_neg c16_2, if_pos c16_4]) d_Ps_kindOf_20
    · refine lv_iload_n hx hb d_Ps_kindOf_19 rfl (lv_at hl 0 rfl) ?_
      exact x_pi E hr (by rw [ps_kind, if_neg c16, if_pos c16_2]) d_Ps_kindOf_20
  · refine lv_iload_n hx hb d_Ps_kindOf_19 rfl (lv_at hl 0 rfl) ?_
    exact x_pi E hr (by rw [ps_kind, if_pos c16]) d_Ps_kindOf_20
set_option maxRecDepth 100000 in
set_option maxHeartbeats 4000000 in
theorem c_Ps_skip (l : Launch) (g : xG) (b0 : Nat) (ws : va_W) {qp qt qm hp ht ta n hm om dm : Nat} {f : Nat → Int32} {rm : Nat → Nat} (hd : xAp qp qt qm) (hn : n ≤ 300) {z : ps_S} (eZ : xPz g ws qp qt qm hp ht ta f n hm om dm rm z) (hpl : z.1 ≤ n) (hcn : z.2.2.2 ≤ 24) (x : Int32) (hx1 : ¬ x = -1) : xMi l g b0 y_Ps_skip b_Ps_skip 2 (some .boolean) 1 [.ref hp, .int x] ws (fun r u => r = (ps_skip f n x z).1 ∧ xQ2 qp qm ws u ∧ xPz g u qp qt qm hp ht ta f n hm om dm rm ((ps_skip f n x z).2) ∧ (ps_skip f n x z).2.1 ≤ n ∧ (ps_skip f n x z).2.2.2.2 ≤ 24) := by
  unfold xMi
  refine x_in (by decide) (Nat.le_of_ble_eq_true rfl) ?_
  intro p e s m below meth c ls E hr hin hP hD hl
  obtain ⟨hx, hb, hml, hown, hts, hK, hZ, hb0, hlocks⟩ := id E
  have hS : va_S (xA b0) s.heap s.heap [] := va_S.rf
  have hl : lv_has ls 2 [(0, .ref hp), (1, .int x)] := hl
  have hQ : xQ2 qp qm ws ws := xQ2.rf
  refine lv_aload_n hx hb d_Ps_skip_0 rfl (lv_at hl 0 rfl) ?_
  refine x_get E hP eZ.1 rfl cl3_in 0 (by decide) wf_Ps_12 rfl d_Ps_skip_1 ?_
  refine lv_aload_n hx hb d_Ps_skip_4 rfl (lv_at hl 0 rfl) ?_
  refine x_get E hP eZ.1 rfl cl3_in 1 (by decide) wf_Ps_18 rfl d_Ps_skip_5 ?_
  refine x_cRi (As := [.int (nI z.1)]) (rest := []) E (c_Tx_characterAt l g b0 _ eZ.2.1 hn (nI z.1)) wy_Tx_characterAt wl_Ps_34 hP hD hS eZ.2.1.1 rfl hl.1 ⟨by decide, by decide⟩ ⟨Nat.le_refl _, Nat.le_refl _⟩ rfl (Nat.le_of_ble_eq_true rfl) d_Ps_skip_8 (fun r8 hr8 => ?_)
  subst hr8
  refine lv_iload_n hx hb d_Ps_skip_11 rfl (lv_at hl 1 rfl) ?_
  refine lv_icmp_eq (tgt := 17) hx hb d_Ps_skip_12 (by decide) (fun c12 => ?_) (fun c12 => ?_)
  · refine lv_aload_n hx hb d_Ps_skip_17 rfl (lv_at hl 0 rfl) ?_
    refine lv_dup hx hb d_Ps_skip_18 rfl ?_
    refine x_get E hP eZ.1 rfl cl3_in 1 (by decide) wf_Ps_18 rfl d_Ps_skip_19 ?_
    refine lv_iconst (v := 1) hx hb d_Ps_skip_22 (by decide) ?_
    refine lv_iadd hx hb d_Ps_skip_23 ?_
    refine x_top (y := nI (z.1 + 1)) (nI_1 z.1) ?_
    refine x_put E hP hD hS eZ.1 rfl cl3_in cl3_ty cl3_nm 1 (by decide) wf_Ps_18 rfl rfl rfl (Nat.le_of_ble_eq_true rfl) d_Ps_skip_24 (fun w2 H locs hU2 hP hD hS => ?_)
    have hQ := hQ.up hU2
    have eZ := eZ.pl hd (p' := z.1 + 1) hU2
    refine lv_iconst (v := 1) hx hb d_Ps_skip_27 (by decide) ?_
    exact x_rz E hr hS rfl (by rw [ps_skip, if_pos c12]; exact ⟨rfl, hQ, eZ, tx_at_ne hpl hn (fun q => hx1 (c12.symm.trans q)), hcn⟩) hP hD d_Ps_skip_28
  · refine lv_iconst (v := 0) hx hb d_Ps_skip_15 (by decide) ?_
    exact x_rz E hr hS rfl (by rw [ps_skip, if_neg c12]; exact ⟨rfl, hQ, eZ, hpl, hcn⟩) hP hD d_Ps_skip_16
set_option maxRecDepth 100000 in
set_option maxHeartbeats 4000000 in
theorem c_Ps_readNumber (l : Launch) (g : xG) (b0 : Nat) (ws : va_W) {qp qt qm hp ht ta n hm om dm : Nat} {f : Nat → Int32} {rm : Nat → Nat} (hd : xAp qp qt qm) (hn : n ≤ 300) {z : ps_S} (eZ : xPz g ws qp qt qm hp ht ta f n hm om dm rm z) (hpl : z.1 ≤ n) (hcn : z.2.2.2 ≤ 24) (lo hi : Int32) : xMi l g b0 y_Ps_readNumber b_Ps_readNumber 6 (some .int) 1 [.ref hp, .int lo, .int hi] ws (fun r u => r = (ps_num f n lo hi z).1 ∧ xQ2 qp qm ws u ∧ xPz g u qp qt qm hp ht ta f n hm om dm rm ((ps_num f n lo hi z).2) ∧ (ps_num f n lo hi z).2.1 ≤ n ∧ (ps_num f n lo hi z).2.2.2.2 ≤ 24) := by
  unfold xMi
  refine x_in (by decide) (Nat.le_of_ble_eq_true rfl) ?_
  intro p e s m below meth c ls E hr hin hP hD hl
  obtain ⟨hx, hb, hml, hown, hts, hK, hZ, hb0, hlocks⟩ := id E
  have hS : va_S (xA b0) s.heap s.heap [] := va_S.rf
  have hl : lv_has ls 6 [(0, .ref hp), (1, .int lo), (2, .int hi)] := hl
  have hQ : xQ2 qp qm ws ws := xQ2.rf
  refine lv_aload_n hx hb d_Ps_readNumber_0 rfl (lv_at hl 0 rfl) ?_
  refine x_get E hP eZ.1 rfl cl3_in 1 (by decide) wf_Ps_18 rfl d_Ps_readNumber_1 ?_
  refine lv_istore_n (lv' := [(3, .int (nI z.1)), (0, .ref hp), (1, .int lo), (2, .int hi)]) hx hb d_Ps_readNumber_4 rfl hl (by decide) rfl (fun ls hl => ?_)
  refine lv_iconst (v := 0) hx hb d_Ps_readNumber_5 (by decide) ?_
  refine lv_istore (lv' := [(4, .int 0), (3, .int (nI z.1)), (0, .ref hp), (1, .int lo), (2, .int hi)]) hx hb d_Ps_readNumber_6 hl (by decide) rfl (fun ls hl => ?_)
  refine lv_iconst (v := 0) hx hb d_Ps_readNumber_8 (by decide) ?_
  refine lv_istore (lv' := [(5, .int 0), (4, .int 0), (3, .int (nI z.1)), (0, .ref hp), (1, .int lo), (2, .int hi)]) hx hb d_Ps_readNumber_9 hl (by decide) rfl (fun ls hl => ?_)
  have loop : ∀ (k i : Nat) (pl : Nat) (v : Int32) (w : va_W) (H : Heap) (locs : List Loc) (ls : Array Slot), (4 < i + k) → (i ≤ 4) → (pl ≤ n) → (ps_dig f n 4 z.1 0 = ps_dig f n (4 - i) pl v) → (lv_has ls 6 [(5, .int (nI i)), (4, .int v), (3, .int (nI z.1)), (0, .ref hp), (1, .int lo), (2, .int hi)]) → (va_P (xD g) vwCl w H) → (va_D (xA b0) w) → (va_S (xA b0) s.heap H locs) → (xQ2 qp qm ws w) → (xPz g w qp qt qm hp ht ta f n hm om dm rm (pl, z.2)) → W p l e (rmL 1) s m ([.ref hp, .int lo, .int hi] : List Value).toArray below meth c H locs 0 0 (MQ below (va_Qi (fun r u => r = (ps_num f n lo hi z).1 ∧ xQ2 qp qm ws u ∧ xPz g u qp qt qm hp ht ta f n hm om dm rm ((ps_num f n lo hi z).2) ∧ (ps_num f n lo hi z).2.1 ≤ n ∧ (ps_num f n lo hi z).2.2.2.2 ≤ 24) (fun u t => va_P (xD g) vwCl u t.heap ∧ va_D (xA b0) u) (xA b0)) ([.ref hp, .int lo, .int hi] : List Value).toArray s 0 0 (xA b0)) (F0 m 11 ls []) := by
    intro k
    induction k with
    | zero =>
      intro i pl v w H locs ls hk hi4 hp9 hv hl hP hD hS hQ eZ
      omega
    | succ k ih =>
      intro i pl v w H locs ls hk hi4 hp9 hv hl hP hD hS hQ eZ
      refine lv_iload hx hb d_Ps_readNumber_11 (lv_at hl 0 rfl) ?_
      refine lv_iconst (v := 4) hx hb d_Ps_readNumber_13 (by decide) ?_
      refine lv_icmp_ge (tgt := 72) hx hb d_Ps_readNumber_14 (by decide) (fun c14 => ?_) (fun c14 => ?_)
      · have hi9 : i = 4 := by
          have := (nI_leI (a := 4) (by decide) (by omega)).mp c14
          omega
        rw [hi9] at hv
        have hv : ps_dig f n 4 z.1 0 = (pl, v) := hv
        refine lv_aload_n hx hb d_Ps_readNumber_72 rfl (lv_at hl 3 rfl) ?_
        refine x_get E hP eZ.1 rfl cl3_in 1 (by decide) wf_Ps_18 rfl d_Ps_readNumber_73 ?_
        refine lv_iload_n hx hb d_Ps_readNumber_76 rfl (lv_at hl 2 rfl) ?_
        refine lv_icmp_ne (tgt := 82) hx hb d_Ps_readNumber_77 (by decide) (fun c77 => ?_) (fun c77 => ?_)
        · have e9 : ¬ pl = z.1 := fun h => c77 (by rw [h])
          refine lv_iload hx hb d_Ps_readNumber_82 (lv_at hl 1 rfl) ?_
          refine lv_iload_n hx hb d_Ps_readNumber_84 rfl (lv_at hl 4 rfl) ?_
          refine lv_icmp_lt (tgt := 94) hx hb d_Ps_readNumber_85 (by decide) (fun c85 => ?_) (fun c85 => ?_)
          · refine lv_aload_n hx hb d_Ps_readNumber_94 rfl (lv_at hl 3 rfl) ?_
            refine lv_iload_n hx hb d_Ps_readNumber_95 rfl (lv_at hl 2 rfl) ?_
            refine x_put E hP hD hS eZ.1 rfl cl3_in cl3_ty cl3_nm 1 (by decide) wf_Ps_18 rfl rfl rfl (Nat.le_of_ble_eq_true rfl) d_Ps_readNumber_96 (fun w51 H locs hU51 hP hD hS => ?_)
            have hQ := hQ.up hU51
            have eZ := eZ.pl hd (p' := z.1) hU51
            refine lv_iconst (v := (-1)) hx hb d_Ps_readNumber_99 (by decide) ?_
            exact x_ri E hr hS (by rw [ps_num, hv, if_neg e9, if_pos c85]; exact ⟨rfl, hQ, eZ, hpl, hcn⟩) hP hD d_Ps_readNumber_100
          · refine lv_iload hx hb d_Ps_readNumber_88 (lv_at hl 1 rfl) ?_
            refine lv_iload_n hx hb d_Ps_readNumber_90 rfl (lv_at hl 5 rfl) ?_
            refine lv_icmp_le (tgt := 101) hx hb d_Ps_readNumber_91 (by decide) (fun c91 => ?_) (fun c91 => ?_)
            · refine lv_iload hx hb d_Ps_readNumber_101 (lv_at hl 1 rfl) ?_
              exact x_ri E hr hS (by rw [ps_num, hv, if_neg e9, if_neg c85, if_pos c91]; exact ⟨rfl, hQ, eZ, hp9, hcn⟩) hP hD d_Ps_readNumber_103
            · refine lv_aload_n hx hb d_Ps_readNumber_94 rfl (lv_at hl 3 rfl) ?_
              refine lv_iload_n hx hb d_Ps_readNumber_95 rfl (lv_at hl 2 rfl) ?_
              refine x_put E hP hD hS eZ.1 rfl cl3_in cl3_ty cl3_nm 1 (by decide) wf_Ps_18 rfl rfl rfl (Nat.le_of_ble_eq_true rfl) d_Ps_readNumber_96 (fun w51 H locs hU51 hP hD hS => ?_)
              have hQ := hQ.up hU51
              have eZ := eZ.pl hd (p' := z.1) hU51
              refine lv_iconst (v := (-1)) hx hb d_Ps_readNumber_99 (by decide) ?_
              exact x_ri E hr hS (by rw [ps_num, hv, if_neg e9, if_neg c85, if_neg c91]; exact ⟨rfl, hQ, eZ, hpl, hcn⟩) hP hD d_Ps_readNumber_100
        · refine lv_iconst (v := (-1)) hx hb d_Ps_readNumber_80 (by decide) ?_
          have e9 : pl = z.1 := (nI_eq (by omega) (by omega)).mp c77
          exact x_ri E hr hS (by rw [ps_num, hv, if_pos e9]; rw [e9] at eZ; exact ⟨rfl, hQ, eZ, hpl, hcn⟩) hP hD d_Ps_readNumber_81
      · have hi9 : i < 4 := Nat.not_le.mp fun h => c14 (nI_le (a := 4) h (by omega))
        rw [show 4 - i = (4 - (i + 1)) + 1 by omega] at hv
        refine lv_aload_n hx hb d_Ps_readNumber_17 rfl (lv_at hl 3 rfl) ?_
        refine x_get E hP eZ.1 rfl cl3_in 0 (by decide) wf_Ps_12 rfl d_Ps_readNumber_18 ?_
        refine lv_aload_n hx hb d_Ps_readNumber_21 rfl (lv_at hl 3 rfl) ?_
        refine x_get E hP eZ.1 rfl cl3_in 1 (by decide) wf_Ps_18 rfl d_Ps_readNumber_22 ?_
        refine x_cRi (As := [.int (nI (pl, z.2).1)]) (rest := []) E (c_Tx_characterAt l g b0 _ eZ.2.1 hn (nI (pl, z.2).1)) wy_Tx_characterAt wl_Ps_34 hP hD hS eZ.2.1.1 rfl hl.1 ⟨by decide, by decide⟩ ⟨Nat.le_refl _, Nat.le_refl _⟩ rfl (Nat.le_of_ble_eq_true rfl) d_Ps_readNumber_25 (fun r25 hr25 => ?_)
        subst hr25
        refine x_cSi (As := [.int (tx_at f n (nI (pl, z.2).1))]) (rest := []) E (c_Ps_isDigit l g b0 _ (tx_at f n (nI pl))) wy_Ps_isDigit wl_Ps_74 hP hD hS hl.1 ⟨by decide, by decide⟩ ⟨Nat.le_refl _, Nat.le_refl _⟩ rfl (Nat.le_of_ble_eq_true rfl) d_Ps_readNumber_28 (fun r28 hr28 => ?_)
        subst hr28
        refine lv_if_eq (tgt := 72) hx hb d_Ps_readNumber_31 (by decide) (fun c31 => ?_) (fun c31 => ?_)
        · have hv : ps_dig f n 4 z.1 0 = (pl, v) := by rw [hv, ps_dig, if_pos c31]
          refine lv_aload_n hx hb d_Ps_readNumber_72 rfl (lv_at hl 3 rfl) ?_
          refine x_get E hP eZ.1 rfl cl3_in 1 (by decide) wf_Ps_18 rfl d_Ps_readNumber_73 ?_
          refine lv_iload_n hx hb d_Ps_readNumber_76 rfl (lv_at hl 2 rfl) ?_
          refine lv_icmp_ne (tgt := 82) hx hb d_Ps_readNumber_77 (by decide) (fun c77 => ?_) (fun c77 => ?_)
          · have e9 : ¬ pl = z.1 := fun h => c77 (by rw [h])
            refine lv_iload hx hb d_Ps_readNumber_82 (lv_at hl 1 rfl) ?_
            refine lv_iload_n hx hb d_Ps_readNumber_84 rfl (lv_at hl 4 rfl) ?_
            refine lv_icmp_lt (tgt := 94) hx hb d_Ps_readNumber_85 (by decide) (fun c85 => ?_) (fun c85 => ?_)
            · refine lv_aload_n hx hb d_Ps_readNumber_94 rfl (lv_at hl 3 rfl) ?_
              refine lv_iload_n hx hb d_Ps_readNumber_95 rfl (lv_at hl 2 rfl) ?_
              refine x_put E hP hD hS eZ.1 rfl cl3_in cl3_ty cl3_nm 1 (by decide) wf_Ps_18 rfl rfl rfl (Nat.le_of_ble_eq_true rfl) d_Ps_readNumber_96 (fun w52 H locs hU52 hP hD hS => ?_)
              have hQ := hQ.up hU52
              have eZ := eZ.pl hd (p' := z.1) hU52
              refine lv_iconst (v := (-1)) hx hb d_Ps_readNumber_99 (by decide) ?_
              exact x_ri E hr hS (by rw [ps_num, hv, if_neg e9, if_pos c85]; exact ⟨rfl, hQ, eZ, hpl, hcn⟩) hP hD d_Ps_readNumber_100
            · refine lv_iload hx hb d_Ps_readNumber_88 (lv_at hl 1 rfl) ?_
              refine lv_iload_n hx hb d_Ps_readNumber_90 rfl (lv_at hl 5 rfl) ?_
              refine lv_icmp_le (tgt := 101) hx hb d_Ps_readNumber_91 (by decide) (fun c91 => ?_) (fun c91 => ?_)
              · refine lv_iload hx hb d_Ps_readNumber_101 (lv_at hl 1 rfl) ?_
                exact x_ri E hr hS (by rw [ps_num, hv, if_neg e9, if_neg c85, if_pos c91]; exact ⟨rfl, hQ, eZ, hp9, hcn⟩) hP hD d_Ps_readNumber_103
              · refine lv_aload_n hx hb d_Ps_readNumber_94 rfl (lv_at hl 3 rfl) ?_
                refine lv_iload_n hx hb d_Ps_readNumber_95 rfl (lv_at hl 2 rfl) ?_
                refine x_put E hP hD hS eZ.1 rfl cl3_in cl3_ty cl3_nm 1 (by decide) wf_Ps_18 rfl rfl rfl (Nat.le_of_ble_eq_true rfl) d_Ps_readNumber_96 (fun w52 H locs hU52 hP hD hS => ?_)
                have hQ := hQ.up hU52
                have eZ := eZ.pl hd (p' := z.1) hU52
                refine lv_iconst (v := (-1)) hx hb d_Ps_readNumber_99 (by decide) ?_
                exact x_ri E hr hS (by rw [ps_num, hv, if_neg e9, if_neg c85, if_neg c91]; exact ⟨rfl, hQ, eZ, hpl, hcn⟩) hP hD d_Ps_readNumber_100
          · refine lv_iconst (v := (-1)) hx hb d_Ps_readNumber_80 (by decide) ?_
            have e9 : pl = z.1 := (nI_eq (by omega) (by omega)).mp c77
            exact x_ri E hr hS (by rw [ps_num, hv, if_pos e9]; rw [e9] at eZ; exact ⟨rfl, hQ, eZ, hpl, hcn⟩) hP hD d_Ps_readNumber_81
        · have hv : ps_dig f n 4 z.1 0 = ps_dig f n (4 - (i + 1)) (pl + 1) (v * 10 + tx_at f n (nI pl) - 48) := by rw [hv, ps_dig, if_neg c31]
          have hp8 : pl < n := tx_at_ne hp9 hn (fun q => c31 (by rw [q]; decide))
          refine lv_iload hx hb d_Ps_readNumber_34 (lv_at hl 1 rfl) ?_
          refine lv_bipush (v := 10) hx hb d_Ps_readNumber_36 (by decide) ?_
          refine lv_imul hx hb d_Ps_readNumber_38 ?_
          refine lv_aload_n hx hb d_Ps_readNumber_39 rfl (lv_at hl 3 rfl) ?_
          refine x_get E hP eZ.1 rfl cl3_in 0 (by decide) wf_Ps_12 rfl d_Ps_readNumber_40 ?_
          refine lv_aload_n hx hb d_Ps_readNumber_43 rfl (lv_at hl 3 rfl) ?_
          refine x_get E hP eZ.1 rfl cl3_in 1 (by decide) wf_Ps_18 rfl d_Ps_readNumber_44 ?_
          refine x_cRi (As := [.int (nI (pl, z.2).1)]) (rest := [.int (v * 10)]) E (c_Tx_characterAt l g b0 _ eZ.2.1 hn (nI (pl, z.2).1)) wy_Tx_characterAt wl_Ps_34 hP hD hS eZ.2.1.1 rfl hl.1 ⟨by decide, by decide⟩ ⟨Nat.le_refl _, Nat.le_refl _⟩ rfl (Nat.le_of_ble_eq_true rfl) d_Ps_readNumber_47 (fun r47 hr47 => ?_)
          subst hr47
          refine lv_iadd hx hb d_Ps_readNumber_50 ?_
          refine lv_bipush (v := 48) hx hb d_Ps_readNumber_51 (by decide) ?_
          refine lv_isub hx hb d_Ps_readNumber_53 ?_
          refine lv_istore (lv' := [(4, .int (((v * 10) + (tx_at f n (nI (pl, z.2).1))) - 48)), (5, .int (nI i)), (3, .int (nI z.1)), (0, .ref hp), (1, .int lo), (2, .int hi)]) hx hb d_Ps_readNumber_54 hl (by decide) rfl (fun ls hl => ?_)
          refine lv_aload_n hx hb d_Ps_readNumber_56 rfl (lv_at hl 3 rfl) ?_
          refine lv_dup hx hb d_Ps_readNumber_57 rfl ?_
          refine x_get E hP eZ.1 rfl cl3_in 1 (by decide) wf_Ps_18 rfl d_Ps_readNumber_58 ?_
          refine lv_iconst (v := 1) hx hb d_Ps_readNumber_61 (by decide) ?_
          refine lv_iadd hx hb d_Ps_readNumber_62 ?_
          refine x_top (y := nI (pl + 1)) (nI_1 pl) ?_
          refine x_put E hP hD hS eZ.1 rfl cl3_in cl3_ty cl3_nm 1 (by decide) wf_Ps_18 rfl rfl rfl (Nat.le_of_ble_eq_true rfl) d_Ps_readNumber_63 (fun w53 H locs hU53 hP hD hS => ?_)
          have hQ := hQ.up hU53
          have eZ := eZ.pl hd (p' := pl + 1) hU53
          refine lv_iinc (v := nI (i + 1)) (lv' := [(5, .int (nI (i + 1))), (4, .int (((v * 10) + (tx_at f n (nI (pl, z.2).1))) - 48)), (3, .int (nI z.1)), (0, .ref hp), (1, .int lo), (2, .int hi)]) hx hb d_Ps_readNumber_66 hl (k := 1) rfl (nI_1 i) (by decide) rfl (fun ls hl => ?_)
          refine lv_goto (tgt := 11) hx hb d_Ps_readNumber_69 (by decide) ?_
          exact ih (i + 1) (pl + 1) (v * 10 + tx_at f n (nI pl) - 48) _ _ _ _ (by omega) (by omega) (by omega) hv hl hP hD hS hQ eZ
  exact loop 5 0 z.1 0 _ _ _ _ (by omega) (by omega) hpl rfl hl hP hD hS hQ eZ
