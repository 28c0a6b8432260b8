def mc_val (M : Nat → Nat → Int32) (n : Nat) (i col : Int32) : Int32 := if i < 0 then -1 else if nI n ≤ i then -1 else if col < 0 then -1 else if col < 6 then M col.toNatClampNeg i.toNatClampNeg else -1
set_option maxRecDepth 100000 in
set_option maxHeartbeats 4000000 in
theorem c_Mc_value (l : Launch) (g : xG) (b0 : Nat) (ws : va_W) {q h o d n : Nat} {r : Nat → Nat} {M : Nat → Nat → Int32} {ix : Nat → Int32} (hT : xMach g ws q h o d r M ix n) (hn : n ≤ 24) (i col : Int32) : xRi l g b0 y_Mc_value b_Mc_value 3 (some .int) 0 [.ref h, .int i, .int col] ws (fun r => r = mc_val M n i col) := by
  unfold xRi
  refine x_in (by decide) (Nat.le_of_ble_eq_true rfl) ?_
  intro p e s m below meth c ls E hr hin hP hD hl
  obtain ⟨hx, hb, hml, hown, hts, hK, hZ, hb0, hlocks⟩ := id E
  have hS : va_S (xA b0) s.heap s.heap [] := va_S.rf
  have hl : lv_has ls 3 [(0, .ref h), (1, .int i), (2, .int col)] := hl
  obtain ⟨e0, e1, e2, e3⟩ := id hT
  refine lv_iload_n hx hb d_Mc_value_0 rfl (lv_at hl 1 rfl) ?_
  refine lv_if_lt (tgt := 28) hx hb d_Mc_value_1 (by decide) (fun c1 => ?_) (fun c1 => ?_)
  · refine lv_iconst (v := (-1)) hx hb d_Mc_value_28 (by decide) ?_
    exact x_pi E hr (by rw [mc_val, if_pos c1]) d_Mc_value_29
  · refine lv_iload_n hx hb d_Mc_value_4 rfl (lv_at hl 1 rfl) ?_
    refine lv_aload_n hx hb d_Mc_value_5 rfl (lv_at hl 0 rfl) ?_
    refine x_get E hP e0 rfl cl2_in 2 (by decide) wf_Mc_23 rfl d_Mc_value_6 ?_
    refine lv_icmp_ge (tgt := 28) hx hb d_Mc_value_9 (by decide) (fun c9 => ?_) (fun c9 => ?_)
    · refine lv_iconst (v := (-1)) hx hb d_Mc_value_28 (by decide) ?_
      exact x_pi E hr (by rw [mc_val, if_neg c1, if_pos c9]) d_Mc_value_29
    · obtain ⟨i0, hi0, hi⟩ := x_ix (by omega) c1 c9
      refine lv_iload_n hx hb d_Mc_value_12 rfl (lv_at hl 1 rfl) ?_
      refine lv_bipush (v := 24) hx hb d_Mc_value_13 (by decide) ?_
      refine lv_icmp_ge (tgt := 28) hx hb d_Mc_value_15 (by decide) (fun c15 => absurd c15 (by rw [hi]; exact nI_ge (b := 24) (by omega) (by decide))) (fun c15 => ?_)
      refine lv_iload_n hx hb d_Mc_value_18 rfl (lv_at hl 2 rfl) ?_
      refine lv_if_lt (tgt := 28) hx hb d_Mc_value_19 (by decide) (fun c19 => ?_) (fun c19 => ?_)
      · refine lv_iconst (v := (-1)) hx hb d_Mc_value_28 (by decide) ?_
        exact x_pi E hr (by rw [mc_val, if_neg c1, if_neg c9, if_pos c19]) d_Mc_value_29
      · refine lv_iload_n hx hb d_Mc_value_22 rfl (lv_at hl 2 rfl) ?_
        refine lv_bipush (v := 6) hx hb d_Mc_value_23 (by decide) ?_
        refine lv_icmp_lt (tgt := 30) hx hb d_Mc_value_25 (by decide) (fun c25 => ?_) (fun c25 => ?_)
        · obtain ⟨k0, hk0, hk⟩ := x_ixl (n := 6) (by decide) c19 c25
          refine lv_aload_n hx hb d_Mc_value_30 rfl (lv_at hl 0 rfl) ?_
          refine x_get E hP e0 rfl cl2_in 0 (by decide) wf_Mc_11 rfl d_Mc_value_31 ?_
          refine lv_iload_n hx hb d_Mc_value_34 rfl (lv_at hl 2 rfl) ?_
          refine x_aald E hP e1 (j := k0) hk hk0 (by decide) rfl d_Mc_value_35 ?_
          refine lv_iload_n hx hb d_Mc_value_36 rfl (lv_at hl 1 rfl) ?_
          refine x_iald E hP (e3 k0 hk0) (j := i0) hi (by omega) (by decide) d_Mc_value_37 ?_
          exact x_pi E hr (by rw [mc_val, if_neg c1, if_neg c9, if_neg c19, if_pos c25, hi, hk, nI_clamp (by omega), nI_clamp (by omega)]) d_Mc_value_38
        · refine lv_iconst (v := (-1)) hx hb d_Mc_value_28 (by decide) ?_
          exact x_pi E hr (by rw [mc_val, if_neg c1, if_neg c9, if_neg c19, if_neg c25]) d_Mc_value_29
def mc_ix (ix : Nat → Int32) (name : Int32) : Int32 := if name < 0 then -1 else if name < 30 then ix name.toNatClampNeg else -1
set_option maxRecDepth 100000 in
set_option maxHeartbeats 4000000 in
theorem c_Mc_indexOf (l : Launch) (g : xG) (b0 : Nat) (ws : va_W) {q h o d n : Nat} {r : Nat → Nat} {M : Nat → Nat → Int32} {ix : Nat → Int32} (hT : xMach g ws q h o d r M ix n) (hn : n ≤ 24) (name : Int32) : xRi l g b0 y_Mc_indexOf b_Mc_indexOf 2 (some .int) 0 [.ref h, .int name] ws (fun r => r = mc_ix ix name) := by
  unfold xRi
  refine x_in (by decide) (Nat.le_of_ble_eq_true rfl) ?_
  intro p e s m below meth c ls E hr hin hP hD hl
  obtain ⟨hx, hb, hml, hown, hts, hK, hZ, hb0, hlocks⟩ := id E
  have hS : va_S (xA b0) s.heap s.heap [] := va_S.rf
  have hl : lv_has ls 2 [(0, .ref h), (1, .int name)] := hl
  obtain ⟨e0, e1, e2, e3⟩ := id hT
  refine lv_iload_n hx hb d_Mc_indexOf_0 rfl (lv_at hl 1 rfl) ?_
  refine lv_if_lt (tgt := 13) hx hb d_Mc_indexOf_1 (by decide) (fun c1 => ?_) (fun c1 => ?_)
  · refine lv_iconst (v := (-1)) hx hb d_Mc_indexOf_13 (by decide) ?_
    refine lv_goto (tgt := 23) hx hb d_Mc_indexOf_14 (by decide) ?_
    exact x_pi E hr (by rw [mc_ix, if_pos c1]) d_Mc_indexOf_23
  · refine lv_iload_n hx hb d_Mc_indexOf_4 rfl (lv_at hl 1 rfl) ?_
    refine lv_aload_n hx hb d_Mc_indexOf_5 rfl (lv_at hl 0 rfl) ?_
    refine x_get E hP e0 rfl cl2_in 1 (by decide) wf_Mc_16 rfl d_Mc_indexOf_6 ?_
    refine x_ilen E hP e2 d_Mc_indexOf_9 ?_
    refine lv_icmp_lt (tgt := 17) hx hb d_Mc_indexOf_10 (by decide) (fun c10 => ?_) (fun c10 => ?_)
    · have c10 : name < 30 := c10
      obtain ⟨k0, hk0, hk⟩ := x_ixl (n := 30) (by decide) c1 c10
      refine lv_aload_n hx hb d_Mc_indexOf_17 rfl (lv_at hl 0 rfl) ?_
      refine x_get E hP e0 rfl cl2_in 1 (by decide) wf_Mc_16 rfl d_Mc_indexOf_18 ?_
      refine lv_iload_n hx hb d_Mc_indexOf_21 rfl (lv_at hl 1 rfl) ?_
      refine x_iald E hP e2 (j := k0) hk hk0 (by decide) d_Mc_indexOf_22 ?_
      exact x_pi E hr (by rw [mc_ix, if_neg c1, if_pos c10, hk, nI_clamp (by omega)]) d_Mc_indexOf_23
    · have c10 : ¬ name < 30 := c10
      refine lv_iconst (v := (-1)) hx hb d_Mc_indexOf_13 (by decide) ?_
      refine lv_goto (tgt := 23) hx hb d_Mc_indexOf_14 (by decide) ?_
      exact x_pi E hr (by rw [mc_ix, if_neg c1, if_neg c10]) d_Mc_indexOf_23
def mc_has (M : Nat → Nat → Int32) (n : Nat) (i way : Int32) : Int32 := if mc_val M n i (4 + way) = -1 then 0 else 1
set_option maxRecDepth 100000 in
set_option maxHeartbeats 4000000 in
theorem c_Mc_hasWay (l : Launch) (g : xG) (b0 : Nat) (ws : va_W) {q h o d n : Nat} {r : Nat → Nat} {M : Nat → Nat → Int32} {ix : Nat → Int32} (hT : xMach g ws q h o d r M ix n) (hn : n ≤ 24) (i way : Int32) : xRi l g b0 y_Mc_hasWay b_Mc_hasWay 3 (some .boolean) 1 [.ref h, .int i, .int way] ws (fun r => r = mc_has M n i way) := by
  unfold xRi
  refine x_in (by decide) (Nat.le_of_ble_eq_true rfl) ?_
  intro p e s m below meth c ls E hr hin hP hD hl
  obtain ⟨hx, hb, hml, hown, hts, hK, hZ, hb0, hlocks⟩ := id E
  have hS : va_S (xA b0) s.heap s.heap [] := va_S.rf
  have hl : lv_has ls 3 [(0, .ref h), (1, .int i), (2, .int way)] := hl
  obtain ⟨e0, e1, e2, e3⟩ := id hT
  refine lv_aload_n hx hb d_Mc_hasWay_0 rfl (lv_at hl 0 rfl) ?_
  refine lv_iload_n hx hb d_Mc_hasWay_1 rfl (lv_at hl 1 rfl) ?_
  refine lv_iconst (v := 4) hx hb d_Mc_hasWay_2 (by decide) ?_
  refine lv_iload_n hx hb d_Mc_hasWay_3 rfl (lv_at hl 2 rfl) ?_
  refine lv_iadd hx hb d_Mc_hasWay_4 ?_
  refine x_cRi (As := [.int i, .int (4 + way)]) (rest := []) E (c_Mc_value l g b0 _ hT hn i (4 + way)) wy_Mc_value wl_Mc_31 hP hD hS e0 rfl hl.1 ⟨by decide, by decide⟩ ⟨Nat.le_refl _, Nat.le_refl _⟩ rfl (Nat.le_of_ble_eq_true rfl) d_Mc_hasWay_5 (fun r5 hr5 => ?_)
  subst hr5
  refine lv_iconst (v := (-1)) hx hb d_Mc_hasWay_8 (by decide) ?_
  refine lv_icmp_eq (tgt := 16) hx hb d_Mc_hasWay_9 (by decide) (fun c9 => ?_) (fun c9 => ?_)
  · refine lv_iconst (v := 0) hx hb d_Mc_hasWay_16 (by decide) ?_
    exact x_pz E hr rfl (by rw [mc_has, if_pos c9]) d_Mc_hasWay_17
  · refine lv_iconst (v := 1) hx hb d_Mc_hasWay_12 (by decide) ?_
    refine lv_goto (tgt := 17) hx hb d_Mc_hasWay_13 (by decide) ?_
    exact x_pz E hr rfl (by rw [mc_has, if_neg c9]) d_Mc_hasWay_17
def mc_goal (M : Nat → Nat → Int32) (ix : Nat → Int32) (n : Nat) (i way : Int32) : Int32 := mc_ix ix (mc_val M n i (4 + way))
set_option maxRecDepth 100000 in
set_option maxHeartbeats 4000000 in
theorem c_Mc_goal (l : Launch) (g : xG) (b0 : Nat) (ws : va_W) {q h o d n : Nat} {r : Nat → Nat} {M : Nat → Nat → Int32} {ix : Nat → Int32} (hT : xMach g ws q h o d r M ix n) (hn : n ≤ 24) (i way : Int32) : xRi l g b0 y_Mc_goal b_Mc_goal 3 (some .int) 1 [.ref h, .int i, .int way] ws (fun r => r = mc_goal M ix n i way) := by
  unfold xRi
  refine x_in (by decide) (Nat.le_of_ble_eq_true rfl) ?_
  intro p e s m below meth c ls E hr hin hP hD hl
  obtain ⟨hx, hb, hml, hown, hts, hK, hZ, hb0, hlocks⟩ := id E
  have hS : va_S (xA b0) s.heap s.heap [] := va_S.rf
  have hl : lv_has ls 3 [(0, .ref h), (1, .int i), (2, .int way)] := hl
  obtain ⟨e0, e1, e2, e3⟩ := id hT
  refine lv_aload_n hx hb d_Mc_goal_0 rfl (lv_at hl 0 rfl) ?_
  refine lv_aload_n hx hb d_Mc_goal_1 rfl (lv_at hl 0 rfl) ?_
  refine lv_iload_n hx hb d_Mc_goal_2 rfl (lv_at hl 1 rfl) ?_
  refine lv_iconst (v := 4) hx hb d_Mc_goal_3 (by decide) ?_
  refine lv_iload_n hx hb d_Mc_goal_4 rfl (lv_at hl 2 rfl) ?_
  refine lv_iadd hx hb d_Mc_goal_5 ?_
  refine x_cRi (As := [.int i, .int (4 + way)]) (rest := [.ref h]) E (c_Mc_value l g b0 _ hT hn i (4 + way)) wy_Mc_value wl_Mc_31 hP hD hS e0 rfl hl.1 ⟨by decide, by decide⟩ ⟨Nat.le_refl _, Nat.le_refl _⟩ rfl (Nat.le_of_ble_eq_true rfl) d_Mc_goal_6 (fun r6 hr6 => ?_)
  subst hr6
  refine x_cRi (As := [.int (mc_val M n i (4 + way))]) (rest := []) E (c_Mc_indexOf l g b0 _ hT hn (mc_val M n i (4 + way))) wy_Mc_indexOf wl_Mc_35 hP hD hS e0 rfl hl.1 ⟨by decide, by decide⟩ ⟨Nat.le_refl _, Nat.le_refl _⟩ rfl (Nat.le_of_ble_eq_true rfl) d_Mc_goal_9 (fun r9 hr9 => ?_)
  subst hr9
  exact x_pi E hr rfl d_Mc_goal_12
def mc_tt (M : Nat → Nat → Int32) (n : Nat) (i : Int32) : Int32 := if mc_val M n i 0 = 1 then (if mc_val M n i 3 ≤ 0 then (if mc_val M n i 0 = 2 then mc_val M n i 2 else 0) else (1000 * mc_val M n i 2 + mc_val M n i 3 - 1) / mc_val M n i 3) else (if mc_val M n i 0 = 2 then mc_val M n i 2 else 0)
set_option maxRecDepth 100000 in
set_option maxHeartbeats 4000000 in
theorem c_Mc_timeThrough (l : Launch) (g : xG) (b0 : Nat) (ws : va_W) {q h o d n : Nat} {r : Nat → Nat} {M : Nat → Nat → Int32} {ix : Nat → Int32} (hT : xMach g ws q h o d r M ix n) (hn : n ≤ 24) (i : Int32) : xRi l g b0 y_Mc_timeThrough b_Mc_timeThrough 4 (some .int) 1 [.ref h, .int i] ws (fun r => r = mc_tt M n i) := by
  unfold xRi
  refine x_in (by decide) (Nat.le_of_ble_eq_true rfl) ?_
  intro p e s m below meth c ls E hr hin hP hD hl
  obtain ⟨hx, hb, hml, hown, hts, hK, hZ, hb0, hlocks⟩ := id E
  have hS : va_S (xA b0) s.heap s.heap [] := va_S.rf
  have hl : lv_has ls 4 [(0, .ref h), (1, .int i)] := hl
  obtain ⟨e0, e1, e2, e3⟩ := id hT
  refine lv_aload_n hx hb d_Mc_timeThrough_0 rfl (lv_at hl 0 rfl) ?_
  refine lv_iload_n hx hb d_Mc_timeThrough_1 rfl (lv_at hl 1 rfl) ?_
  refine lv_iconst (v := 2) hx hb d_Mc_timeThrough_2 (by decide) ?_
  refine x_cRi (As := [.int i, .int 2]) (rest := []) E (c_Mc_value l g b0 _ hT hn i 2) wy_Mc_value wl_Mc_31 hP hD hS e0 rfl hl.1 ⟨by decide, by decide⟩ ⟨Nat.le_refl _, Nat.le_refl _⟩ rfl (Nat.le_of_ble_eq_true rfl) d_Mc_timeThrough_3 (fun r3 hr3 => ?_)
  subst hr3
  refine lv_istore_n (lv' := [(2, .int (mc_val M n i 2)), (0, .ref h), (1, .int i)]) hx hb d_Mc_timeThrough_6 rfl hl (by decide) rfl (fun ls hl => ?_)
  refine lv_aload_n hx hb d_Mc_timeThrough_7 rfl (lv_at hl 1 rfl) ?_
  refine lv_iload_n hx hb d_Mc_timeThrough_8 rfl (lv_at hl 2 rfl) ?_
  refine lv_iconst (v := 3) hx hb d_Mc_timeThrough_9 (by decide) ?_
  refine x_cRi (As := [.int i, .int 3]) (rest := []) E (c_Mc_value l g b0 _ hT hn i 3) wy_Mc_value wl_Mc_31 hP hD hS e0 rfl hl.1 ⟨by decide, by decide⟩ ⟨Nat.le_refl _, Nat.le_refl _⟩ rfl (Nat.le_of_ble_eq_true rfl) d_Mc_timeThrough_10 (fun r10 hr10 => ?_)
  subst hr10
  refine lv_istore_n (lv' := [(3, .int (mc_val M n i 3)), (2, .int (mc_val M n i 2)), (0, .ref h), (1, .int i)]) hx hb d_Mc_timeThrough_13 rfl hl (by decide) rfl (fun ls hl => ?_)
  refine lv_aload_n hx hb d_Mc_timeThrough_14 rfl (lv_at hl 2 rfl) ?_
  refine lv_iload_n hx hb d_Mc_timeThrough_15 rfl (lv_at hl 3 rfl) ?_
  refine lv_iconst (v := 0) hx hb d_Mc_timeThrough_16 (by decide) ?_
  refine x_cRi (As := [.int i, .int 0]) (rest := []) E (c_Mc_value l g b0 _ hT hn i 0) wy_Mc_value wl_Mc_31 hP hD hS e0 rfl hl.1 ⟨by decide, by decide⟩ ⟨Nat.le_refl _, Nat.le_refl _⟩ rfl (Nat.le_of_ble_eq_true rfl) d_Mc_timeThrough_17 (fun r17 hr17 => ?_)
  subst hr17
  refine lv_iconst (v := 1) hx hb d_Mc_timeThrough_20 (by decide) ?_
  refine lv_icmp_ne (tgt := 40) hx hb d_Mc_timeThrough_21 (by decide) (fun c21 => ?_) (fun c21 => ?_)
  · refine lv_aload_n hx hb d_Mc_timeThrough_40 rfl (lv_at hl 2 rfl) ?_
    refine lv_iload_n hx hb d_Mc_timeThrough_41 rfl (lv_at hl 3 rfl) ?_
    refine lv_iconst (v := 0) hx hb d_Mc_timeThrough_42 (by decide) ?_
    refine x_cRi (As := [.int i, .int 0]) (rest := []) E (c_Mc_value l g b0 _ hT hn i 0) wy_Mc_value wl_Mc_31 hP hD hS e0 rfl hl.1 ⟨by decide, by decide⟩ ⟨Nat.le_refl _, Nat.le_refl _⟩ rfl (Nat.le_of_ble_eq_true rfl) d_Mc_timeThrough_43 (fun r43 hr43 => ?_)
    subst hr43
    refine lv_iconst (v := 2) hx hb d_Mc_timeThrough_46 (by decide) ?_
    refine lv_icmp_ne (tgt := 54) hx hb d_Mc_timeThrough_47 (by decide) (fun c47 => ?_) (fun c47 => ?_)
    · refine lv_iconst (v := 0) hx hb d_Mc_timeThrough_54 (by decide) ?_
      exact x_pi E hr (by rw [mc_tt, if_neg c21, if_neg c47]) d_Mc_timeThrough_55
    · refine lv_iload_n hx hb d_Mc_timeThrough_50 rfl (lv_at hl 1 rfl) ?_
      refine lv_goto (tgt := 55) hx hb d_Mc_timeThrough_51 (by decide) ?_
      exact x_pi E hr (by rw [mc_tt, if_neg c21, if_pos c47]) d_Mc_timeThrough_55
  · refine lv_iload_n hx hb d_Mc_timeThrough_24 rfl (lv_at hl 0 rfl) ?_
    refine lv_if_le (tgt := 40) hx hb d_Mc_timeThrough_25 (by decide) (fun c25 => ?_) (fun c25 => ?_)
    · refine lv_aload_n hx hb d_Mc_timeThrough_40 rfl (lv_at hl 2 rfl) ?_
      refine lv_iload_n hx hb d_Mc_timeThrough_41 rfl (lv_at hl 3 rfl) ?_
      refine lv_iconst (v := 0) hx hb d_Mc_timeThrough_42 (by decide) ?_
      refine x_cRi (As := [.int i, .int 0]) (rest := []) E (c_Mc_value l g b0 _ hT hn i 0) wy_Mc_value wl_Mc_31 hP hD hS e0 rfl hl.1 ⟨by decide, by decide⟩ ⟨Nat.le_refl _, Nat.le_refl _⟩ rfl (Nat.le_of_ble_eq_true rfl) d_Mc_timeThrough_43 (fun r43 hr43 => ?_)
      subst hr43
      refine lv_iconst (v := 2) hx hb d_Mc_timeThrough_46 (by decide) ?_
      refine lv_icmp_ne (tgt := 54) hx hb d_Mc_timeThrough_47 (by decide) (fun c47 => ?_) (fun c47 => ?_)
      · refine lv_iconst (v := 0) hx hb d_Mc_timeThrough_54 (by decide) ?_
        exact x_pi E hr (by rw [mc_tt, if_pos c21, if_pos c25, if_neg c47]) d_Mc_timeThrough_55
      · refine lv_iload_n hx hb d_Mc_timeThrough_50 rfl (lv_at hl 1 rfl) ?_
        refine lv_goto (tgt := 55) hx hb d_Mc_timeThrough_51 (by decide) ?_
        exact x_pi E hr (by rw [mc_tt, if_pos c21, if_pos c25, if_pos c47]) d_Mc_timeThrough_55
    · refine lv_sipush (v := 1000) hx hb d_Mc_timeThrough_28 (by decide) ?_
      refine lv_iload_n hx hb d_Mc_timeThrough_31 rfl (lv_at hl 1 rfl) ?_
      refine lv_imul hx hb d_Mc_timeThrough_32 ?_
      refine lv_iload_n hx hb d_Mc_timeThrough_33 rfl (lv_at hl 0 rfl) ?_
      refine lv_iadd hx hb d_Mc_timeThrough_34 ?_
      refine lv_iconst (v := 1) hx hb d_Mc_timeThrough_35 (by decide) ?_
      refine lv_isub hx hb d_Mc_timeThrough_36 ?_
      refine lv_iload_n hx hb d_Mc_timeThrough_37 rfl (lv_at hl 0 rfl) ?_
      refine lv_idiv hx hb d_Mc_timeThrough_38 (fun h => c25 (by rw [h]; decide)) ?_
      exact x_pi E hr (by rw [mc_tt, if_pos c21, if_neg c25]) d_Mc_timeThrough_39
set_option maxRecDepth 100000 in
set_option maxHeartbeats 4000000 in
theorem c_Mc_setLatest (l : Launch) (g : xG) (b0 : Nat) (ws : va_W) {q h o d n : Nat} {r : Nat → Nat} {M : Nat → Nat → Int32} {ix : Nat → Int32} (hT : xMach g ws q h o d r M ix n) (hn1 : 1 ≤ n) (hn : n ≤ 24) (col v : Int32) (k : Nat) (hk : col = nI k) (hk6 : k < 6) : xMv l g b0 y_Mc_setLatest b_Mc_setLatest 4 0 [.ref h, .int col, .int v] ws (fun u => xQ q (q + 9) ws u ∧ xMach g u q h o d r (xg_up M k (n - 1) v) ix n) := by
  unfold xMv
  refine x_in (by decide) (Nat.le_of_ble_eq_true rfl) ?_
  intro p e s m below meth c ls E hr hin hP hD hl
  obtain ⟨hx, hb, hml, hown, hts, hK, hZ, hb0, hlocks⟩ := id E
  have hS : va_S (xA b0) s.heap s.heap [] := va_S.rf
  have hl : lv_has ls 4 [(0, .ref h), (1, .int col), (2, .int v)] := hl
  obtain ⟨e0, e1, e2, e3⟩ := id hT
  have hQ : xQ q (q + 9) ws ws := xQ.rf
  refine lv_aload_n hx hb d_Mc_setLatest_0 rfl (lv_at hl 0 rfl) ?_
  refine x_get E hP e0 rfl cl2_in 2 (by decide) wf_Mc_23 rfl d_Mc_setLatest_1 ?_
  refine lv_iconst (v := 1) hx hb d_Mc_setLatest_4 (by decide) ?_
  refine lv_isub hx hb d_Mc_setLatest_5 ?_
  refine x_top (y := nI (n - 1)) (pk_sub (b := 1) hn1) ?_
  refine lv_istore_n (lv' := [(3, .int (nI (n - 1))), (0, .ref h), (1, .int col), (2, .int v)]) hx hb d_Mc_setLatest_6 rfl hl (by decide) rfl (fun ls hl => ?_)
  refine lv_iload_n hx hb d_Mc_setLatest_7 rfl (lv_at hl 0 rfl) ?_
  refine lv_if_lt (tgt := 36) hx hb d_Mc_setLatest_8 (by decide) (fun c8 => absurd c8 (nI_pos (by omega))) (fun c8 => ?_)
  refine lv_iload_n hx hb d_Mc_setLatest_11 rfl (lv_at hl 0 rfl) ?_
  refine lv_bipush (v := 24) hx hb d_Mc_setLatest_12 (by decide) ?_
  refine lv_icmp_ge (tgt := 36) hx hb d_Mc_setLatest_14 (by decide) (fun c14 => absurd c14 (nI_ge (b := 24) (by omega) (by decide))) (fun c14 => ?_)
  refine lv_iload_n hx hb d_Mc_setLatest_17 rfl (lv_at hl 2 rfl) ?_
  refine lv_if_lt (tgt := 36) hx hb d_Mc_setLatest_18 (by decide) (fun c18 => absurd c18 (by rw [hk]; exact nI_pos (by omega))) (fun c18 => ?_)
  refine lv_iload_n hx hb d_Mc_setLatest_21 rfl (lv_at hl 2 rfl) ?_
  refine lv_bipush (v := 6) hx hb d_Mc_setLatest_22 (by decide) ?_
  refine lv_icmp_ge (tgt := 36) hx hb d_Mc_setLatest_24 (by decide) (fun c24 => absurd c24 (by rw [hk]; exact nI_ge (b := 6) (by omega) (by decide))) (fun c24 => ?_)
  refine lv_aload_n hx hb d_Mc_setLatest_27 rfl (lv_at hl 1 rfl) ?_
  refine x_get E hP e0 rfl cl2_in 0 (by decide) wf_Mc_11 rfl d_Mc_setLatest_28 ?_
  refine lv_iload_n hx hb d_Mc_setLatest_31 rfl (lv_at hl 2 rfl) ?_
  refine x_aald E hP e1 (j := k) hk hk6 (by decide) rfl d_Mc_setLatest_32 ?_
  refine lv_iload_n hx hb d_Mc_setLatest_33 rfl (lv_at hl 0 rfl) ?_
  refine lv_iload_n hx hb d_Mc_setLatest_34 rfl (lv_at hl 3 rfl) ?_
  refine x_iast E hP hD hS (e3 k hk6) (j := n - 1) rfl (by omega) (by decide) d_Mc_setLatest_35 (fun w1 H locs hU1 hP hD hS => ?_)
  have e3 : ∀ j, j < 6 → w1[q + 2 + j]? = some (r j, .inl (cI g, 24, .inl (xg_up M k (n - 1) v j))) := xg_put e3 hU1
  have e0 : w1[q]? = some (h, .inr (2, [.ref o, .ref d, .int (nI n)])) := (hU1.2 _ (by omega)).trans e0
  have e1 : w1[q + 1]? = some (o, .inl (cG g, 6, .inr (.inr (.inr (.inr (fun j => some (r j))))))) := (hU1.2 _ (by omega)).trans e1
  have e2 : w1[q + 8]? = some (d, .inl (cI g, 30, .inl ix)) := (hU1.2 _ (by omega)).trans e2
  have hQ := hQ.up hU1 (by omega)
  exact x_rv E hr hS ⟨hQ, e0, e1, e2, e3⟩ hP hD d_Mc_setLatest_36
set_option maxRecDepth 100000 in
set_option maxHeartbeats 4000000 in
theorem c_Mc_clear (l : Launch) (g : xG) (b0 : Nat) (ws : va_W) {q h o d n : Nat} {r : Nat → Nat} {M : Nat → Nat → Int32} {ix : Nat → Int32} (hT : xMach g ws q h o d r M ix n) (hn : n ≤ 24) : xMv l g b0 y_Mc_clear b_Mc_clear 2 0 [.ref h] ws (fun u => xQ q (q + 9) ws u ∧ ∃ ix', xMach g u q h o d r M ix' 0 ∧ ∀ j, j < 30 → ix' j = -1) := by
  unfold xMv
  refine x_in (by decide) (Nat.le_of_ble_eq_true rfl) ?_
  intro p e s m below meth c ls E hr hin hP hD hl
  obtain ⟨hx, hb, hml, hown, hts, hK, hZ, hb0, hlocks⟩ := id E
  have hS : va_S (xA b0) s.heap s.heap [] := va_S.rf
  have hl : lv_has ls 2 [(0, .ref h)] := hl
  obtain ⟨e0, e1, e2, e3⟩ := id hT
  have hQ : xQ q (q + 9) ws ws := xQ.rf
  refine lv_aload_n hx hb d_Mc_clear_0 rfl (lv_at hl 0 rfl) ?_
  refine lv_iconst (v := 0) hx hb d_Mc_clear_1 (by decide) ?_
  refine x_put E hP hD hS e0 rfl cl2_in cl2_ty cl2_nm 2 (by decide) wf_Mc_23 rfl rfl rfl (Nat.le_of_ble_eq_true rfl) d_Mc_clear_2 (fun w1 H locs hU1 hP hD hS => ?_)
  have e0 : w1[q]? = some (h, .inr (2, [.ref o, .ref d, .int 0])) := hU1.1
  have e1 : w1[q + 1]? = some (o, .inl (cG g, 6, .inr (.inr (.inr (.inr (fun j => some (r j))))))) := (hU1.2 _ (by omega)).trans e1
  have e2 : w1[q + 8]? = some (d, .inl (cI g, 30, .inl ix)) := (hU1.2 _ (by omega)).trans e2
  have e3 : ∀ j, j < 6 → w1[q + 2 + j]? = some (r j, .inl (cI g, 24, .inl (M j))) := fun j hj => (hU1.2 _ (by omega)).trans (e3 j hj)
  have hQ := hQ.up hU1 (by omega)
  refine lv_iconst (v := 0) hx hb d_Mc_clear_5 (by decide) ?_
  refine lv_istore_n (lv' := [(1, .int 0), (0, .ref h)]) hx hb d_Mc_clear_6 rfl hl (by decide) rfl (fun ls hl => ?_)
  have loop : ∀ (k i : Nat) (ix : Nat → Int32) (w : va_W) (H : Heap) (locs : List Loc) (ls : Array Slot), (30 < i + k) → (i ≤ 30) → (∀ j, j < i → ix j = -1) → (lv_has ls 2 [(1, .int (nI i)), (0, .ref h)]) → (va_P (xD g) vwCl w H) → (va_D (xA b0) w) → (va_S (xA b0) s.heap H locs) → (xQ q (q + 9) ws w) → (w[q]? = some (h, .inr (2, [.ref o, .ref d, .int 0]))) → (w[q + 1]? = some (o, .inl (cG g, 6, .inr (.inr (.inr (.inr (fun j => some (r j)))))))) → (w[q + 8]? = some (d, .inl (cI g, 30, .inl ix))) → (∀ j, j < 6 → w[q + 2 + j]? = some (r j, .inl (cI g, 24, .inl (M j)))) → W p l e (rmL 0) s m ([.ref h] : List Value).toArray below meth c H locs 0 0 (MQ below (va_Qv (fun u => xQ q (q + 9) ws u ∧ ∃ ix', xMach g u q h o d r M ix' 0 ∧ ∀ j, j < 30 → ix' j = -1) (fun u t => va_P (xD g) vwCl u t.heap ∧ va_D (xA b0) u) (xA b0)) ([.ref h] : List Value).toArray s 0 0 (xA b0)) (F0 m 7 ls []) := by
    intro k
    induction k with
    | zero =>
      intro i ix w H locs ls hk hi hx0 hl hP hD hS hQ e0 e1 e2 e3
      omega
    | succ k ih =>
      intro i ix w H locs ls hk hi hx0 hl hP hD hS hQ e0 e1 e2 e3
      refine lv_iload_n hx hb d_Mc_clear_7 rfl (lv_at hl 0 rfl) ?_
      refine lv_aload_n hx hb d_Mc_clear_8 rfl (lv_at hl 1 rfl) ?_
      refine x_get E hP e0 rfl cl2_in 1 (by decide) wf_Mc_16 rfl d_Mc_clear_9 ?_
      refine x_ilen E hP e2 d_Mc_clear_12 ?_
      refine lv_icmp_ge (tgt := 29) hx hb d_Mc_clear_13 (by decide) (fun c13 => ?_) (fun c13 => ?_)
      · have hi9 : 30 ≤ i := (nI_leI (by omega) (by omega)).mp c13
        exact x_rv E hr hS ⟨hQ, ix, ⟨e0, e1, e2, e3⟩, fun j hj => hx0 j (by omega)⟩ hP hD d_Mc_clear_29
      · have hi9 : i < 30 := Nat.not_le.mp fun h => c13 (nI_le h (by omega))
        refine lv_aload_n hx hb d_Mc_clear_16 rfl (lv_at hl 1 rfl) ?_
        refine x_get E hP e0 rfl cl2_in 1 (by decide) wf_Mc_16 rfl d_Mc_clear_17 ?_
        refine lv_iload_n hx hb d_Mc_clear_20 rfl (lv_at hl 0 rfl) ?_
        refine lv_iconst (v := (-1)) hx hb d_Mc_clear_21 (by decide) ?_
        refine x_iast E hP hD hS e2 (j := i) rfl hi9 (by decide) d_Mc_clear_22 (fun w52 H locs hU52 hP hD hS => ?_)
        have e2 : w52[q + 8]? = some (d, .inl (cI g, 30, .inl (upd ix i (-1)))) := hU52.1
        have e0 : w52[q]? = some (h, .inr (2, [.ref o, .ref d, .int 0])) := (hU52.2 _ (by omega)).trans e0
        have e1 : w52[q + 1]? = some (o, .inl (cG g, 6, .inr (.inr (.inr (.inr (fun j => some (r j))))))) := (hU52.2 _ (by omega)).trans e1
        have e3 : ∀ j, j < 6 → w52[q + 2 + j]? = some (r j, .inl (cI g, 24, .inl (M j))) := fun j hj => (hU52.2 _ (by omega)).trans (e3 j hj)
        have hQ := hQ.up hU52 (by omega)
        refine lv_iinc (v := nI (i + 1)) (lv' := [(1, .int (nI (i + 1))), (0, .ref h)]) hx hb d_Mc_clear_23 hl (k := 0) rfl (nI_1 i) (by decide) rfl (fun ls hl => ?_)
        refine lv_goto (tgt := 7) hx hb d_Mc_clear_26 (by decide) ?_
        exact ih (i + 1) (upd ix i (-1)) _ _ _ _ (by omega) (by omega) (fun j hj => by
            by_cases e9 : j = i
            · rw [e9, pk_us]
            · rw [pk_un e9]; exact hx0 j (by omega)) hl hP hD hS hQ e0 e1 e2 e3
  exact loop 31 0 ix _ _ _ _ (by omega) (by omega) (fun j hj => absurd hj (Nat.not_lt_zero j)) hl hP hD hS hQ e0 e1 e2 e3
def mc_clr (n : Nat) (k : Nat) (M : Nat → Nat → Int32) : Nat → Nat → Int32 := xg_up M k n (-1)
def mc_new (M : Nat → Nat → Int32) (n : Nat) (kd nm : Int32) : Nat → Nat → Int32 := xg_up (xg_up (it (mc_clr n) 6 M) 0 n kd) 1 n nm
set_option maxRecDepth 100000 in
set_option maxHeartbeats 4000000 in
theorem c_Mc_addPart (l : Launch) (g : xG) (b0 : Nat) (ws : va_W) {q h o d n : Nat} {r : Nat → Nat} {M : Nat → Nat → Int32} {ix : Nat → Int32} (hT : xMach g ws q h o d r M ix n) (hn : n < 24) (kd name : Int32) (nm : Nat) (hnm : name = nI nm) (hnm30 : nm < 30) : xMv l g b0 y_Mc_addPart b_Mc_addPart 4 1 [.ref h, .int kd, .int name] ws (fun u => xQ q (q + 9) ws u ∧ xMach g u q h o d r (mc_new M n kd name) (upd ix nm (nI n)) (n + 1)) := by
  unfold xMv
  refine x_in (by decide) (Nat.le_of_ble_eq_true rfl) ?_
  intro p e s m below meth c ls E hr hin hP hD hl
  obtain ⟨hx, hb, hml, hown, hts, hK, hZ, hb0, hlocks⟩ := id E
  have hS : va_S (xA b0) s.heap s.heap [] := va_S.rf
  have hl : lv_has ls 4 [(0, .ref h), (1, .int kd), (2, .int name)] := hl
  obtain ⟨e0, e1, e2, e3⟩ := id hT
  have hQ : xQ q (q + 9) ws ws := xQ.rf
  refine lv_aload_n hx hb d_Mc_addPart_0 rfl (lv_at hl 0 rfl) ?_
  refine x_get E hP e0 rfl cl2_in 2 (by decide) wf_Mc_23 rfl d_Mc_addPart_1 ?_
  refine lv_if_lt (tgt := 29) hx hb d_Mc_addPart_4 (by decide) (fun c4 => absurd c4 (nI_pos (by omega))) (fun c4 => ?_)
  refine lv_aload_n hx hb d_Mc_addPart_7 rfl (lv_at hl 0 rfl) ?_
  refine x_get E hP e0 rfl cl2_in 2 (by decide) wf_Mc_23 rfl d_Mc_addPart_8 ?_
  refine lv_bipush (v := 24) hx hb d_Mc_addPart_11 (by decide) ?_
  refine lv_icmp_ge (tgt := 29) hx hb d_Mc_addPart_13 (by decide) (fun c13 => absurd c13 (nI_ge (b := 24) (by omega) (by decide))) (fun c13 => ?_)
  refine lv_iload_n hx hb d_Mc_addPart_16 rfl (lv_at hl 2 rfl) ?_
  refine lv_if_lt (tgt := 29) hx hb d_Mc_addPart_17 (by decide) (fun c17 => absurd c17 (by rw [hnm]; exact nI_pos (by omega))) (fun c17 => ?_)
  refine lv_iload_n hx hb d_Mc_addPart_20 rfl (lv_at hl 2 rfl) ?_
  refine lv_aload_n hx hb d_Mc_addPart_21 rfl (lv_at hl 0 rfl) ?_
  refine x_get E hP e0 rfl cl2_in 1 (by decide) wf_Mc_16 rfl d_Mc_addPart_22 ?_
  refine x_ilen E hP e2 d_Mc_addPart_25 ?_
  refine lv_icmp_lt (tgt := 30) hx hb d_Mc_addPart_26 (by decide) (fun c26 => ?_) (fun c26 => absurd (by rw [hnm]; exact nI_lt (by omega) (by decide)) c26)
  refine lv_aload_n hx hb d_Mc_addPart_30 rfl (lv_at hl 0 rfl) ?_
  refine x_get E hP e0 rfl cl2_in 1 (by decide) wf_Mc_16 rfl d_Mc_addPart_31 ?_
  refine lv_iload_n hx hb d_Mc_addPart_34 rfl (lv_at hl 2 rfl) ?_
  refine lv_aload_n hx hb d_Mc_addPart_35 rfl (lv_at hl 0 rfl) ?_
  refine x_get E hP e0 rfl cl2_in 2 (by decide) wf_Mc_23 rfl d_Mc_addPart_36 ?_
  refine x_iast E hP hD hS e2 (j := nm) hnm hnm30 (by decide) d_Mc_addPart_39 (fun w1 H locs hU1 hP hD hS => ?_)
  have e2 : w1[q + 8]? = some (d, .inl (cI g, 30, .inl (upd ix nm (nI n)))) := hU1.1
  have e0 : w1[q]? = some (h, .inr (2, [.ref o, .ref d, .int (nI n)])) := (hU1.2 _ (by omega)).trans e0
  have e1 : w1[q + 1]? = some (o, .inl (cG g, 6, .inr (.inr (.inr (.inr (fun j => some (r j))))))) := (hU1.2 _ (by omega)).trans e1
  have e3 : ∀ j, j < 6 → w1[q + 2 + j]? = some (r j, .inl (cI g, 24, .inl (M j))) := fun j hj => (hU1.2 _ (by omega)).trans (e3 j hj)
  have hQ := hQ.up hU1 (by omega)
  refine lv_aload_n hx hb d_Mc_addPart_40 rfl (lv_at hl 0 rfl) ?_
  refine lv_dup hx hb d_Mc_addPart_41 rfl ?_
  refine x_get E hP e0 rfl cl2_in 2 (by decide) wf_Mc_23 rfl d_Mc_addPart_42 ?_
  refine lv_iconst (v := 1) hx hb d_Mc_addPart_45 (by decide) ?_
  refine lv_iadd hx hb d_Mc_addPart_46 ?_
  refine x_top (y := nI (n + 1)) (nI_1 n) ?_
  refine x_put E hP hD hS e0 rfl cl2_in cl2_ty cl2_nm 2 (by decide) wf_Mc_23 rfl rfl rfl (Nat.le_of_ble_eq_true rfl) d_Mc_addPart_47 (fun w2 H locs hU2 hP hD hS => ?_)
  have e0 : w2[q]? = some (h, .inr (2, [.ref o, .ref d, .int (nI (n + 1))])) := hU2.1
  have e1 : w2[q + 1]? = some (o, .inl (cG g, 6, .inr (.inr (.inr (.inr (fun j => some (r j))))))) := (hU2.2 _ (by omega)).trans e1
  have e2 : w2[q + 8]? = some (d, .inl (cI g, 30, .inl (upd ix nm (nI n)))) := (hU2.2 _ (by omega)).trans e2
  have e3 : ∀ j, j < 6 → w2[q + 2 + j]? = some (r j, .inl (cI g, 24, .inl (M j))) := fun j hj => (hU2.2 _ (by omega)).trans (e3 j hj)
  have hQ := hQ.up hU2 (by omega)
  refine lv_iconst (v := 0) hx hb d_Mc_addPart_50 (by decide) ?_
  refine lv_istore_n (lv' := [(3, .int 0), (0, .ref h), (1, .int kd), (2, .int name)]) hx hb d_Mc_addPart_51 rfl hl (by decide) rfl (fun ls hl => ?_)
  have loop : ∀ (k i : Nat)  (w : va_W) (H : Heap) (locs : List Loc) (ls : Array Slot), (6 < i + k) → (i ≤ 6) → (lv_has ls 4 [(3, .int (nI i)), (0, .ref h), (1, .int kd), (2, .int name)]) → (va_P (xD g) vwCl w H) → (va_D (xA b0) w) → (va_S (xA b0) s.heap H locs) → (xQ q (q + 9) ws w) → (xMach g w q h o d r (it (mc_clr n) i M) (upd ix nm (nI n)) (n + 1)) → W p l e (rmL 1) s m ([.ref h, .int kd, .int name] : List Value).toArray below meth c H locs 0 0 (MQ below (va_Qv (fun u => xQ q (q + 9) ws u ∧ xMach g u q h o d r (mc_new M n kd name) (upd ix nm (nI n)) (n + 1)) (fun u t => va_P (xD g) vwCl u t.heap ∧ va_D (xA b0) u) (xA b0)) ([.ref h, .int kd, .int name] : List Value).toArray s 0 0 (xA b0)) (F0 m 52 ls []) := by
    intro k
    induction k with
    | zero =>
      intro i w H locs ls hk hi hl hP hD hS hQ eT
      omega
    | succ k ih =>
      intro i w H locs ls hk hi hl hP hD hS hQ eT
      refine lv_iload_n hx hb d_Mc_addPart_52 rfl (lv_at hl 0 rfl) ?_
      refine lv_bipush (v := 6) hx hb d_Mc_addPart_53 (by decide) ?_
      refine lv_icmp_ge (tgt := 70) hx hb d_Mc_addPart_55 (by decide) (fun c55 => ?_) (fun c55 => ?_)
      · have hi9 : i = 6 := by
          have := (nI_leI (a := 6) (by decide) (by omega)).mp c55
          omega
        rw [hi9] at eT
        refine lv_aload_n hx hb d_Mc_addPart_70 rfl (lv_at hl 1 rfl) ?_
        refine lv_iconst (v := 0) hx hb d_Mc_addPart_71 (by decide) ?_
        refine lv_iload_n hx hb d_Mc_addPart_72 rfl (lv_at hl 2 rfl) ?_
        refine x_cVv (As := [.int 0, .int kd]) (rest := []) E (c_Mc_setLatest l g b0 _ eT (by omega) (by omega) 0 kd 0 rfl (by decide)) wy_Mc_setLatest wl_Mc_27 hP hD hS eT.1 rfl hl.1 ⟨by decide, by decide⟩ ⟨Nat.le_refl _, Nat.le_refl _⟩ rfl (Nat.le_of_ble_eq_true rfl) d_Mc_addPart_73 (fun w53 H locs hr73 hP hD hS => ?_)
        obtain ⟨hq, eT⟩ := hr73
        have hQ := hQ.tr hq
        have eT : xMach g w53 q h o d r (xg_up (it (mc_clr n) 6 M) 0 n kd) (upd ix nm (nI n)) (n + 1) := eT
        refine lv_aload_n hx hb d_Mc_addPart_76 rfl (lv_at hl 1 rfl) ?_
        refine lv_iconst (v := 1) hx hb d_Mc_addPart_77 (by decide) ?_
        refine lv_iload_n hx hb d_Mc_addPart_78 rfl (lv_at hl 3 rfl) ?_
        refine x_cVv (As := [.int 1, .int name]) (rest := []) E (c_Mc_setLatest l g b0 _ eT (by omega) (by omega) 1 name 1 rfl (by decide)) wy_Mc_setLatest wl_Mc_27 hP hD hS eT.1 rfl hl.1 ⟨by decide, by decide⟩ ⟨Nat.le_refl _, Nat.le_refl _⟩ rfl (Nat.le_of_ble_eq_true rfl) d_Mc_addPart_79 (fun w54 H locs hr79 hP hD hS => ?_)
        obtain ⟨hq, eT⟩ := hr79
        have hQ := hQ.tr hq
        have eT : xMach g w54 q h o d r (mc_new M n kd name) (upd ix nm (nI n)) (n + 1) := eT
        exact x_rv E hr hS ⟨hQ, eT⟩ hP hD d_Mc_addPart_82
      · have hi9 : i < 6 := Nat.not_le.mp fun h => c55 (nI_le (a := 6) h (by omega))
        refine lv_aload_n hx hb d_Mc_addPart_58 rfl (lv_at hl 1 rfl) ?_
        refine lv_iload_n hx hb d_Mc_addPart_59 rfl (lv_at hl 0 rfl) ?_
        refine lv_iconst (v := (-1)) hx hb d_Mc_addPart_60 (by decide) ?_
        refine x_cVv (As := [.int (nI i), .int (-1)]) (rest := []) E (c_Mc_setLatest l g b0 _ eT (by omega) (by omega) (nI i) (-1) i rfl hi9) wy_Mc_setLatest wl_Mc_27 hP hD hS eT.1 rfl hl.1 ⟨by decide, by decide⟩ ⟨Nat.le_refl _, Nat.le_refl _⟩ rfl (Nat.le_of_ble_eq_true rfl) d_Mc_addPart_61 (fun w53 H locs hr61 hP hD hS => ?_)
        obtain ⟨hq, eT⟩ := hr61
        have hQ := hQ.tr hq
        have eT : xMach g w53 q h o d r (it (mc_clr n) (i + 1) M) (upd ix nm (nI n)) (n + 1) := eT
        refine lv_iinc (v := nI (i + 1)) (lv' := [(3, .int (nI (i + 1))), (0, .ref h), (1, .int kd), (2, .int name)]) hx hb d_Mc_addPart_64 hl (k := 0) rfl (nI_1 i) (by decide) rfl (fun ls hl => ?_)
        refine lv_goto (tgt := 52) hx hb d_Mc_addPart_67 (by decide) ?_
        exact ih (i + 1) _ _ _ _ (by omega) (by omega) hl hP hD hS hQ eT
  have eT : xMach g _ q h o d r (it (mc_clr n) 0 M) (upd ix nm (nI n)) (n + 1) := ⟨e0, e1, e2, e3⟩
  exact loop 7 0 _ _ _ _ (by omega) (by omega) hl hP hD hS hQ eT
