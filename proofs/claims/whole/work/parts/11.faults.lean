def fl_val (F : Nat → Nat → Int32) (n : Nat) (i col : Int32) : Int32 := if i < 0 then -1 else if nI n ≤ i then -1 else if col < 0 then -1 else if col < 3 then F col.toNatClampNeg i.toNatClampNeg else -1
set_option maxRecDepth 100000 in
set_option maxHeartbeats 4000000 in
theorem c_Fl_value (l : Launch) (g : xG) (b0 : Nat) (ws : va_W) {q h o n : Nat} {r : Nat → Nat} {F : Nat → Nat → Int32} (hT : xFlt g ws q h o r F n) (hn : n ≤ 168) (i col : Int32) : xRi l g b0 y_Fl_value b_Fl_value 3 (some .int) 0 [.ref h, .int i, .int col] ws (fun r => r = fl_val F n i col) := by
  unfold xRi
  refine x_in (by decide) (Nat.le_of_ble_eq_true rfl) ?_
  intro p e s m below meth c ls E hr hin hP hD hl
  obtain ⟨hx, hb, hml, hown, hts, hK, hZ, hb0, hlocks⟩ := id E
  have hS : va_S (xA b0) s.heap s.heap [] := va_S.rf
  have hl : lv_has ls 3 [(0, .ref h), (1, .int i), (2, .int col)] := hl
  obtain ⟨e0, e1, e2⟩ := id hT
  refine lv_iload_n hx hb d_Fl_value_0 rfl (lv_at hl 1 rfl) ?_
  refine lv_if_lt (tgt := 28) hx hb d_Fl_value_1 (by decide) (fun c1 => ?_) (fun c1 => ?_)
  · refine lv_iconst (v := (-1)) hx hb d_Fl_value_28 (by decide) ?_
    exact x_pi E hr (by rw [fl_val, if_pos c1]) d_Fl_value_29
  · refine lv_iload_n hx hb d_Fl_value_4 rfl (lv_at hl 1 rfl) ?_
    refine lv_aload_n hx hb d_Fl_value_5 rfl (lv_at hl 0 rfl) ?_
    refine x_get E hP e0 rfl cl5_in 1 (by decide) wf_Fl_16 rfl d_Fl_value_6 ?_
    refine lv_icmp_ge (tgt := 28) hx hb d_Fl_value_9 (by decide) (fun c9 => ?_) (fun c9 => ?_)
    · refine lv_iconst (v := (-1)) hx hb d_Fl_value_28 (by decide) ?_
      exact x_pi E hr (by rw [fl_val, if_neg c1, if_pos c9]) d_Fl_value_29
    · obtain ⟨i0, hi0, hi⟩ := x_ix (by omega) c1 c9
      refine lv_iload_n hx hb d_Fl_value_12 rfl (lv_at hl 1 rfl) ?_
      refine lv_sipush (v := 168) hx hb d_Fl_value_13 (by decide) ?_
      refine lv_icmp_ge (tgt := 28) hx hb d_Fl_value_16 (by decide) (fun c16 => absurd c16 (by rw [hi]; exact nI_ge (b := 168) (by omega) (by decide))) (fun c16 => ?_)
      refine lv_iload_n hx hb d_Fl_value_19 rfl (lv_at hl 2 rfl) ?_
      refine lv_if_lt (tgt := 28) hx hb d_Fl_value_20 (by decide) (fun c20 => ?_) (fun c20 => ?_)
      · refine lv_iconst (v := (-1)) hx hb d_Fl_value_28 (by decide) ?_
        exact x_pi E hr (by rw [fl_val, if_neg c1, if_neg c9, if_pos c20]) d_Fl_value_29
      · refine lv_iload_n hx hb d_Fl_value_23 rfl (lv_at hl 2 rfl) ?_
        refine lv_iconst (v := 3) hx hb d_Fl_value_24 (by decide) ?_
        refine lv_icmp_lt (tgt := 30) hx hb d_Fl_value_25 (by decide) (fun c25 => ?_) (fun c25 => ?_)
        · obtain ⟨k0, hk0, hk⟩ := x_ixl (n := 3) (by decide) c20 c25
          refine lv_aload_n hx hb d_Fl_value_30 rfl (lv_at hl 0 rfl) ?_
          refine x_get E hP e0 rfl cl5_in 0 (by decide) wf_Fl_11 rfl d_Fl_value_31 ?_
          refine lv_iload_n hx hb d_Fl_value_34 rfl (lv_at hl 2 rfl) ?_
          refine x_aald E hP e1 (j := k0) hk hk0 (by decide) rfl d_Fl_value_35 ?_
          refine lv_iload_n hx hb d_Fl_value_36 rfl (lv_at hl 1 rfl) ?_
          refine x_iald E hP (e2 k0 hk0) (j := i0) hi (by omega) (by decide) d_Fl_value_37 ?_
          exact x_pi E hr (by rw [fl_val, if_neg c1, if_neg c9, if_neg c20, if_pos c25, hi, hk, nI_clamp (by omega), nI_clamp (by omega)]) d_Fl_value_38
        · refine lv_iconst (v := (-1)) hx hb d_Fl_value_28 (by decide) ?_
          exact x_pi E hr (by rw [fl_val, if_neg c1, if_neg c9, if_neg c20, if_neg c25]) d_Fl_value_29
abbrev fl_S : Type := (Nat → Nat → Int32) × Nat
def fl_add (f : fl_S) (k a w : Int32) : fl_S := (xg_up (xg_up (xg_up f.1 0 f.2 k) 1 f.2 a) 2 f.2 w, f.2 + 1)
def xFs (g : xG) (ws : va_W) (q h o : Nat) (r : Nat → Nat) (f : fl_S) : Prop := xFlt g ws q h o r f.1 f.2
set_option maxRecDepth 100000 in
set_option maxHeartbeats 4000000 in
theorem c_Fl_add (l : Launch) (g : xG) (b0 : Nat) (ws : va_W) {q h o n : Nat} {r : Nat → Nat} {F : Nat → Nat → Int32} (hT : xFlt g ws q h o r F n) (hn : n < 168) (k x w : Int32) : xMv l g b0 y_Fl_add b_Fl_add 4 0 [.ref h, .int k, .int x, .int w] ws (fun u => xQ q (q + 5) ws u ∧ xFs g u q h o r (fl_add (F, n) k x w)) := by
  unfold xMv
  refine x_in (by decide) (Nat.le_of_ble_eq_true rfl) ?_
  intro p e s m below meth c ls E hr hin hP hD hl
  obtain ⟨hx, hb, hml, hown, hts, hK, hZ, hb0, hlocks⟩ := id E
  have hS : va_S (xA b0) s.heap s.heap [] := va_S.rf
  have hl : lv_has ls 4 [(0, .ref h), (1, .int k), (2, .int x), (3, .int w)] := hl
  obtain ⟨e0, e1, e2⟩ := id hT
  have hQ : xQ q (q + 5) ws ws := xQ.rf
  refine lv_aload_n hx hb d_Fl_add_0 rfl (lv_at hl 0 rfl) ?_
  refine x_get E hP e0 rfl cl5_in 1 (by decide) wf_Fl_16 rfl d_Fl_add_1 ?_
  refine lv_if_lt (tgt := 17) hx hb d_Fl_add_4 (by decide) (fun c4 => absurd c4 (nI_pos (by omega))) (fun c4 => ?_)
  refine lv_aload_n hx hb d_Fl_add_7 rfl (lv_at hl 0 rfl) ?_
  refine x_get E hP e0 rfl cl5_in 1 (by decide) wf_Fl_16 rfl d_Fl_add_8 ?_
  refine lv_sipush (v := 168) hx hb d_Fl_add_11 (by decide) ?_
  refine lv_icmp_lt (tgt := 18) hx hb d_Fl_add_14 (by decide) (fun c14 => ?_) (fun c14 => absurd (nI_lt (b := 168) (by omega) (by decide)) c14)
  refine lv_aload_n hx hb d_Fl_add_18 rfl (lv_at hl 0 rfl) ?_
  refine x_get E hP e0 rfl cl5_in 0 (by decide) wf_Fl_11 rfl d_Fl_add_19 ?_
  refine lv_iconst (v := 0) hx hb d_Fl_add_22 (by decide) ?_
  refine x_aald E hP e1 (j := 0) rfl (by decide) (by decide) rfl d_Fl_add_23 ?_
  refine lv_aload_n hx hb d_Fl_add_24 rfl (lv_at hl 0 rfl) ?_
  refine x_get E hP e0 rfl cl5_in 1 (by decide) wf_Fl_16 rfl d_Fl_add_25 ?_
  refine lv_iload_n hx hb d_Fl_add_28 rfl (lv_at hl 1 rfl) ?_
  refine x_iast E hP hD hS (e2 0 (by decide)) (j := n) rfl hn (by decide) d_Fl_add_29 (fun w1 H locs hU1 hP hD hS => ?_)
  have e2 : ∀ j, j < 3 → w1[q + 2 + j]? = some (r j, .inl (cI g, 168, .inl (xg_up F 0 n k j))) := xg_put e2 hU1
  have e0 : w1[q]? = some (h, .inr (5, [.ref o, .int (nI n)])) := (hU1.2 _ (by omega)).trans e0
  have e1 : w1[q + 1]? = some (o, .inl (cG g, 3, .inr (.inr (.inr (.inr (fun j => some (r j))))))) := (hU1.2 _ (by omega)).trans e1
  have hQ := hQ.up hU1 (by omega)
  refine lv_aload_n hx hb d_Fl_add_30 rfl (lv_at hl 0 rfl) ?_
  refine x_get E hP e0 rfl cl5_in 0 (by decide) wf_Fl_11 rfl d_Fl_add_31 ?_
  refine lv_iconst (v := 1) hx hb d_Fl_add_34 (by decide) ?_
  refine x_aald E hP e1 (j := 1) rfl (by decide) (by decide) rfl d_Fl_add_35 ?_
  refine lv_aload_n hx hb d_Fl_add_36 rfl (lv_at hl 0 rfl) ?_
  refine x_get E hP e0 rfl cl5_in 1 (by decide) wf_Fl_16 rfl d_Fl_add_37 ?_
  refine lv_iload_n hx hb d_Fl_add_40 rfl (lv_at hl 2 rfl) ?_
  refine x_iast E hP hD hS (e2 1 (by decide)) (j := n) rfl hn (by decide) d_Fl_add_41 (fun w2 H locs hU2 hP hD hS => ?_)
  have e2 : ∀ j, j < 3 → w2[q + 2 + j]? = some (r j, .inl (cI g, 168, .inl (xg_up (xg_up F 0 n k) 1 n x j))) := xg_put e2 hU2
  have e0 : w2[q]? = some (h, .inr (5, [.ref o, .int (nI n)])) := (hU2.2 _ (by omega)).trans e0
  have e1 : w2[q + 1]? = some (o, .inl (cG g, 3, .inr (.inr (.inr (.inr (fun j => some (r j))))))) := (hU2.2 _ (by omega)).trans e1
  have hQ := hQ.up hU2 (by omega)
  refine lv_aload_n hx hb d_Fl_add_42 rfl (lv_at hl 0 rfl) ?_
  refine x_get E hP e0 rfl cl5_in 0 (by decide) wf_Fl_11 rfl d_Fl_add_43 ?_
  refine lv_iconst (v := 2) hx hb d_Fl_add_46 (by decide) ?_
  refine x_aald E hP e1 (j := 2) rfl (by decide) (by decide) rfl d_Fl_add_47 ?_
  refine lv_aload_n hx hb d_Fl_add_48 rfl (lv_at hl 0 rfl) ?_
  refine x_get E hP e0 rfl cl5_in 1 (by decide) wf_Fl_16 rfl d_Fl_add_49 ?_
  refine lv_iload_n hx hb d_Fl_add_52 rfl (lv_at hl 3 rfl) ?_
  refine x_iast E hP hD hS (e2 2 (by decide)) (j := n) rfl hn (by decide) d_Fl_add_53 (fun w3 H locs hU3 hP hD hS => ?_)
  have e2 : ∀ j, j < 3 → w3[q + 2 + j]? = some (r j, .inl (cI g, 168, .inl (xg_up (xg_up (xg_up F 0 n k) 1 n x) 2 n w j))) := xg_put e2 hU3
  have e0 : w3[q]? = some (h, .inr (5, [.ref o, .int (nI n)])) := (hU3.2 _ (by omega)).trans e0
  have e1 : w3[q + 1]? = some (o, .inl (cG g, 3, .inr (.inr (.inr (.inr (fun j => some (r j))))))) := (hU3.2 _ (by omega)).trans e1
  have hQ := hQ.up hU3 (by omega)
  refine lv_aload_n hx hb d_Fl_add_54 rfl (lv_at hl 0 rfl) ?_
  refine lv_dup hx hb d_Fl_add_55 rfl ?_
  refine x_get E hP e0 rfl cl5_in 1 (by decide) wf_Fl_16 rfl d_Fl_add_56 ?_
  refine lv_iconst (v := 1) hx hb d_Fl_add_59 (by decide) ?_
  refine lv_iadd hx hb d_Fl_add_60 ?_
  refine x_top (y := nI (n + 1)) (nI_1 n) ?_
  refine x_put E hP hD hS e0 rfl cl5_in cl5_ty cl5_nm 1 (by decide) wf_Fl_16 rfl rfl rfl (Nat.le_of_ble_eq_true rfl) d_Fl_add_61 (fun w4 H locs hU4 hP hD hS => ?_)
  have e0 : w4[q]? = some (h, .inr (5, [.ref o, .int (nI (n + 1))])) := hU4.1
  have e1 : w4[q + 1]? = some (o, .inl (cG g, 3, .inr (.inr (.inr (.inr (fun j => some (r j))))))) := (hU4.2 _ (by omega)).trans e1
  have e2 : ∀ j, j < 3 → w4[q + 2 + j]? = some (r j, .inl (cI g, 168, .inl (xg_up (xg_up (xg_up F 0 n k) 1 n x) 2 n w j))) := fun j hj => (hU4.2 _ (by omega)).trans (e2 j hj)
  have hQ := hQ.up hU4 (by omega)
  exact x_rv E hr hS ⟨hQ, e0, e1, e2⟩ hP hD d_Fl_add_64
def fl_slow (M : Nat → Nat → Int32) (n : Nat) (T : Nat → Nat → Int32) (i : Int32) : Int32 := if pa_gp M n T i = -1 then 0 else if mc_val M n i 2 ≤ pa_gp M n T i then 0 else 1
set_option maxRecDepth 100000 in
set_option maxHeartbeats 4000000 in
theorem c_Fl_isTooSlow (l : Launch) (g : xG) (b0 : Nat) (ws : va_W) {qm hm om dm cn : Nat} {rm : Nat → Nat} {M : Nat → Nat → Int32} {ix : Nat → Int32} (eM : xMach g ws qm hm om dm rm M ix cn) (hcn : cn ≤ 24) {qp hp op : Nat} {rp : Nat → Nat} {T : Nat → Nat → Int32} (eP : xPath g ws qp hp op rp T) (i : Int32) : xRi l g b0 y_Fl_isTooSlow b_Fl_isTooSlow 4 (some .boolean) 3 [.ref hm, .ref hp, .int i] ws (fun r => r = fl_slow M cn T i) := by
  unfold xRi
  refine x_in (by decide) (Nat.le_of_ble_eq_true rfl) ?_
  intro p e s m below meth c ls E hr hin hP hD hl
  obtain ⟨hx, hb, hml, hown, hts, hK, hZ, hb0, hlocks⟩ := id E
  have hS : va_S (xA b0) s.heap s.heap [] := va_S.rf
  have hl : lv_has ls 4 [(0, .ref hm), (1, .ref hp), (2, .int i)] := hl
  refine lv_aload_n hx hb d_Fl_isTooSlow_0 rfl (lv_at hl 1 rfl) ?_
  refine lv_aload_n hx hb d_Fl_isTooSlow_1 rfl (lv_at hl 0 rfl) ?_
  refine lv_iload_n hx hb d_Fl_isTooSlow_2 rfl (lv_at hl 2 rfl) ?_
  refine x_cRi (As := [.ref hm, .int i]) (rest := []) E (c_Pa_leastGap l g b0 _ eP eM hcn i) wy_Pa_leastGap wl_Fl_59 hP hD hS eP.1 rfl hl.1 ⟨by decide, by decide⟩ ⟨Nat.le_refl _, Nat.le_refl _⟩ rfl (Nat.le_of_ble_eq_true rfl) d_Fl_isTooSlow_3 (fun r3 hr3 => ?_)
  subst hr3
  refine lv_istore_n (lv' := [(3, .int (pa_gp M cn T i)), (0, .ref hm), (1, .ref hp), (2, .int i)]) hx hb d_Fl_isTooSlow_6 rfl hl (by decide) rfl (fun ls hl => ?_)
  refine lv_iload_n hx hb d_Fl_isTooSlow_7 rfl (lv_at hl 0 rfl) ?_
  refine lv_iconst (v := (-1)) hx hb d_Fl_isTooSlow_8 (by decide) ?_
  refine lv_icmp_eq (tgt := 26) hx hb d_Fl_isTooSlow_9 (by decide) (fun c9 => ?_) (fun c9 => ?_)
  · refine lv_iconst (v := 0) hx hb d_Fl_isTooSlow_26 (by decide) ?_
    exact x_pz E hr rfl (by rw [fl_slow, if_pos c9]) d_Fl_isTooSlow_27
  · refine lv_aload_n hx hb d_Fl_isTooSlow_12 rfl (lv_at hl 1 rfl) ?_
    refine lv_iload_n hx hb d_Fl_isTooSlow_13 rfl (lv_at hl 3 rfl) ?_
    refine lv_iconst (v := 2) hx hb d_Fl_isTooSlow_14 (by decide) ?_
    refine x_cRi (As := [.int i, .int 2]) (rest := []) E (c_Mc_value l g b0 _ eM hcn (i) 2) wy_Mc_value wl_Fl_31 hP hD hS eM.1 rfl hl.1 ⟨by decide, by decide⟩ ⟨Nat.le_refl _, Nat.le_refl _⟩ rfl (Nat.le_of_ble_eq_true rfl) d_Fl_isTooSlow_15 (fun r15 hr15 => ?_)
    subst hr15
    refine lv_iload_n hx hb d_Fl_isTooSlow_18 rfl (lv_at hl 0 rfl) ?_
    refine lv_icmp_le (tgt := 26) hx hb d_Fl_isTooSlow_19 (by decide) (fun c19 => ?_) (fun c19 => ?_)
    · refine lv_iconst (v := 0) hx hb d_Fl_isTooSlow_26 (by decide) ?_
      exact x_pz E hr rfl (by rw [fl_slow, if_neg c9, if_pos c19]) d_Fl_isTooSlow_27
    · refine lv_iconst (v := 1) hx hb d_Fl_isTooSlow_22 (by decide) ?_
      refine lv_goto (tgt := 27) hx hb d_Fl_isTooSlow_23 (by decide) ?_
      exact x_pz E hr rfl (by rw [fl_slow, if_neg c9, if_neg c19]) d_Fl_isTooSlow_27
def fl_gate (M : Nat → Nat → Int32) (ix : Nat → Int32) (n : Nat) (i : Int32) : Int32 := if mc_val M n (mc_goal M ix n i 0) 0 = 3 then 1 else if mc_val M n (mc_goal M ix n i 1) 0 = 3 then 1 else 0
set_option maxRecDepth 100000 in
set_option maxHeartbeats 4000000 in
theorem c_Fl_goesToGate (l : Launch) (g : xG) (b0 : Nat) (ws : va_W) {qm hm om dm cn : Nat} {rm : Nat → Nat} {M : Nat → Nat → Int32} {ix : Nat → Int32} (eM : xMach g ws qm hm om dm rm M ix cn) (hcn : cn ≤ 24) (i : Int32) : xRi l g b0 y_Fl_goesToGate b_Fl_goesToGate 3 (some .boolean) 2 [.ref hm, .int i] ws (fun r => r = fl_gate M ix cn i) := by
  unfold xRi
  refine x_in (by decide) (Nat.le_of_ble_eq_true rfl) ?_
  intro p e s m below meth c ls E hr hin hP hD hl
  obtain ⟨hx, hb, hml, hown, hts, hK, hZ, hb0, hlocks⟩ := id E
  have hS : va_S (xA b0) s.heap s.heap [] := va_S.rf
  have hl : lv_has ls 3 [(0, .ref hm), (1, .int i)] := hl
  refine lv_iconst (v := 0) hx hb d_Fl_goesToGate_0 (by decide) ?_
  refine lv_istore_n (lv' := [(2, .int 0), (0, .ref hm), (1, .int i)]) hx hb d_Fl_goesToGate_1 rfl hl (by decide) rfl (fun ls hl => ?_)
  refine lv_iload_n hx hb d_Fl_goesToGate_2 rfl (lv_at hl 0 rfl) ?_
  refine lv_iconst (v := 2) hx hb d_Fl_goesToGate_3 (by decide) ?_
  refine lv_icmp_ge (tgt := 30) hx hb d_Fl_goesToGate_4 (by decide) (fun c4 => absurd c4 (by decide)) (fun c4 => ?_)
  refine lv_aload_n hx hb d_Fl_goesToGate_7 rfl (lv_at hl 1 rfl) ?_
  refine lv_aload_n hx hb d_Fl_goesToGate_8 rfl (lv_at hl 1 rfl) ?_
  refine lv_iload_n hx hb d_Fl_goesToGate_9 rfl (lv_at hl 2 rfl) ?_
  refine lv_iload_n hx hb d_Fl_goesToGate_10 rfl (lv_at hl 0 rfl) ?_
  refine x_cRi (As := [.int i, .int 0]) (rest := [.ref hm]) E (c_Mc_goal l g b0 _ eM hcn i 0) wy_Mc_goal wl_Fl_43 hP hD hS eM.1 rfl hl.1 ⟨by decide, by decide⟩ ⟨Nat.le_refl _, Nat.le_refl _⟩ rfl (Nat.le_of_ble_eq_true rfl) d_Fl_goesToGate_11 (fun r11 hr11 => ?_)
  subst hr11
  refine lv_iconst (v := 0) hx hb d_Fl_goesToGate_14 (by decide) ?_
  refine x_cRi (As := [.int (mc_goal M ix cn i 0), .int 0]) (rest := []) E (c_Mc_value l g b0 _ eM hcn (mc_goal M ix cn i 0) 0) wy_Mc_value wl_Fl_31 hP hD hS eM.1 rfl hl.1 ⟨by decide, by decide⟩ ⟨Nat.le_refl _, Nat.le_refl _⟩ rfl (Nat.le_of_ble_eq_true rfl) d_Fl_goesToGate_15 (fun r15 hr15 => ?_)
  subst hr15
  refine lv_iconst (v := 3) hx hb d_Fl_goesToGate_18 (by decide) ?_
  refine lv_icmp_ne (tgt := 24) hx hb d_Fl_goesToGate_19 (by decide) (fun c19 => ?_) (fun c19 => ?_)
  · refine lv_iinc (v := 1) (lv' := [(2, .int 1), (0, .ref hm), (1, .int i)]) hx hb d_Fl_goesToGate_24 hl (k := 0) rfl (by decide) (by decide) rfl (fun ls hl => ?_)
    refine lv_goto (tgt := 2) hx hb d_Fl_goesToGate_27 (by decide) ?_
    refine lv_iload_n hx hb d_Fl_goesToGate_2 rfl (lv_at hl 0 rfl) ?_
    refine lv_iconst (v := 2) hx hb d_Fl_goesToGate_3 (by decide) ?_
    refine lv_icmp_ge (tgt := 30) hx hb d_Fl_goesToGate_4 (by decide) (fun c4_1 => absurd c4_1 (by decide)) (fun c4_1 => ?_)
    refine lv_aload_n hx hb d_Fl_goesToGate_7 rfl (lv_at hl 1 rfl) ?_
    refine lv_aload_n hx hb d_Fl_goesToGate_8 rfl (lv_at hl 1 rfl) ?_
    refine lv_iload_n hx hb d_Fl_goesToGate_9 rfl (lv_at hl 2 rfl) ?_
    refine lv_iload_n hx hb d_Fl_goesToGate_10 rfl (lv_at hl 0 rfl) ?_
    refine x_cRi (As := [.int i, .int 1]) (rest := [.ref hm]) E (c_Mc_goal l g b0 _ eM hcn i 1) wy_Mc_goal wl_Fl_43 hP hD hS eM.1 rfl hl.1 ⟨by decide, by decide⟩ ⟨Nat.le_refl _, Nat.le_refl _⟩ rfl (Nat.le_of_ble_eq_true rfl) d_Fl_goesToGate_11 (fun r11 hr11 => ?_)
    subst hr11
    refine lv_iconst (v := 0) hx hb d_Fl_goesToGate_14 (by decide) ?_
    refine x_cRi (As := [.int (mc_goal M ix cn i 1), .int 0]) (rest := []) E (c_Mc_value l g b0 _ eM hcn (mc_goal M ix cn i 1) 0) wy_Mc_value wl_Fl_31 hP hD hS eM.1 rfl hl.1 ⟨by decide, by decide⟩ ⟨Nat.le_refl _, Nat.le_refl _⟩ rfl (Nat.le_of_ble_eq_true rfl) d_Fl_goesToGate_15 (fun r15 hr15 => ?_)
    subst hr15
    refine lv_iconst (v := 3) hx hb d_Fl_goesToGate_18 (by decide) ?_
    refine lv_icmp_ne (tgt := 24) hx hb d_Fl_goesToGate_19 (by decide) (fun c19_2 => ?_) (fun c19_2 => ?_)
    · refine lv_iinc (v := 2) (lv' := [(2, .int 2), (0, .ref hm), (1, .int i)]) hx hb d_Fl_goesToGate_24 hl (k := 0) rfl (by decide) (by decide) rfl (fun ls hl => ?_)
      refine lv_goto (tgt := 2) hx hb d_Fl_goesToGate_27 (by decide) ?_
      refine lv_iload_n hx hb d_Fl_goesToGate_2 rfl (lv_at hl 0 rfl) ?_
      refine lv_iconst (v := 2) hx hb d_Fl_goesToGate_3 (by decide) ?_
      refine lv_icmp_ge (tgt := 30) hx hb d_Fl_goesToGate_4 (by decide) (fun c4_3 => ?_) (fun c4_3 => absurd (by decide) c4_3)
      refine lv_iconst (v := 0) hx hb d_Fl_goesToGate_30 (by decide) ?_
      exact x_pz E hr rfl (by rw [fl_gate, if_neg c19, if_neg c19_2]) d_Fl_goesToGate_31
    · refine lv_iconst (v := 1) hx hb d_Fl_goesToGate_22 (by decide) ?_
      exact x_pz E hr rfl (by rw [fl_gate, if_neg c19, if_pos c19_2]) d_Fl_goesToGate_23
  · refine lv_iconst (v := 1) hx hb d_Fl_goesToGate_22 (by decide) ?_
    exact x_pz E hr rfl (by rw [fl_gate, if_pos c19]) d_Fl_goesToGate_23
def fl_rd (n : Nat) (T : Nat → Nat → Int32) (i : Int32) : Prop := ∃ k, k < n ∧ ¬ pa_lt T (nI k) i = -1
noncomputable def fl_is (k : Nat) (M : Nat → Nat → Int32) (ix : Nat → Int32) (n : Nat) (T : Nat → Nat → Int32) (i : Int32) : Int32 := if k = 2 then (if mc_val M n i 0 = 3 then fl_slow M n T i else 0) else if k = 3 then (if mc_val M n i 0 = 3 then fl_gate M ix n i else 0) else if k = 4 then pa_ld T i i else if k = 5 then (if mc_val M n i 0 = 4 then (if pa_gp M n T i = -1 then 1 else 0) else 0) else @ite Int32 (mc_val M n i 0 = 0 ∧ fl_rd n T i) (Classical.propDecidable _) 1 0
theorem fl_is_2 {M : Nat → Nat → Int32} {ix : Nat → Int32} {n : Nat} {T : Nat → Nat → Int32} {i : Int32} : fl_is 2 M ix n T i = if mc_val M n i 0 = 3 then fl_slow M n T i else 0 := rfl
theorem fl_is_3 {M : Nat → Nat → Int32} {ix : Nat → Int32} {n : Nat} {T : Nat → Nat → Int32} {i : Int32} : fl_is 3 M ix n T i = if mc_val M n i 0 = 3 then fl_gate M ix n i else 0 := rfl
theorem fl_is_4 {M : Nat → Nat → Int32} {ix : Nat → Int32} {n : Nat} {T : Nat → Nat → Int32} {i : Int32} : fl_is 4 M ix n T i = pa_ld T i i := rfl
theorem fl_is_5 {M : Nat → Nat → Int32} {ix : Nat → Int32} {n : Nat} {T : Nat → Nat → Int32} {i : Int32} : fl_is 5 M ix n T i = if mc_val M n i 0 = 4 then (if pa_gp M n T i = -1 then 1 else 0) else 0 := rfl
theorem fl_is_6y {M : Nat → Nat → Int32} {ix : Nat → Int32} {n : Nat} {T : Nat → Nat → Int32} {i : Int32} (h : mc_val M n i 0 = 0 ∧ fl_rd n T i) : fl_is 6 M ix n T i = 1 := by
  show @ite Int32 (mc_val M n i 0 = 0 ∧ fl_rd n T i) (Classical.propDecidable _) 1 0 = 1
  rw [if_pos h]
theorem fl_is_6n {M : Nat → Nat → Int32} {ix : Nat → Int32} {n : Nat} {T : Nat → Nat → Int32} {i : Int32} (h : ¬ (mc_val M n i 0 = 0 ∧ fl_rd n T i)) : fl_is 6 M ix n T i = 0 := by
  show @ite Int32 (mc_val M n i 0 = 0 ∧ fl_rd n T i) (Classical.propDecidable _) 1 0 = 0
  rw [if_neg h]
theorem pa_ld_01 (T : Nat → Nat → Int32) (i j : Int32) : pa_ld T i j = 0 ∨ pa_ld T i j = 1 := by
  unfold pa_ld
  split
  · exact Or.inl rfl
  · exact Or.inr rfl
theorem fl_slow_01 (M : Nat → Nat → Int32) (n : Nat) (T : Nat → Nat → Int32) (i : Int32) : fl_slow M n T i = 0 ∨ fl_slow M n T i = 1 := by
  unfold fl_slow
  split
  · exact Or.inl rfl
  · split
    · exact Or.inl rfl
    · exact Or.inr rfl
theorem fl_gate_01 (M : Nat → Nat → Int32) (ix : Nat → Int32) (n : Nat) (i : Int32) : fl_gate M ix n i = 0 ∨ fl_gate M ix n i = 1 := by
  unfold fl_gate
  split
  · exact Or.inr rfl
  · split
    · exact Or.inr rfl
    · exact Or.inl rfl
set_option maxRecDepth 100000 in
set_option maxHeartbeats 4000000 in
theorem c_Fl_isFaulty_2 (l : Launch) (g : xG) (b0 : Nat) (ws : va_W) {qm hm om dm cn : Nat} {rm : Nat → Nat} {M : Nat → Nat → Int32} {ix : Nat → Int32} (eM : xMach g ws qm hm om dm rm M ix cn) (hcn : cn ≤ 24) {qp hp op : Nat} {rp : Nat → Nat} {T : Nat → Nat → Int32} (eP : xPath g ws qp hp op rp T) (i : Int32) : xRi l g b0 y_Fl_isFaulty b_Fl_isFaulty 5 (some .boolean) 4 [.int 2, .ref hm, .ref hp, .int i] ws (fun r => r = fl_is 2 M ix cn T i) := by
  unfold xRi
  refine x_in (by decide) (Nat.le_of_ble_eq_true rfl) ?_
  intro p e s m below meth c ls E hr hin hP hD hl
  obtain ⟨hx, hb, hml, hown, hts, hK, hZ, hb0, hlocks⟩ := id E
  have hS : va_S (xA b0) s.heap s.heap [] := va_S.rf
  have hl : lv_has ls 5 [(0, .int 2), (1, .ref hm), (2, .ref hp), (3, .int i)] := hl
  refine lv_aload_n hx hb d_Fl_isFaulty_0 rfl (lv_at hl 1 rfl) ?_
  refine lv_iload_n hx hb d_Fl_isFaulty_1 rfl (lv_at hl 3 rfl) ?_
  refine lv_iconst (v := 0) hx hb d_Fl_isFaulty_2 (by decide) ?_
  refine x_cRi (As := [.int i, .int 0]) (rest := []) E (c_Mc_value l g b0 _ eM hcn (i) 0) wy_Mc_value wl_Fl_31 hP hD hS eM.1 rfl hl.1 ⟨by decide, by decide⟩ ⟨Nat.le_refl _, Nat.le_refl _⟩ rfl (Nat.le_of_ble_eq_true rfl) d_Fl_isFaulty_3 (fun r3 hr3 => ?_)
  subst hr3
  refine lv_istore (lv' := [(4, .int (mc_val M cn (i) 0)), (0, .int 2), (1, .ref hm), (2, .ref hp), (3, .int i)]) hx hb d_Fl_isFaulty_6 hl (by decide) rfl (fun ls hl => ?_)
  refine lv_iload_n hx hb d_Fl_isFaulty_8 rfl (lv_at hl 1 rfl) ?_
  refine lv_tableIn (off := 35) (tgt := 44) hx hb d_Fl_isFaulty_9 (by decide) (by decide) (by decide) (by decide) ?_
  refine lv_iload hx hb d_Fl_isFaulty_44 (lv_at hl 0 rfl) ?_
  refine lv_iconst (v := 3) hx hb d_Fl_isFaulty_46 (by decide) ?_
  refine lv_icmp_ne (tgt := 63) hx hb d_Fl_isFaulty_47 (by decide) (fun c47 => ?_) (fun c47 => ?_)
  · refine lv_iconst (v := 0) hx hb d_Fl_isFaulty_63 (by decide) ?_
    exact x_pz E hr rfl (by rw [fl_is_2, if_neg c47]) d_Fl_isFaulty_64
  · refine lv_aload_n hx hb d_Fl_isFaulty_50 rfl (lv_at hl 2 rfl) ?_
    refine lv_aload_n hx hb d_Fl_isFaulty_51 rfl (lv_at hl 3 rfl) ?_
    refine lv_iload_n hx hb d_Fl_isFaulty_52 rfl (lv_at hl 4 rfl) ?_
    refine x_cSi (As := [.ref hm, .ref hp, .int i]) (rest := []) E (c_Fl_isTooSlow l g b0 _ eM hcn eP i) wy_Fl_isTooSlow wl_Fl_46 hP hD hS hl.1 ⟨by decide, by decide⟩ ⟨Nat.le_refl _, Nat.le_refl _⟩ rfl (Nat.le_of_ble_eq_true rfl) d_Fl_isFaulty_53 (fun r53 hr53 => ?_)
    subst hr53
    refine lv_if_eq (tgt := 63) hx hb d_Fl_isFaulty_56 (by decide) (fun c56 => ?_) (fun c56 => ?_)
    · refine lv_iconst (v := 0) hx hb d_Fl_isFaulty_63 (by decide) ?_
      exact x_pz E hr rfl (by rw [fl_is_2, if_pos c47, c56]) d_Fl_isFaulty_64
    · refine lv_iconst (v := 1) hx hb d_Fl_isFaulty_59 (by decide) ?_
      refine lv_goto (tgt := 64) hx hb d_Fl_isFaulty_60 (by decide) ?_
      exact x_pz E hr rfl (by rw [fl_is_2, if_pos c47]; exact ((fl_slow_01 M cn T i).resolve_left c56).symm) d_Fl_isFaulty_64
set_option maxRecDepth 100000 in
set_option maxHeartbeats 4000000 in
theorem c_Fl_isFaulty_3 (l : Launch) (g : xG) (b0 : Nat) (ws : va_W) {qm hm om dm cn : Nat} {rm : Nat → Nat} {M : Nat → Nat → Int32} {ix : Nat → Int32} (eM : xMach g ws qm hm om dm rm M ix cn) (hcn : cn ≤ 24) {qp hp op : Nat} {rp : Nat → Nat} {T : Nat → Nat → Int32} (eP : xPath g ws qp hp op rp T) (i : Int32) : xRi l g b0 y_Fl_isFaulty b_Fl_isFaulty 5 (some .boolean) 4 [.int 3, .ref hm, .ref hp, .int i] ws (fun r => r = fl_is 3 M ix cn T i) := by
  unfold xRi
  refine x_in (by decide) (Nat.le_of_ble_eq_true rfl) ?_
  intro p e s m below meth c ls E hr hin hP hD hl
  obtain ⟨hx, hb, hml, hown, hts, hK, hZ, hb0, hlocks⟩ := id E
  have hS : va_S (xA b0) s.heap s.heap [] := va_S.rf
  have hl : lv_has ls 5 [(0, .int 3), (1, .ref hm), (2, .ref hp), (3, .int i)] := hl
  refine lv_aload_n hx hb d_Fl_isFaulty_0 rfl (lv_at hl 1 rfl) ?_
  refine lv_iload_n hx hb d_Fl_isFaulty_1 rfl (lv_at hl 3 rfl) ?_
  refine lv_iconst (v := 0) hx hb d_Fl_isFaulty_2 (by decide) ?_
  refine x_cRi (As := [.int i, .int 0]) (rest := []) E (c_Mc_value l g b0 _ eM hcn (i) 0) wy_Mc_value wl_Fl_31 hP hD hS eM.1 rfl hl.1 ⟨by decide, by decide⟩ ⟨Nat.le_refl _, Nat.le_refl _⟩ rfl (Nat.le_of_ble_eq_true rfl) d_Fl_isFaulty_3 (fun r3 hr3 => ?_)
  subst hr3
  refine lv_istore (lv' := [(4, .int (mc_val M cn (i) 0)), (0, .int 3), (1, .ref hm), (2, .ref hp), (3, .int i)]) hx hb d_Fl_isFaulty_6 hl (by decide) rfl (fun ls hl => ?_)
  refine lv_iload_n hx hb d_Fl_isFaulty_8 rfl (lv_at hl 1 rfl) ?_
  refine lv_tableIn (off := 56) (tgt := 65) hx hb d_Fl_isFaulty_9 (by decide) (by decide) (by decide) (by decide) ?_
  refine lv_iload hx hb d_Fl_isFaulty_65 (lv_at hl 0 rfl) ?_
  refine lv_iconst (v := 3) hx hb d_Fl_isFaulty_67 (by decide) ?_
  refine lv_icmp_ne (tgt := 83) hx hb d_Fl_isFaulty_68 (by decide) (fun c68 => ?_) (fun c68 => ?_)
  · refine lv_iconst (v := 0) hx hb d_Fl_isFaulty_83 (by decide) ?_
    exact x_pz E hr rfl (by rw [fl_is_3, if_neg c68]) d_Fl_isFaulty_84
  · refine lv_aload_n hx hb d_Fl_isFaulty_71 rfl (lv_at hl 2 rfl) ?_
    refine lv_iload_n hx hb d_Fl_isFaulty_72 rfl (lv_at hl 4 rfl) ?_
    refine x_cSi (As := [.ref hm, .int i]) (rest := []) E (c_Fl_goesToGate l g b0 _ eM hcn i) wy_Fl_goesToGate wl_Fl_50 hP hD hS hl.1 ⟨by decide, by decide⟩ ⟨Nat.le_refl _, Nat.le_refl _⟩ rfl (Nat.le_of_ble_eq_true rfl) d_Fl_isFaulty_73 (fun r73 hr73 => ?_)
    subst hr73
    refine lv_if_eq (tgt := 83) hx hb d_Fl_isFaulty_76 (by decide) (fun c76 => ?_) (fun c76 => ?_)
    · refine lv_iconst (v := 0) hx hb d_Fl_isFaulty_83 (by decide) ?_
      exact x_pz E hr rfl (by rw [fl_is_3, if_pos c68, c76]) d_Fl_isFaulty_84
    · refine lv_iconst (v := 1) hx hb d_Fl_isFaulty_79 (by decide) ?_
      refine lv_goto (tgt := 84) hx hb d_Fl_isFaulty_80 (by decide) ?_
      exact x_pz E hr rfl (by rw [fl_is_3, if_pos c68]; exact ((fl_gate_01 M ix cn i).resolve_left c76).symm) d_Fl_isFaulty_84
set_option maxRecDepth 100000 in
set_option maxHeartbeats 4000000 in
theorem c_Fl_isFaulty_4 (l : Launch) (g : xG) (b0 : Nat) (ws : va_W) {qm hm om dm cn : Nat} {rm : Nat → Nat} {M : Nat → Nat → Int32} {ix : Nat → Int32} (eM : xMach g ws qm hm om dm rm M ix cn) (hcn : cn ≤ 24) {qp hp op : Nat} {rp : Nat → Nat} {T : Nat → Nat → Int32} (eP : xPath g ws qp hp op rp T) (i : Int32) : xRi l g b0 y_Fl_isFaulty b_Fl_isFaulty 5 (some .boolean) 4 [.int 4, .ref hm, .ref hp, .int i] ws (fun r => r = fl_is 4 M ix cn T i) := by
  unfold xRi
  refine x_in (by decide) (Nat.le_of_ble_eq_true rfl) ?_
  intro p e s m below meth c ls E hr hin hP hD hl
  obtain ⟨hx, hb, hml, hown, hts, hK, hZ, hb0, hlocks⟩ := id E
  have hS : va_S (xA b0) s.heap s.heap [] := va_S.rf
  have hl : lv_has ls 5 [(0, .int 4), (1, .ref hm), (2, .ref hp), (3, .int i)] := hl
  refine lv_aload_n hx hb d_Fl_isFaulty_0 rfl (lv_at hl 1 rfl) ?_
  refine lv_iload_n hx hb d_Fl_isFaulty_1 rfl (lv_at hl 3 rfl) ?_
  refine lv_iconst (v := 0) hx hb d_Fl_isFaulty_2 (by decide) ?_
  refine x_cRi (As := [.int i, .int 0]) (rest := []) E (c_Mc_value l g b0 _ eM hcn (i) 0) wy_Mc_value wl_Fl_31 hP hD hS eM.1 rfl hl.1 ⟨by decide, by decide⟩ ⟨Nat.le_refl _, Nat.le_refl _⟩ rfl (Nat.le_of_ble_eq_true rfl) d_Fl_isFaulty_3 (fun r3 hr3 => ?_)
  subst hr3
  refine lv_istore (lv' := [(4, .int (mc_val M cn (i) 0)), (0, .int 4), (1, .ref hm), (2, .ref hp), (3, .int i)]) hx hb d_Fl_isFaulty_6 hl (by decide) rfl (fun ls hl => ?_)
  refine lv_iload_n hx hb d_Fl_isFaulty_8 rfl (lv_at hl 1 rfl) ?_
  refine lv_tableIn (off := 76) (tgt := 85) hx hb d_Fl_isFaulty_9 (by decide) (by decide) (by decide) (by decide) ?_
  refine lv_aload_n hx hb d_Fl_isFaulty_85 rfl (lv_at hl 3 rfl) ?_
  refine lv_iload_n hx hb d_Fl_isFaulty_86 rfl (lv_at hl 4 rfl) ?_
  refine lv_iload_n hx hb d_Fl_isFaulty_87 rfl (lv_at hl 4 rfl) ?_
  refine x_cRi (As := [.int i, .int i]) (rest := []) E (c_Pa_leads l g b0 _ eP i i) wy_Pa_leads wl_Fl_54 hP hD hS eP.1 rfl hl.1 ⟨by decide, by decide⟩ ⟨Nat.le_refl _, Nat.le_refl _⟩ rfl (Nat.le_of_ble_eq_true rfl) d_Fl_isFaulty_88 (fun r88 hr88 => ?_)
  subst hr88
  exact x_pz E hr (by rcases pa_ld_01 T i i with h | h <;> rw [h] <;> rfl) fl_is_4.symm d_Fl_isFaulty_91
set_option maxRecDepth 100000 in
set_option maxHeartbeats 4000000 in
theorem c_Fl_isFaulty_5 (l : Launch) (g : xG) (b0 : Nat) (ws : va_W) {qm hm om dm cn : Nat} {rm : Nat → Nat} {M : Nat → Nat → Int32} {ix : Nat → Int32} (eM : xMach g ws qm hm om dm rm M ix cn) (hcn : cn ≤ 24) {qp hp op : Nat} {rp : Nat → Nat} {T : Nat → Nat → Int32} (eP : xPath g ws qp hp op rp T) (i : Int32) : xRi l g b0 y_Fl_isFaulty b_Fl_isFaulty 5 (some .boolean) 4 [.int 5, .ref hm, .ref hp, .int i] ws (fun r => r = fl_is 5 M ix cn T i) := by
  unfold xRi
  refine x_in (by decide) (Nat.le_of_ble_eq_true rfl) ?_
  intro p e s m below meth c ls E hr hin hP hD hl
  obtain ⟨hx, hb, hml, hown, hts, hK, hZ, hb0, hlocks⟩ := id E
  have hS : va_S (xA b0) s.heap s.heap [] := va_S.rf
  have hl : lv_has ls 5 [(0, .int 5), (1, .ref hm), (2, .ref hp), (3, .int i)] := hl
  refine lv_aload_n hx hb d_Fl_isFaulty_0 rfl (lv_at hl 1 rfl) ?_
  refine lv_iload_n hx hb d_Fl_isFaulty_1 rfl (lv_at hl 3 rfl) ?_
  refine lv_iconst (v := 0) hx hb d_Fl_isFaulty_2 (by decide) ?_
  refine x_cRi (As := [.int i, .int 0]) (rest := []) E (c_Mc_value l g b0 _ eM hcn (i) 0) wy_Mc_value wl_Fl_31 hP hD hS eM.1 rfl hl.1 ⟨by decide, by decide⟩ ⟨Nat.le_refl _, Nat.le_refl _⟩ rfl (Nat.le_of_ble_eq_true rfl) d_Fl_isFaulty_3 (fun r3 hr3 => ?_)
  subst hr3
  refine lv_istore (lv' := [(4, .int (mc_val M cn (i) 0)), (0, .int 5), (1, .ref hm), (2, .ref hp), (3, .int i)]) hx hb d_Fl_isFaulty_6 hl (by decide) rfl (fun ls hl => ?_)
  refine lv_iload_n hx hb d_Fl_isFaulty_8 rfl (lv_at hl 1 rfl) ?_
  refine lv_tableIn (off := 83) (tgt := 92) hx hb d_Fl_isFaulty_9 (by decide) (by decide) (by decide) (by decide) ?_
  refine lv_iload hx hb d_Fl_isFaulty_92 (lv_at hl 0 rfl) ?_
  refine lv_iconst (v := 4) hx hb d_Fl_isFaulty_94 (by decide) ?_
  refine lv_icmp_ne (tgt := 112) hx hb d_Fl_isFaulty_95 (by decide) (fun c95 => ?_) (fun c95 => ?_)
  · refine lv_iconst (v := 0) hx hb d_Fl_isFaulty_112 (by decide) ?_
    exact x_pz E hr rfl (by rw [fl_is_5, if_neg c95]) d_Fl_isFaulty_113
  · refine lv_aload_n hx hb d_Fl_isFaulty_98 rfl (lv_at hl 3 rfl) ?_
    refine lv_aload_n hx hb d_Fl_isFaulty_99 rfl (lv_at hl 2 rfl) ?_
    refine lv_iload_n hx hb d_Fl_isFaulty_100 rfl (lv_at hl 4 rfl) ?_
    refine x_cRi (As := [.ref hm, .int i]) (rest := []) E (c_Pa_leastGap l g b0 _ eP eM hcn i) wy_Pa_leastGap wl_Fl_59 hP hD hS eP.1 rfl hl.1 ⟨by decide, by decide⟩ ⟨Nat.le_refl _, Nat.le_refl _⟩ rfl (Nat.le_of_ble_eq_true rfl) d_Fl_isFaulty_101 (fun r101 hr101 => ?_)
    subst hr101
    refine lv_iconst (v := (-1)) hx hb d_Fl_isFaulty_104 (by decide) ?_
    refine lv_icmp_ne (tgt := 112) hx hb d_Fl_isFaulty_105 (by decide) (fun c105 => ?_) (fun c105 => ?_)
    · refine lv_iconst (v := 0) hx hb d_Fl_isFaulty_112 (by decide) ?_
      exact x_pz E hr rfl (by rw [fl_is_5, if_pos c95, if_neg c105]) d_Fl_isFaulty_113
    · refine lv_iconst (v := 1) hx hb d_Fl_isFaulty_108 (by decide) ?_
      refine lv_goto (tgt := 113) hx hb d_Fl_isFaulty_109 (by decide) ?_
      exact x_pz E hr rfl (by rw [fl_is_5, if_pos c95, if_pos c105]) d_Fl_isFaulty_113
set_option maxRecDepth 100000 in
set_option maxHeartbeats 4000000 in
theorem c_Fl_isFaulty_6 (l : Launch) (g : xG) (b0 : Nat) (ws : va_W) {qm hm om dm cn : Nat} {rm : Nat → Nat} {M : Nat → Nat → Int32} {ix : Nat → Int32} (eM : xMach g ws qm hm om dm rm M ix cn) (hcn : cn ≤ 24) {qp hp op : Nat} {rp : Nat → Nat} {T : Nat → Nat → Int32} (eP : xPath g ws qp hp op rp T) (i : Int32) : xRi l g b0 y_Fl_isFaulty b_Fl_isFaulty 5 (some .boolean) 4 [.int 6, .ref hm, .ref hp, .int i] ws (fun r => r = fl_is 6 M ix cn T i) := by
  unfold xRi
  refine x_in (by decide) (Nat.le_of_ble_eq_true rfl) ?_
  intro p e s m below meth c ls E hr hin hP hD hl
  obtain ⟨hx, hb, hml, hown, hts, hK, hZ, hb0, hlocks⟩ := id E
  have hS : va_S (xA b0) s.heap s.heap [] := va_S.rf
  have hl : lv_has ls 5 [(0, .int 6), (1, .ref hm), (2, .ref hp), (3, .int i)] := hl
  refine lv_aload_n hx hb d_Fl_isFaulty_0 rfl (lv_at hl 1 rfl) ?_
  refine lv_iload_n hx hb d_Fl_isFaulty_1 rfl (lv_at hl 3 rfl) ?_
  refine lv_iconst (v := 0) hx hb d_Fl_isFaulty_2 (by decide) ?_
  refine x_cRi (As := [.int i, .int 0]) (rest := []) E (c_Mc_value l g b0 _ eM hcn (i) 0) wy_Mc_value wl_Fl_31 hP hD hS eM.1 rfl hl.1 ⟨by decide, by decide⟩ ⟨Nat.le_refl _, Nat.le_refl _⟩ rfl (Nat.le_of_ble_eq_true rfl) d_Fl_isFaulty_3 (fun r3 hr3 => ?_)
  subst hr3
  refine lv_istore (lv' := [(4, .int (mc_val M cn (i) 0)), (0, .int 6), (1, .ref hm), (2, .ref hp), (3, .int i)]) hx hb d_Fl_isFaulty_6 hl (by decide) rfl (fun ls hl => ?_)
  refine lv_iload_n hx hb d_Fl_isFaulty_8 rfl (lv_at hl 1 rfl) ?_
  refine lv_tableIn (off := 105) (tgt := 114) hx hb d_Fl_isFaulty_9 (by decide) (by decide) (by decide) (by decide) ?_
  refine lv_iload hx hb d_Fl_isFaulty_114 (lv_at hl 0 rfl) ?_
  refine lv_if_ne (tgt := 132) hx hb d_Fl_isFaulty_116 (by decide) (fun c116 => ?_) (fun c116 => ?_)
  · refine lv_iconst (v := 0) hx hb d_Fl_isFaulty_132 (by decide) ?_
    exact x_pz E hr rfl (fl_is_6n (fun h => c116 h.1)).symm d_Fl_isFaulty_133
  · refine lv_aload_n hx hb d_Fl_isFaulty_119 rfl (lv_at hl 3 rfl) ?_
    refine lv_aload_n hx hb d_Fl_isFaulty_120 rfl (lv_at hl 2 rfl) ?_
    refine lv_iload_n hx hb d_Fl_isFaulty_121 rfl (lv_at hl 4 rfl) ?_
    refine x_cRi (As := [.ref hm, .int i]) (rest := []) E (c_Pa_isReached l g b0 _ eP eM hcn i) wy_Pa_isReached wl_Fl_63 hP hD hS eP.1 rfl hl.1 ⟨by decide, by decide⟩ ⟨Nat.le_refl _, Nat.le_refl _⟩ rfl (Nat.le_of_ble_eq_true rfl) d_Fl_isFaulty_122 (fun r122 hr122 => ?_)
    refine lv_if_eq (tgt := 132) hx hb d_Fl_isFaulty_125 (by decide) (fun c125 => ?_) (fun c125 => ?_)
    · refine lv_iconst (v := 0) hx hb d_Fl_isFaulty_132 (by decide) ?_
      exact x_pz E hr rfl (fl_is_6n (fun h => by
          rcases hr122 with ⟨h1, h2⟩ | ⟨h1, h2⟩
          · rw [h1] at c125; exact absurd c125 (by decide)
          · obtain ⟨k9, h3, h4⟩ := h.2
            exact h4 (h2 k9 h3))).symm d_Fl_isFaulty_133
    · refine lv_iconst (v := 1) hx hb d_Fl_isFaulty_128 (by decide) ?_
      refine lv_goto (tgt := 133) hx hb d_Fl_isFaulty_129 (by decide) ?_
      exact x_pz E hr rfl (fl_is_6y (by
          rcases hr122 with ⟨h1, h2⟩ | ⟨h1, h2⟩
          · exact ⟨c116, h2⟩
          · exact absurd h1 c125)).symm d_Fl_isFaulty_133
theorem c_Fl_isFaulty (l : Launch) (g : xG) (b0 : Nat) (ws : va_W) {qm hm om dm cn : Nat} {rm : Nat → Nat} {M : Nat → Nat → Int32} {ix : Nat → Int32} (eM : xMach g ws qm hm om dm rm M ix cn) (hcn : cn ≤ 24) {qp hp op : Nat} {rp : Nat → Nat} {T : Nat → Nat → Int32} (eP : xPath g ws qp hp op rp T) (i : Int32) (k : Nat) (hk : 2 ≤ k ∧ k ≤ 6) : xRi l g b0 y_Fl_isFaulty b_Fl_isFaulty 5 (some .boolean) 4 [.int (nI k), .ref hm, .ref hp, .int i] ws (fun r => r = fl_is k M ix cn T i) := by
  obtain rfl | rfl | rfl | rfl | rfl : k = 2 ∨ k = 3 ∨ k = 4 ∨ k = 5 ∨ k = 6 := by omega
  · exact c_Fl_isFaulty_2 l g b0 ws eM hcn eP i
  · exact c_Fl_isFaulty_3 l g b0 ws eM hcn eP i
  · exact c_Fl_isFaulty_4 l g b0 ws eM hcn eP i
  · exact c_Fl_isFaulty_5 l g b0 ws eM hcn eP i
  · exact c_Fl_isFaulty_6 l g b0 ws eM hcn eP i
def fl_w2 (M : Nat → Nat → Int32) (ix : Nat → Int32) (n i : Nat) (k : Nat) (f : fl_S) : fl_S := if mc_has M n (nI i) (nI k) = 0 then f else if mc_goal M ix n (nI i) (nI k) = -1 then fl_add f 1 (mc_val M n (nI i) 1) (nI k) else f
def fl_w1 (M : Nat → Nat → Int32) (ix : Nat → Int32) (n : Nat) (i : Nat) (f : fl_S) : fl_S := it (fl_w2 M ix n i) 2 f
theorem it_le {f : Nat → fl_S → fl_S} {c : Nat} (h : ∀ k s, (f k s).2 ≤ s.2 + c) : ∀ (m : Nat) (s : fl_S), (it f m s).2 ≤ s.2 + c * m
  | 0, s => Nat.le_refl _
  | m + 1, s => by
    have h1 := h m (it f m s)
    have h2 := it_le h m s
    rw [Nat.mul_succ]
    show (f m (it f m s)).2 ≤ _
    omega
theorem fl_w2_le {M : Nat → Nat → Int32} {ix : Nat → Int32} {n i : Nat} : ∀ k s, (fl_w2 M ix n i k s).2 ≤ s.2 + 1 := fun k s => by
  unfold fl_w2
  split
  · omega
  · split
    · show s.2 + 1 ≤ s.2 + 1
      exact Nat.le_refl _
    · omega
theorem fl_w1_le {M : Nat → Nat → Int32} {ix : Nat → Int32} {n : Nat} : ∀ k s, (fl_w1 M ix n k s).2 ≤ s.2 + 2 := fun k s => it_le (c := 1) fl_w2_le 2 s
set_option maxRecDepth 100000 in
set_option maxHeartbeats 4000000 in
theorem c_Fl_findWaysToNowhere (l : Launch) (g : xG) (b0 : Nat) (ws : va_W) {q h o : Nat} {r : Nat → Nat} {f0 : fl_S} (hT : xFs g ws q h o r f0) (hf0 : f0.2 = 0) {qm hm om dm cn : Nat} {rm : Nat → Nat} {M : Nat → Nat → Int32} {ix : Nat → Int32} (eM : xMach g ws qm hm om dm rm M ix cn) (hcn : cn ≤ 24) (hd : qm + 9 ≤ q ∨ q + 5 ≤ qm) : xMv l g b0 y_Fl_findWaysToNowhere b_Fl_findWaysToNowhere 4 2 [.ref h, .ref hm] ws (fun u => xQ q (q + 5) ws u ∧ xFs g u q h o r (it (fl_w1 M ix cn) cn f0)) := by
  unfold xMv
  refine x_in (by decide) (Nat.le_of_ble_eq_true rfl) ?_
  intro p e s m below meth c ls E hr hin hP hD hl
  obtain ⟨hx, hb, hml, hown, hts, hK, hZ, hb0, hlocks⟩ := id E
  have hS : va_S (xA b0) s.heap s.heap [] := va_S.rf
  have hl : lv_has ls 4 [(0, .ref h), (1, .ref hm)] := hl
  have hQ : xQ q (q + 5) ws ws := xQ.rf
  have eF := hT
  refine lv_iconst (v := 0) hx hb d_Fl_findWaysToNowhere_0 (by decide) ?_
  refine lv_istore_n (lv' := [(2, .int 0), (0, .ref h), (1, .ref hm)]) hx hb d_Fl_findWaysToNowhere_1 rfl hl (by decide) rfl (fun ls hl => ?_)
  have loop : ∀ (k i : Nat)  (w : va_W) (H : Heap) (locs : List Loc) (ls : Array Slot), (cn < i + k) → (i ≤ cn) → (lv_has ls 4 [(2, .int (nI i)), (0, .ref h), (1, .ref hm)]) → (va_P (xD g) vwCl w H) → (va_D (xA b0) w) → (va_S (xA b0) s.heap H locs) → (xQ q (q + 5) ws w) → (xFs g w q h o r (it (fl_w1 M ix cn) i f0)) → (xMach g w qm hm om dm rm M ix cn) → W p l e (rmL 2) s m ([.ref h, .ref hm] : List Value).toArray below meth c H locs 0 0 (MQ below (va_Qv (fun u => xQ q (q + 5) ws u ∧ xFs g u q h o r (it (fl_w1 M ix cn) cn f0)) (fun u t => va_P (xD g) vwCl u t.heap ∧ va_D (xA b0) u) (xA b0)) ([.ref h, .ref hm] : List Value).toArray s 0 0 (xA b0)) (F0 m 2 ls []) := by
    intro k
    induction k with
    | zero =>
      intro i w H locs ls hk hi hl hP hD hS hQ eF eM
      omega
    | succ k ih =>
      intro i w H locs ls hk hi hl hP hD hS hQ eF eM
      refine lv_iload_n hx hb d_Fl_findWaysToNowhere_2 rfl (lv_at hl 0 rfl) ?_
      refine lv_aload_n hx hb d_Fl_findWaysToNowhere_3 rfl (lv_at hl 2 rfl) ?_
      refine x_get E hP eM.1 rfl cl2_in 2 (by decide) wf_Fl_24 rfl d_Fl_findWaysToNowhere_4 ?_
      refine lv_icmp_ge (tgt := 60) hx hb d_Fl_findWaysToNowhere_7 (by decide) (fun c7 => ?_) (fun c7 => ?_)
      · have hi9 : cn ≤ i := (nI_leI (by omega) (by omega)).mp c7
        have e9 : i = cn := by omega
        rw [e9] at eF
        exact x_rv E hr hS ⟨hQ, eF⟩ hP hD d_Fl_findWaysToNowhere_60
      · have hi9 : i < cn := Nat.not_le.mp fun h => c7 (nI_le h (by omega))
        refine lv_iconst (v := 0) hx hb d_Fl_findWaysToNowhere_10 (by decide) ?_
        refine lv_istore_n (lv' := [(3, .int 0), (2, .int (nI i)), (0, .ref h), (1, .ref hm)]) hx hb d_Fl_findWaysToNowhere_11 rfl hl (by decide) rfl (fun ls hl => ?_)
        have loop2 : ∀ (k kk : Nat)  (v : va_W) (H : Heap) (locs : List Loc) (ls : Array Slot), (2 < kk + k) → (kk ≤ 2) → (lv_has ls 4 [(3, .int (nI kk)), (2, .int (nI i)), (0, .ref h), (1, .ref hm)]) → (va_P (xD g) vwCl v H) → (va_D (xA b0) v) → (va_S (xA b0) s.heap H locs) → (xQ q (q + 5) ws v) → (xFs g v q h o r (it (fl_w2 M ix cn i) kk (it (fl_w1 M ix cn) i f0))) → (xMach g v qm hm om dm rm M ix cn) → W p l e (rmL 2) s m ([.ref h, .ref hm] : List Value).toArray below meth c H locs 0 0 (MQ below (va_Qv (fun u => xQ q (q + 5) ws u ∧ xFs g u q h o r (it (fl_w1 M ix cn) cn f0)) (fun u t => va_P (xD g) vwCl u t.heap ∧ va_D (xA b0) u) (xA b0)) ([.ref h, .ref hm] : List Value).toArray s 0 0 (xA b0)) (F0 m 12 ls []) := by
          intro k
          induction k with
          | zero =>
            intro kk v H locs ls hk hkk hl hP hD hS hQ eF eM
            omega
          | succ k ih2 =>
            intro kk v H locs ls hk hkk hl hP hD hS hQ eF eM
            have hb1 := it_le (c := 2) (fl_w1_le (M := M) (ix := ix) (n := cn)) i f0
            have hb2 := it_le (c := 1) (fl_w2_le (M := M) (ix := ix) (n := cn) (i := i)) kk (it (fl_w1 M ix cn) i f0)
            have eV : it (fl_w2 M ix cn i) (kk + 1) (it (fl_w1 M ix cn) i f0) = fl_w2 M ix cn i kk (it (fl_w2 M ix cn i) kk (it (fl_w1 M ix cn) i f0)) := rfl
            generalize eV0 : it (fl_w2 M ix cn i) kk (it (fl_w1 M ix cn) i f0) = V at eF eV hb2
            refine lv_iload_n hx hb d_Fl_findWaysToNowhere_12 rfl (lv_at hl 0 rfl) ?_
            refine lv_iconst (v := 2) hx hb d_Fl_findWaysToNowhere_13 (by decide) ?_
            refine lv_icmp_ge (tgt := 54) hx hb d_Fl_findWaysToNowhere_14 (by decide) (fun c14 => ?_) (fun c14 => ?_)
            · have hj9 : 2 ≤ kk := (nI_leI (a := 2) (by decide) (by omega)).mp c14
              refine lv_iinc (v := nI (i + 1)) (lv' := [(2, .int (nI (i + 1))), (3, .int (nI kk)), (0, .ref h), (1, .ref hm)]) hx hb d_Fl_findWaysToNowhere_54 hl (k := 1) rfl (nI_1 i) (by decide) rfl (fun ls hl => ?_)
              refine lv_goto (tgt := 2) hx hb d_Fl_findWaysToNowhere_57 (by decide) ?_
              have e2 : kk = 2 := by omega
              subst e2
              rw [← eV0] at eF
              have eF : xFs g _ q h o r (it (fl_w1 M ix cn) (i + 1) f0) := eF
              exact ih (i + 1) _ _ _ _ (by omega) (by omega) (lv_sub hl [0, 2, 3] rfl) hP hD hS hQ eF eM
            · have hj9 : kk < 2 := Nat.not_le.mp fun h => c14 (nI_le (a := 2) h (by omega))
              refine lv_aload_n hx hb d_Fl_findWaysToNowhere_17 rfl (lv_at hl 3 rfl) ?_
              refine lv_iload_n hx hb d_Fl_findWaysToNowhere_18 rfl (lv_at hl 1 rfl) ?_
              refine lv_iload_n hx hb d_Fl_findWaysToNowhere_19 rfl (lv_at hl 0 rfl) ?_
              refine x_cRi (As := [.int (nI i), .int (nI kk)]) (rest := []) E (c_Mc_hasWay l g b0 _ eM hcn (nI i) (nI kk)) wy_Mc_hasWay wl_Fl_39 hP hD hS eM.1 rfl hl.1 ⟨by decide, by decide⟩ ⟨Nat.le_refl _, Nat.le_refl _⟩ rfl (Nat.le_of_ble_eq_true rfl) d_Fl_findWaysToNowhere_20 (fun r20 hr20 => ?_)
              subst hr20
              refine lv_if_eq (tgt := 48) hx hb d_Fl_findWaysToNowhere_23 (by decide) (fun c23 => ?_) (fun c23 => ?_)
              · refine lv_iinc (v := nI (kk + 1)) (lv' := [(3, .int (nI (kk + 1))), (2, .int (nI i)), (0, .ref h), (1, .ref hm)]) hx hb d_Fl_findWaysToNowhere_48 hl (k := 0) rfl (nI_1 kk) (by decide) rfl (fun ls hl => ?_)
                refine lv_goto (tgt := 12) hx hb d_Fl_findWaysToNowhere_51 (by decide) ?_
                rw [fl_w2, if_pos c23] at eV
                rw [← eV] at eF
                exact ih2 (kk + 1) _ _ _ _ (by omega) (by omega) hl hP hD hS hQ eF eM
              · refine lv_aload_n hx hb d_Fl_findWaysToNowhere_26 rfl (lv_at hl 3 rfl) ?_
                refine lv_iload_n hx hb d_Fl_findWaysToNowhere_27 rfl (lv_at hl 1 rfl) ?_
                refine lv_iload_n hx hb d_Fl_findWaysToNowhere_28 rfl (lv_at hl 0 rfl) ?_
                refine x_cRi (As := [.int (nI i), .int (nI kk)]) (rest := []) E (c_Mc_goal l g b0 _ eM hcn (nI i) (nI kk)) wy_Mc_goal wl_Fl_43 hP hD hS eM.1 rfl hl.1 ⟨by decide, by decide⟩ ⟨Nat.le_refl _, Nat.le_refl _⟩ rfl (Nat.le_of_ble_eq_true rfl) d_Fl_findWaysToNowhere_29 (fun r29 hr29 => ?_)
                subst hr29
                refine lv_iconst (v := (-1)) hx hb d_Fl_findWaysToNowhere_32 (by decide) ?_
                refine lv_icmp_ne (tgt := 48) hx hb d_Fl_findWaysToNowhere_33 (by decide) (fun c33 => ?_) (fun c33 => ?_)
                · refine lv_iinc (v := nI (kk + 1)) (lv' := [(3, .int (nI (kk + 1))), (2, .int (nI i)), (0, .ref h), (1, .ref hm)]) hx hb d_Fl_findWaysToNowhere_48 hl (k := 0) rfl (nI_1 kk) (by decide) rfl (fun ls hl => ?_)
                  refine lv_goto (tgt := 12) hx hb d_Fl_findWaysToNowhere_51 (by decide) ?_
                  rw [fl_w2, if_neg c23, if_neg c33] at eV
                  rw [← eV] at eF
                  exact ih2 (kk + 1) _ _ _ _ (by omega) (by omega) hl hP hD hS hQ eF eM
                · refine lv_aload_n hx hb d_Fl_findWaysToNowhere_36 rfl (lv_at hl 2 rfl) ?_
                  refine lv_iconst (v := 1) hx hb d_Fl_findWaysToNowhere_37 (by decide) ?_
                  refine lv_aload_n hx hb d_Fl_findWaysToNowhere_38 rfl (lv_at hl 3 rfl) ?_
                  refine lv_iload_n hx hb d_Fl_findWaysToNowhere_39 rfl (lv_at hl 1 rfl) ?_
                  refine lv_iconst (v := 1) hx hb d_Fl_findWaysToNowhere_40 (by decide) ?_
                  refine x_cRi (As := [.int (nI i), .int 1]) (rest := [.int 1, .ref h]) E (c_Mc_value l g b0 _ eM hcn (nI i) 1) wy_Mc_value wl_Fl_31 hP hD hS eM.1 rfl hl.1 ⟨by decide, by decide⟩ ⟨Nat.le_refl _, Nat.le_refl _⟩ rfl (Nat.le_of_ble_eq_true rfl) d_Fl_findWaysToNowhere_41 (fun r41 hr41 => ?_)
                  subst hr41
                  refine lv_iload_n hx hb d_Fl_findWaysToNowhere_44 rfl (lv_at hl 0 rfl) ?_
                  refine x_cVv (As := [.int 1, .int (mc_val M cn (nI i) 1), .int (nI kk)]) (rest := []) E (c_Fl_add l g b0 _ (n := V.2) (F := V.1) eF (by omega) 1 (mc_val M cn (nI i) 1) (nI kk)) wy_Fl_add wl_Fl_35 hP hD hS eF.1 rfl hl.1 ⟨by decide, by decide⟩ ⟨Nat.le_refl _, Nat.le_refl _⟩ rfl (Nat.le_of_ble_eq_true rfl) d_Fl_findWaysToNowhere_45 (fun w104 H locs hr45 hP hD hS => ?_)
                  obtain ⟨hq, eF⟩ := hr45
                  have hQ := hQ.tr hq
                  have eM := eM.keep hq (by omega)
                  refine lv_iinc (v := nI (kk + 1)) (lv' := [(3, .int (nI (kk + 1))), (2, .int (nI i)), (0, .ref h), (1, .ref hm)]) hx hb d_Fl_findWaysToNowhere_48 hl (k := 0) rfl (nI_1 kk) (by decide) rfl (fun ls hl => ?_)
                  refine lv_goto (tgt := 12) hx hb d_Fl_findWaysToNowhere_51 (by decide) ?_
                  rw [fl_w2, if_neg c23, if_pos c33] at eV
                  rw [← eV] at eF
                  exact ih2 (kk + 1) _ _ _ _ (by omega) (by omega) hl hP hD hS hQ eF eM
        have eF : xFs g _ q h o r (it (fl_w2 M ix cn i) 0 (it (fl_w1 M ix cn) i f0)) := eF
        exact loop2 3 0 _ _ _ _ (by omega) (by omega) hl hP hD hS hQ eF eM
  have eF : xFs g _ q h o r (it (fl_w1 M ix cn) 0 f0) := eF
  exact loop (cn + 1) 0 _ _ _ _ (by omega) (by omega) hl hP hD hS hQ eF eM
noncomputable def fl_k2 (M : Nat → Nat → Int32) (ix : Nat → Int32) (n : Nat) (T : Nat → Nat → Int32) (k : Nat) (i : Nat) (f : fl_S) : fl_S := if fl_is k M ix n T (nI i) = 0 then f else fl_add f (nI k) (mc_val M n (nI i) 1) (-1)
noncomputable def fl_k1 (M : Nat → Nat → Int32) (ix : Nat → Int32) (n : Nat) (T : Nat → Nat → Int32) (k : Nat) (f : fl_S) : fl_S := it (fl_k2 M ix n T (k + 2)) n f
noncomputable def fl_all (M : Nat → Nat → Int32) (ix : Nat → Int32) (n : Nat) (T : Nat → Nat → Int32) (F : Nat → Nat → Int32) : fl_S := it (fl_k1 M ix n T) 5 (it (fl_w1 M ix n) n (F, 0))
theorem fl_k2_le {M : Nat → Nat → Int32} {ix : Nat → Int32} {n : Nat} {T : Nat → Nat → Int32} {k : Nat} : ∀ i s, (fl_k2 M ix n T k i s).2 ≤ s.2 + 1 := fun i s => by
  unfold fl_k2
  split
  · omega
  · show s.2 + 1 ≤ s.2 + 1
    exact Nat.le_refl _
theorem fl_k1_le {M : Nat → Nat → Int32} {ix : Nat → Int32} {n : Nat} {T : Nat → Nat → Int32} (hn : n ≤ 24) : ∀ k s, (fl_k1 M ix n T k s).2 ≤ s.2 + 24 := fun k s => by
  have := it_le (c := 1) (fl_k2_le (M := M) (ix := ix) (n := n) (T := T) (k := k + 2)) n s
  unfold fl_k1
  omega
set_option maxRecDepth 100000 in
set_option maxHeartbeats 4000000 in
theorem c_Fl_find (l : Launch) (g : xG) (b0 : Nat) (ws : va_W) {q h o n : Nat} {r : Nat → Nat} {F : Nat → Nat → Int32} (hT : xFlt g ws q h o r F n) {qm hm om dm cn : Nat} {rm : Nat → Nat} {M : Nat → Nat → Int32} {ix : Nat → Int32} (eM : xMach g ws qm hm om dm rm M ix cn) (hcn : cn ≤ 24) {qp hp op : Nat} {rp : Nat → Nat} {T : Nat → Nat → Int32} (eP : xPath g ws qp hp op rp T) (hd : (qm + 9 ≤ q ∨ q + 5 ≤ qm) ∧ (qp + 26 ≤ q ∨ q + 5 ≤ qp)) : xMv l g b0 y_Fl_find b_Fl_find 5 5 [.ref h, .ref hm, .ref hp] ws (fun u => xQ q (q + 5) ws u ∧ xFs g u q h o r (fl_all M ix cn T F)) := by
  unfold xMv
  refine x_in (by decide) (Nat.le_of_ble_eq_true rfl) ?_
  intro p e s m below meth c ls E hr hin hP hD hl
  obtain ⟨hx, hb, hml, hown, hts, hK, hZ, hb0, hlocks⟩ := id E
  have hS : va_S (xA b0) s.heap s.heap [] := va_S.rf
  have hl : lv_has ls 5 [(0, .ref h), (1, .ref hm), (2, .ref hp)] := hl
  obtain ⟨e0, e1, e2⟩ := id hT
  have hQ : xQ q (q + 5) ws ws := xQ.rf
  refine lv_aload_n hx hb d_Fl_find_0 rfl (lv_at hl 0 rfl) ?_
  refine lv_iconst (v := 0) hx hb d_Fl_find_1 (by decide) ?_
  refine x_put E hP hD hS e0 rfl cl5_in cl5_ty cl5_nm 1 (by decide) wf_Fl_16 rfl rfl rfl (Nat.le_of_ble_eq_true rfl) d_Fl_find_2 (fun w1 H locs hU1 hP hD hS => ?_)
  have e0 : w1[q]? = some (h, .inr (5, [.ref o, .int 0])) := hU1.1
  have e1 : w1[q + 1]? = some (o, .inl (cG g, 3, .inr (.inr (.inr (.inr (fun j => some (r j))))))) := (hU1.2 _ (by omega)).trans e1
  have e2 : ∀ j, j < 3 → w1[q + 2 + j]? = some (r j, .inl (cI g, 168, .inl (F j))) := fun j hj => (hU1.2 _ (by omega)).trans (e2 j hj)
  have eM : xMach g w1 qm hm om dm rm M ix cn := ⟨(hU1.2 _ (by omega)).trans eM.1, (hU1.2 _ (by omega)).trans eM.2.1, (hU1.2 _ (by omega)).trans eM.2.2.1, fun j hj => (hU1.2 _ (by omega)).trans (eM.2.2.2 j hj)⟩
  have eP : xPath g w1 qp hp op rp T := ⟨(hU1.2 _ (by omega)).trans eP.1, (hU1.2 _ (by omega)).trans eP.2.1, fun j hj => (hU1.2 _ (by omega)).trans (eP.2.2 j hj)⟩
  have hQ := hQ.up hU1 (by omega)
  refine lv_aload_n hx hb d_Fl_find_5 rfl (lv_at hl 0 rfl) ?_
  refine lv_aload_n hx hb d_Fl_find_6 rfl (lv_at hl 1 rfl) ?_
  refine x_cVv (As := [.ref hm]) (rest := []) E (c_Fl_findWaysToNowhere l g b0 _ (f0 := (F, 0)) ⟨e0, e1, e2⟩ rfl eM hcn hd.1) wy_Fl_findWaysToNowhere wl_Fl_20 hP hD hS e0 rfl hl.1 ⟨by decide, by decide⟩ ⟨Nat.le_refl _, Nat.le_refl _⟩ rfl (Nat.le_of_ble_eq_true rfl) d_Fl_find_7 (fun w2 H locs hr7 hP hD hS => ?_)
  obtain ⟨hq, eF⟩ := hr7
  have hQ := hQ.tr hq
  have eM := eM.keep hq (by omega)
  have eP := eP.keep hq (by omega)
  refine lv_iconst (v := 2) hx hb d_Fl_find_10 (by decide) ?_
  refine lv_istore_n (lv' := [(3, .int 2), (0, .ref h), (1, .ref hm), (2, .ref hp)]) hx hb d_Fl_find_11 rfl hl (by decide) rfl (fun ls hl => ?_)
  have loop : ∀ (k k1 : Nat)  (w : va_W) (H : Heap) (locs : List Loc) (ls : Array Slot), (5 < k1 + k) → (k1 ≤ 5) → (lv_has ls 5 [(3, .int (nI (k1 + 2))), (0, .ref h), (1, .ref hm), (2, .ref hp)]) → (va_P (xD g) vwCl w H) → (va_D (xA b0) w) → (va_S (xA b0) s.heap H locs) → (xQ q (q + 5) ws w) → (xFs g w q h o r (it (fl_k1 M ix cn T) k1 (it (fl_w1 M ix cn) cn (F, 0)))) → (xMach g w qm hm om dm rm M ix cn) → (xPath g w qp hp op rp T) → W p l e (rmL 5) s m ([.ref h, .ref hm, .ref hp] : List Value).toArray below meth c H locs 0 0 (MQ below (va_Qv (fun u => xQ q (q + 5) ws u ∧ xFs g u q h o r (fl_all M ix cn T F)) (fun u t => va_P (xD g) vwCl u t.heap ∧ va_D (xA b0) u) (xA b0)) ([.ref h, .ref hm, .ref hp] : List Value).toArray s 0 0 (xA b0)) (F0 m 12 ls []) := by
    intro k
    induction k with
    | zero =>
      intro k1 w H locs ls hk hi hl hP hD hS hQ eF eM eP
      omega
    | succ k ih =>
      intro k1 w H locs ls hk hi hl hP hD hS hQ eF eM eP
      refine lv_iload_n hx hb d_Fl_find_12 rfl (lv_at hl 0 rfl) ?_
      refine lv_bipush (v := 6) hx hb d_Fl_find_13 (by decide) ?_
      refine lv_icmp_gt (tgt := 66) hx hb d_Fl_find_15 (by decide) (fun c15 => ?_) (fun c15 => ?_)
      · have hi9 : k1 = 5 := by
          have := (nI_ltI (a := 6) (by decide) (by omega)).mp c15
          omega
        rw [hi9] at eF
        exact x_rv E hr hS ⟨hQ, eF⟩ hP hD d_Fl_find_66
      · have hi9 : k1 < 5 := Nat.not_le.mp fun h => c15 (nI_lt (a := 6) (by omega) (by omega))
        refine lv_iconst (v := 0) hx hb d_Fl_find_18 (by decide) ?_
        refine lv_istore (lv' := [(4, .int 0), (3, .int (nI (k1 + 2))), (0, .ref h), (1, .ref hm), (2, .ref hp)]) hx hb d_Fl_find_19 hl (by decide) rfl (fun ls hl => ?_)
        have loop2 : ∀ (k i : Nat)  (v : va_W) (H : Heap) (locs : List Loc) (ls : Array Slot), (cn < i + k) → (i ≤ cn) → (lv_has ls 5 [(4, .int (nI i)), (3, .int (nI (k1 + 2))), (0, .ref h), (1, .ref hm), (2, .ref hp)]) → (va_P (xD g) vwCl v H) → (va_D (xA b0) v) → (va_S (xA b0) s.heap H locs) → (xQ q (q + 5) ws v) → (xFs g v q h o r (it (fl_k2 M ix cn T (k1 + 2)) i (it (fl_k1 M ix cn T) k1 (it (fl_w1 M ix cn) cn (F, 0))))) → (xMach g v qm hm om dm rm M ix cn) → (xPath g v qp hp op rp T) → W p l e (rmL 5) s m ([.ref h, .ref hm, .ref hp] : List Value).toArray below meth c H locs 0 0 (MQ below (va_Qv (fun u => xQ q (q + 5) ws u ∧ xFs g u q h o r (fl_all M ix cn T F)) (fun u t => va_P (xD g) vwCl u t.heap ∧ va_D (xA b0) u) (xA b0)) ([.ref h, .ref hm, .ref hp] : List Value).toArray s 0 0 (xA b0)) (F0 m 21 ls []) := by
          intro k
          induction k with
          | zero =>
            intro i v H locs ls hk hii hl hP hD hS hQ eF eM eP
            omega
          | succ k ih2 =>
            intro i v H locs ls hk hii hl hP hD hS hQ eF eM eP
            have hb0 := it_le (c := 2) (fl_w1_le (M := M) (ix := ix) (n := cn)) cn (F, 0)
            have hb1 := it_le (c := 24) (fl_k1_le (M := M) (ix := ix) (n := cn) (T := T) hcn) k1 (it (fl_w1 M ix cn) cn (F, 0))
            have hb2 := it_le (c := 1) (fl_k2_le (M := M) (ix := ix) (n := cn) (T := T) (k := k1 + 2)) i (it (fl_k1 M ix cn T) k1 (it (fl_w1 M ix cn) cn (F, 0)))
            have eV : it (fl_k2 M ix cn T (k1 + 2)) (i + 1) (it (fl_k1 M ix cn T) k1 (it (fl_w1 M ix cn) cn (F, 0))) = fl_k2 M ix cn T (k1 + 2) i (it (fl_k2 M ix cn T (k1 + 2)) i (it (fl_k1 M ix cn T) k1 (it (fl_w1 M ix cn) cn (F, 0)))) := rfl
            generalize eV0 : it (fl_k2 M ix cn T (k1 + 2)) i (it (fl_k1 M ix cn T) k1 (it (fl_w1 M ix cn) cn (F, 0))) = V at eF eV hb2
            refine lv_iload hx hb d_Fl_find_21 (lv_at hl 0 rfl) ?_
            refine lv_aload_n hx hb d_Fl_find_23 rfl (lv_at hl 3 rfl) ?_
            refine x_get E hP eM.1 rfl cl2_in 2 (by decide) wf_Fl_24 rfl d_Fl_find_24 ?_
            refine lv_icmp_ge (tgt := 60) hx hb d_Fl_find_27 (by decide) (fun c27 => ?_) (fun c27 => ?_)
            · have hj9 : cn ≤ i := (nI_leI (by omega) (by omega)).mp c27
              refine lv_iinc (v := nI (k1 + 1 + 2)) (lv' := [(3, .int (nI (k1 + 1 + 2))), (4, .int (nI i)), (0, .ref h), (1, .ref hm), (2, .ref hp)]) hx hb d_Fl_find_60 hl (k := 1) rfl ((nI_1 (k1 + 2)).trans (by rw [show k1 + 2 + 1 = k1 + 1 + 2 by omega])) (by decide) rfl (fun ls hl => ?_)
              refine lv_goto (tgt := 12) hx hb d_Fl_find_63 (by decide) ?_
              have e2 : i = cn := by omega
              rw [← eV0, e2] at eF
              have eF : xFs g _ q h o r (it (fl_k1 M ix cn T) (k1 + 1) (it (fl_w1 M ix cn) cn (F, 0))) := eF
              exact ih (k1 + 1) _ _ _ _ (by omega) (by omega) (lv_sub hl [0, 2, 3, 4] rfl) hP hD hS hQ eF eM eP
            · have hj9 : i < cn := Nat.not_le.mp fun h => c27 (nI_le h (by omega))
              refine lv_iload_n hx hb d_Fl_find_30 rfl (lv_at hl 1 rfl) ?_
              refine lv_aload_n hx hb d_Fl_find_31 rfl (lv_at hl 3 rfl) ?_
              refine lv_aload_n hx hb d_Fl_find_32 rfl (lv_at hl 4 rfl) ?_
              refine lv_iload hx hb d_Fl_find_33 (lv_at hl 0 rfl) ?_
              refine x_cSi (As := [.int (nI (k1 + 2)), .ref hm, .ref hp, .int (nI i)]) (rest := []) E (c_Fl_isFaulty l g b0 _ eM hcn eP (nI i) (k1 + 2) (by omega)) wy_Fl_isFaulty wl_Fl_27 hP hD hS hl.1 ⟨by decide, by decide⟩ ⟨Nat.le_refl _, Nat.le_refl _⟩ rfl (Nat.le_of_ble_eq_true rfl) d_Fl_find_35 (fun r35 hr35 => ?_)
              subst hr35
              refine lv_if_eq (tgt := 54) hx hb d_Fl_find_38 (by decide) (fun c38 => ?_) (fun c38 => ?_)
              · refine lv_iinc (v := nI (i + 1)) (lv' := [(4, .int (nI (i + 1))), (3, .int (nI (k1 + 2))), (0, .ref h), (1, .ref hm), (2, .ref hp)]) hx hb d_Fl_find_54 hl (k := 0) rfl (nI_1 i) (by decide) rfl (fun ls hl => ?_)
                refine lv_goto (tgt := 21) hx hb d_Fl_find_57 (by decide) ?_
                rw [fl_k2, if_pos c38] at eV
                rw [← eV] at eF
                exact ih2 (i + 1) _ _ _ _ (by omega) (by omega) hl hP hD hS hQ eF eM eP
              · refine lv_aload_n hx hb d_Fl_find_41 rfl (lv_at hl 2 rfl) ?_
                refine lv_iload_n hx hb d_Fl_find_42 rfl (lv_at hl 1 rfl) ?_
                refine lv_aload_n hx hb d_Fl_find_43 rfl (lv_at hl 3 rfl) ?_
                refine lv_iload hx hb d_Fl_find_44 (lv_at hl 0 rfl) ?_
                refine lv_iconst (v := 1) hx hb d_Fl_find_46 (by decide) ?_
                refine x_cRi (As := [.int (nI i), .int 1]) (rest := [.int (nI (k1 + 2)), .ref h]) E (c_Mc_value l g b0 _ eM hcn (nI i) 1) wy_Mc_value wl_Fl_31 hP hD hS eM.1 rfl hl.1 ⟨by decide, by decide⟩ ⟨Nat.le_refl _, Nat.le_refl _⟩ rfl (Nat.le_of_ble_eq_true rfl) d_Fl_find_47 (fun r47 hr47 => ?_)
                subst hr47
                refine lv_iconst (v := (-1)) hx hb d_Fl_find_50 (by decide) ?_
                refine x_cVv (As := [.int (nI (k1 + 2)), .int (mc_val M cn (nI i) 1), .int (-1)]) (rest := []) E (c_Fl_add l g b0 _ (n := V.2) (F := V.1) eF (by omega) (nI (k1 + 2)) (mc_val M cn (nI i) 1) (-1)) wy_Fl_add wl_Fl_35 hP hD hS eF.1 rfl hl.1 ⟨by decide, by decide⟩ ⟨Nat.le_refl _, Nat.le_refl _⟩ rfl (Nat.le_of_ble_eq_true rfl) d_Fl_find_51 (fun w104 H locs hr51 hP hD hS => ?_)
                obtain ⟨hq, eF⟩ := hr51
                have hQ := hQ.tr hq
                have eM := eM.keep hq (by omega)
                have eP := eP.keep hq (by omega)
                refine lv_iinc (v := nI (i + 1)) (lv' := [(4, .int (nI (i + 1))), (3, .int (nI (k1 + 2))), (0, .ref h), (1, .ref hm), (2, .ref hp)]) hx hb d_Fl_find_54 hl (k := 0) rfl (nI_1 i) (by decide) rfl (fun ls hl => ?_)
                refine lv_goto (tgt := 21) hx hb d_Fl_find_57 (by decide) ?_
                rw [fl_k2, if_neg c38] at eV
                rw [← eV] at eF
                exact ih2 (i + 1) _ _ _ _ (by omega) (by omega) hl hP hD hS hQ eF eM eP
        have eF : xFs g _ q h o r (it (fl_k2 M ix cn T (k1 + 2)) 0 (it (fl_k1 M ix cn T) k1 (it (fl_w1 M ix cn) cn (F, 0)))) := eF
        exact loop2 (cn + 1) 0 _ _ _ _ (by omega) (by omega) hl hP hD hS hQ eF eM eP
  have eF : xFs g _ q h o r (it (fl_k1 M ix cn T) 0 (it (fl_w1 M ix cn) cn (F, 0))) := eF
  exact loop 6 0 _ _ _ _ (by omega) (by omega) hl hP hD hS hQ eF eM eP
