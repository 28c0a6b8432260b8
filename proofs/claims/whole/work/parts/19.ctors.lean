set_option maxRecDepth 100000 in
set_option maxHeartbeats 4000000 in
theorem c_Tx_init (l : Launch) (g : xG) (b0 : Nat) (ws : va_W) {q h : Nat} (hlen : ws.length = q + 1) (e0 : ws[q]? = some (h, .inr (1, [.null, .int 0]))) : xMc l g b0 y_Tx_init b_Tx_init 1 1 1 300 [.ref h] ws (fun u => u.length = q + 2 ∧ xQ q (q + 2) ws u ∧ ∃ a, xText g u q h a (fun _ => 0) 0) := by
  unfold xMc
  refine x_in (by decide) (Nat.le_of_ble_eq_true rfl) ?_
  intro p e s m below meth c ls E hr hin hP hD hl
  obtain ⟨hx, hb, hml, hown, hts, hK, hZ, hb0, hlocks⟩ := id E
  have hS : va_S (xA b0) s.heap s.heap [] := va_S.rf
  have hl : lv_has ls 1 [(0, .ref h)] := hl
  have hQ : xQ q (q + 1) ws ws := xQ.rf
  refine lv_aload_n hx hb d_Tx_init_0 rfl (lv_at hl 0 rfl) ?_
  refine x_obj0 E wo_Tx hl.1 d_Tx_init_1 ⟨by decide, by decide⟩ (Nat.le_of_ble_eq_true rfl) ?_
  refine lv_aload_n hx hb d_Tx_init_4 rfl (lv_at hl 0 rfl) ?_
  refine lv_sipush (v := 300) hx hb d_Tx_init_5 (by decide) ?_
  refine x_newa E hP hD hS (ty := .char) rfl wa_char (cls := cC g) 1 rfl (fun _ h => by cases h) (N' := 300) (a0 := (300, .inl (fun _ => 0))) (fun _ => rfl) (by decide) (by decide) (by decide) (by decide) (by decide) d_Tx_init_8 (fun a8 w1 H hU1 hL hP hD hS => ?_)
  rw [hlen] at hU1 hL
  have n8 : w1[q + 1]? = some (a8, .inl (cC g, 300, .inl (fun _ => 0))) := hU1.1
  have e0 : w1[q]? = some (h, .inr (1, [.null, .int 0])) := (hU1.2 _ (by omega)).trans e0
  have hQ : xQ q (q + 1 + 1) ws w1 := fun k hk9 => (hU1.2 k (by omega)).trans (hQ k (by omega))
  have hlen := hL
  have o9 := e0
  refine x_putF E hP hD hS e0 rfl cl1_in cl1_ty cl1_nm 0 (by decide) wf_Tx_9 rfl (hin rfl) rfl rfl rfl (Nat.le_of_ble_eq_true rfl) d_Tx_init_10 (fun w2 H locs hU2 hP hD hS => ?_)
  have e0 : w2[q]? = some (h, .inr (1, [.ref a8, .int 0])) := hU2.1
  have n8 : w2[q + 1]? = some (a8, .inl (cC g, 300, .inl (fun _ => 0))) := (hU2.2 _ (by omega)).trans n8
  have hQ := hQ.up hU2 (by omega)
  have hlen := (hU2.len o9).trans hlen
  refine lv_aload_n hx hb d_Tx_init_13 rfl (lv_at hl 0 rfl) ?_
  refine lv_iconst (v := 0) hx hb d_Tx_init_14 (by decide) ?_
  have o9 := e0
  refine x_put E hP hD hS e0 rfl cl1_in cl1_ty cl1_nm 1 (by decide) wf_Tx_15 rfl rfl rfl (Nat.le_of_ble_eq_true rfl) d_Tx_init_15 (fun w3 H locs hU3 hP hD hS => ?_)
  have e0 : w3[q]? = some (h, .inr (1, [.ref a8, .int 0])) := hU3.1
  have n8 : w3[q + 1]? = some (a8, .inl (cC g, 300, .inl (fun _ => 0))) := (hU3.2 _ (by omega)).trans n8
  have hQ := hQ.up hU3 (by omega)
  have hlen := (hU3.len o9).trans hlen
  exact x_rv E hr hS ⟨by omega, hQ, _, e0, n8⟩ hP hD d_Tx_init_18
set_option maxRecDepth 100000 in
set_option maxHeartbeats 4000000 in
theorem c_Mc_init (l : Launch) (g : xG) (b0 : Nat) (ws : va_W) {q h : Nat} (hlen : ws.length = q + 1) (e0 : ws[q]? = some (h, .inr (2, [.null, .null, .int 0]))) : xMc l g b0 y_Mc_init b_Mc_init 1 1 8 180 [.ref h] ws (fun u => u.length = q + 9 ∧ xQ q (q + 9) ws u ∧ ∃ o d r ix, xMach g u q h o d r (fun _ _ => 0) ix 0 ∧ ∀ j, j < 30 → ix j = -1) := by
  unfold xMc
  refine x_in (by decide) (Nat.le_of_ble_eq_true rfl) ?_
  intro p e s m below meth c ls E hr hin hP hD hl
  obtain ⟨hx, hb, hml, hown, hts, hK, hZ, hb0, hlocks⟩ := id E
  have hS : va_S (xA b0) s.heap s.heap [] := va_S.rf
  have hl : lv_has ls 1 [(0, .ref h)] := hl
  have hQ : xQ q (q + 1) ws ws := xQ.rf
  refine lv_aload_n hx hb d_Mc_init_0 rfl (lv_at hl 0 rfl) ?_
  refine x_obj0 E wo_Mc hl.1 d_Mc_init_1 ⟨by decide, by decide⟩ (Nat.le_of_ble_eq_true rfl) ?_
  refine lv_aload_n hx hb d_Mc_init_4 rfl (lv_at hl 0 rfl) ?_
  refine lv_bipush (v := 6) hx hb d_Mc_init_5 (by decide) ?_
  refine lv_bipush (v := 24) hx hb d_Mc_init_7 (by decide) ?_
  refine x_mna E hP hD hS wk_Mc_9 (N := 6) (M := 24) (by decide) (by decide) (by decide) (by decide) (by decide) (by decide) (by decide) (by decide) d_Mc_init_9 (fun a9 r9 w1 H ho hrw hk hL hP hD hS => ?_)
  rw [hlen] at ho hrw hk hL
  have n9 : w1[q + 1]? = some (a9, .inl (cG g, 6, .inr (.inr (.inr (.inr (fun j => some (r9 j))))))) := ho
  have f9 : ∀ j, j < 6 → w1[q + 1 + 1 + j]? = some (r9 j, .inl (cI g, 24, .inl ((fun _ _ => 0) j))) := hrw
  have e0 : w1[q]? = some (h, .inr (2, [.null, .null, .int 0])) := (hk _ (by omega)).trans e0
  have hQ : xQ q (q + 1 + 1 + 6) ws w1 := fun k hk9 => by
    rcases hk9 with h9 | h9
    · exact (hk k (by omega)).trans (hQ k (by omega))
    · rw [List.getElem?_eq_none (by omega), List.getElem?_eq_none (by omega)]
  have hlen := hL
  have o9 := e0
  refine x_putF E hP hD hS e0 rfl cl2_in cl2_ty cl2_nm 0 (by decide) wf_Mc_11 rfl (hin rfl) rfl rfl rfl (Nat.le_of_ble_eq_true rfl) d_Mc_init_13 (fun w2 H locs hU2 hP hD hS => ?_)
  have e0 : w2[q]? = some (h, .inr (2, [.ref a9, .null, .int 0])) := hU2.1
  have n9 : w2[q + 1]? = some (a9, .inl (cG g, 6, .inr (.inr (.inr (.inr (fun j => some (r9 j))))))) := (hU2.2 _ (by omega)).trans n9
  have f9 : ∀ j, j < 6 → w2[q + 1 + 1 + j]? = some (r9 j, .inl (cI g, 24, .inl ((fun _ _ => 0) j))) := fun j hj => (hU2.2 _ (by omega)).trans (f9 j hj)
  have hQ := hQ.up hU2 (by omega)
  have hlen := (hU2.len o9).trans hlen
  refine lv_aload_n hx hb d_Mc_init_16 rfl (lv_at hl 0 rfl) ?_
  refine lv_bipush (v := 30) hx hb d_Mc_init_17 (by decide) ?_
  refine x_newa E hP hD hS (ty := .int) rfl wa_int (cls := cI g) 0 rfl (fun _ h => by cases h) (N' := 30) (a0 := (30, .inl (fun _ => 0))) (fun _ => rfl) (by decide) (by decide) (by decide) (by decide) (by decide) d_Mc_init_19 (fun a19 w3 H hU3 hL hP hD hS => ?_)
  rw [hlen] at hU3 hL
  have n19 : w3[q + 1 + 1 + 6]? = some (a19, .inl (cI g, 30, .inl (fun _ => 0))) := hU3.1
  have e0 : w3[q]? = some (h, .inr (2, [.ref a9, .null, .int 0])) := (hU3.2 _ (by omega)).trans e0
  have n9 : w3[q + 1]? = some (a9, .inl (cG g, 6, .inr (.inr (.inr (.inr (fun j => some (r9 j))))))) := (hU3.2 _ (by omega)).trans n9
  have f9 : ∀ j, j < 6 → w3[q + 1 + 1 + j]? = some (r9 j, .inl (cI g, 24, .inl ((fun _ _ => 0) j))) := fun j hj => (hU3.2 _ (by omega)).trans (f9 j hj)
  have hQ : xQ q (q + 1 + 1 + 6 + 1) ws w3 := fun k hk9 => (hU3.2 k (by omega)).trans (hQ k (by omega))
  have hlen := hL
  have o9 := e0
  refine x_putF E hP hD hS e0 rfl cl2_in cl2_ty cl2_nm 1 (by decide) wf_Mc_16 rfl (hin rfl) rfl rfl rfl (Nat.le_of_ble_eq_true rfl) d_Mc_init_21 (fun w4 H locs hU4 hP hD hS => ?_)
  have e0 : w4[q]? = some (h, .inr (2, [.ref a9, .ref a19, .int 0])) := hU4.1
  have n9 : w4[q + 1]? = some (a9, .inl (cG g, 6, .inr (.inr (.inr (.inr (fun j => some (r9 j))))))) := (hU4.2 _ (by omega)).trans n9
  have f9 : ∀ j, j < 6 → w4[q + 1 + 1 + j]? = some (r9 j, .inl (cI g, 24, .inl ((fun _ _ => 0) j))) := fun j hj => (hU4.2 _ (by omega)).trans (f9 j hj)
  have n19 : w4[q + 1 + 1 + 6]? = some (a19, .inl (cI g, 30, .inl (fun _ => 0))) := (hU4.2 _ (by omega)).trans n19
  have hQ := hQ.up hU4 (by omega)
  have hlen := (hU4.len o9).trans hlen
  refine lv_aload_n hx hb d_Mc_init_24 rfl (lv_at hl 0 rfl) ?_
  refine x_cVv (As := []) (rest := []) E (c_Mc_clear l g b0 _ (n := 0) ⟨e0, n9, n19, f9⟩ (by decide)) wy_Mc_clear wl_Mc_20 hP hD hS e0 rfl hl.1 ⟨by decide, by decide⟩ ⟨Nat.le_refl _, Nat.le_refl _⟩ rfl (Nat.le_of_ble_eq_true rfl) d_Mc_init_25 (fun w5 H locs hr25 hP hD hS => ?_)
  obtain ⟨hq, ix, eT, hix⟩ := hr25
  have hl9 : w5.length = q + 9 := xQ.len hq (n := q + 9) (by omega) (by omega) eT.2.2.1 rfl
  have hQ : xQ q (q + 9) ws w5 := fun k hk9 => (hq k (by omega)).trans (hQ k (by omega))
  exact x_rv E hr hS ⟨by omega, hQ, _, _, _, ix, eT, hix⟩ hP hD d_Mc_init_28
set_option maxRecDepth 100000 in
set_option maxHeartbeats 4000000 in
theorem c_Ps_init (l : Launch) (g : xG) (b0 : Nat) (ws : va_W) {q h : Nat} (hlen : ws.length = q + 1) (e0 : ws[q]? = some (h, .inr (3, [.null, .int 0]))) : xMc l g b0 y_Ps_init b_Ps_init 1 2 2 302 [.ref h] ws (fun u => u.length = q + 3 ∧ xQ q (q + 3) ws u ∧ ∃ t x, u[q]? = some (h, .inr (3, [.ref t, .int (nI 0)])) ∧ xText g u (q + 1) t x (fun _ => 0) 0) := by
  unfold xMc
  refine x_in (by decide) (Nat.le_of_ble_eq_true rfl) ?_
  intro p e s m below meth c ls E hr hin hP hD hl
  obtain ⟨hx, hb, hml, hown, hts, hK, hZ, hb0, hlocks⟩ := id E
  have hS : va_S (xA b0) s.heap s.heap [] := va_S.rf
  have hl : lv_has ls 1 [(0, .ref h)] := hl
  have hQ : xQ q (q + 1) ws ws := xQ.rf
  refine lv_aload_n hx hb d_Ps_init_0 rfl (lv_at hl 0 rfl) ?_
  refine x_obj0 E wo_Ps hl.1 d_Ps_init_1 ⟨by decide, by decide⟩ (Nat.le_of_ble_eq_true rfl) ?_
  refine lv_aload_n hx hb d_Ps_init_4 rfl (lv_at hl 0 rfl) ?_
  refine x_new E hP hD hS (ci := 1) (fs := [.null, .int 0]) rfl cl1_in cl1_ty wk_Ps_9 wn_Tx wc_Tx (fun j hj => by rcases (show j = 0 ∨ j = 1 by omega) with rfl | rfl <;> rfl) (by decide) (by decide) d_Ps_init_5 (fun a5 w1 H hU1 hL hP hD hS => ?_)
  rw [hlen] at hU1 hL
  have n5 : w1[q + 1]? = some (a5, .inr (1, [.null, .int 0])) := hU1.1
  have e0 : w1[q]? = some (h, .inr (3, [.null, .int 0])) := (hU1.2 _ (by omega)).trans e0
  have hQ : xQ q (q + 1 + 1) ws w1 := fun k hk9 => (hU1.2 k (by omega)).trans (hQ k (by omega))
  have hlen := hL
  refine lv_dup hx hb d_Ps_init_8 rfl ?_
  refine x_cI (As := []) (rest := [.ref a5, .ref h]) E (c_Tx_init l g b0 _ (q := q + 1) hlen n5) wy_Tx_init wl_Ps_11 hP hD hS hl.1 ⟨by decide, by decide⟩ ⟨by decide, by decide⟩ rfl (Nat.le_of_ble_eq_true rfl) d_Ps_init_9 (fun w2 H locs hr9 hP hD hS => ?_)
  obtain ⟨hL, hq, x1, t1⟩ := hr9
  have e0 : w2[q]? = some (h, .inr (3, [.null, .int 0])) := (hq _ (by omega)).trans e0
  have hQ : xQ q (q + 3) ws w2 := fun k hk9 => (hq k (by omega)).trans (hQ k (by omega))
  have hlen : w2.length = q + 3 := by omega
  have o9 := e0
  refine x_putF E hP hD hS e0 rfl cl3_in cl3_ty cl3_nm 0 (by decide) wf_Ps_12 rfl (hin rfl) rfl rfl rfl (Nat.le_of_ble_eq_true rfl) d_Ps_init_12 (fun w3 H locs hU3 hP hD hS => ?_)
  have e0 : w3[q]? = some (h, .inr (3, [.ref a5, .int 0])) := hU3.1
  have t1 : xText g w3 (q + 1) a5 x1 (fun _ => 0) 0 := t1.kp (fun i _ _ => hU3.2 i (by omega))
  have hQ := hQ.up hU3 (by omega)
  have hlen := (hU3.len o9).trans hlen
  refine lv_aload_n hx hb d_Ps_init_15 rfl (lv_at hl 0 rfl) ?_
  refine lv_iconst (v := 0) hx hb d_Ps_init_16 (by decide) ?_
  have o9 := e0
  refine x_put E hP hD hS e0 rfl cl3_in cl3_ty cl3_nm 1 (by decide) wf_Ps_18 rfl rfl rfl (Nat.le_of_ble_eq_true rfl) d_Ps_init_17 (fun w4 H locs hU4 hP hD hS => ?_)
  have e0 : w4[q]? = some (h, .inr (3, [.ref a5, .int 0])) := hU4.1
  have t1 : xText g w4 (q + 1) a5 x1 (fun _ => 0) 0 := t1.kp (fun i _ _ => hU4.2 i (by omega))
  have hQ := hQ.up hU4 (by omega)
  have hlen := (hU4.len o9).trans hlen
  exact x_rv E hr hS ⟨hlen, hQ, _, _, e0, t1⟩ hP hD d_Ps_init_20
set_option maxRecDepth 100000 in
set_option maxHeartbeats 4000000 in
theorem c_Pa_init (l : Launch) (g : xG) (b0 : Nat) (ws : va_W) {q h : Nat} (hlen : ws.length = q + 1) (e0 : ws[q]? = some (h, .inr (4, [.null]))) : xMc l g b0 y_Pa_init b_Pa_init 1 1 25 600 [.ref h] ws (fun u => u.length = q + 26 ∧ xQ q (q + 26) ws u ∧ ∃ o r, xPath g u q h o r (fun _ _ => 0)) := by
  unfold xMc
  refine x_in (by decide) (Nat.le_of_ble_eq_true rfl) ?_
  intro p e s m below meth c ls E hr hin hP hD hl
  obtain ⟨hx, hb, hml, hown, hts, hK, hZ, hb0, hlocks⟩ := id E
  have hS : va_S (xA b0) s.heap s.heap [] := va_S.rf
  have hl : lv_has ls 1 [(0, .ref h)] := hl
  have hQ : xQ q (q + 1) ws ws := xQ.rf
  refine lv_aload_n hx hb d_Pa_init_0 rfl (lv_at hl 0 rfl) ?_
  refine x_obj0 E wo_Pa hl.1 d_Pa_init_1 ⟨by decide, by decide⟩ (Nat.le_of_ble_eq_true rfl) ?_
  refine lv_aload_n hx hb d_Pa_init_4 rfl (lv_at hl 0 rfl) ?_
  refine lv_bipush (v := 24) hx hb d_Pa_init_5 (by decide) ?_
  refine lv_bipush (v := 24) hx hb d_Pa_init_7 (by decide) ?_
  refine x_mna E hP hD hS wk_Pa_9 (N := 24) (M := 24) (by decide) (by decide) (by decide) (by decide) (by decide) (by decide) (by decide) (by decide) d_Pa_init_9 (fun a9 r9 w1 H ho hrw hk hL hP hD hS => ?_)
  rw [hlen] at ho hrw hk hL
  have n9 : w1[q + 1]? = some (a9, .inl (cG g, 24, .inr (.inr (.inr (.inr (fun j => some (r9 j))))))) := ho
  have f9 : ∀ j, j < 24 → w1[q + 1 + 1 + j]? = some (r9 j, .inl (cI g, 24, .inl ((fun _ _ => 0) j))) := hrw
  have e0 : w1[q]? = some (h, .inr (4, [.null])) := (hk _ (by omega)).trans e0
  have hQ : xQ q (q + 1 + 1 + 24) ws w1 := fun k hk9 => by
    rcases hk9 with h9 | h9
    · exact (hk k (by omega)).trans (hQ k (by omega))
    · rw [List.getElem?_eq_none (by omega), List.getElem?_eq_none (by omega)]
  have hlen := hL
  have o9 := e0
  refine x_putF E hP hD hS e0 rfl cl4_in cl4_ty cl4_nm 0 (by decide) wf_Pa_11 rfl (hin rfl) rfl rfl rfl (Nat.le_of_ble_eq_true rfl) d_Pa_init_13 (fun w2 H locs hU2 hP hD hS => ?_)
  have e0 : w2[q]? = some (h, .inr (4, [.ref a9])) := hU2.1
  have n9 : w2[q + 1]? = some (a9, .inl (cG g, 24, .inr (.inr (.inr (.inr (fun j => some (r9 j))))))) := (hU2.2 _ (by omega)).trans n9
  have f9 : ∀ j, j < 24 → w2[q + 1 + 1 + j]? = some (r9 j, .inl (cI g, 24, .inl ((fun _ _ => 0) j))) := fun j hj => (hU2.2 _ (by omega)).trans (f9 j hj)
  have hQ := hQ.up hU2 (by omega)
  have hlen := (hU2.len o9).trans hlen
  exact x_rv E hr hS ⟨by omega, hQ, _, _, e0, n9, f9⟩ hP hD d_Pa_init_16
set_option maxRecDepth 100000 in
set_option maxHeartbeats 4000000 in
theorem c_Fl_init (l : Launch) (g : xG) (b0 : Nat) (ws : va_W) {q h : Nat} (hlen : ws.length = q + 1) (e0 : ws[q]? = some (h, .inr (5, [.null, .int 0]))) : xMc l g b0 y_Fl_init b_Fl_init 1 1 4 507 [.ref h] ws (fun u => u.length = q + 5 ∧ xQ q (q + 5) ws u ∧ ∃ o r, xFlt g u q h o r (fun _ _ => 0) 0) := by
  unfold xMc
  refine x_in (by decide) (Nat.le_of_ble_eq_true rfl) ?_
  intro p e s m below meth c ls E hr hin hP hD hl
  obtain ⟨hx, hb, hml, hown, hts, hK, hZ, hb0, hlocks⟩ := id E
  have hS : va_S (xA b0) s.heap s.heap [] := va_S.rf
  have hl : lv_has ls 1 [(0, .ref h)] := hl
  have hQ : xQ q (q + 1) ws ws := xQ.rf
  refine lv_aload_n hx hb d_Fl_init_0 rfl (lv_at hl 0 rfl) ?_
  refine x_obj0 E wo_Fl hl.1 d_Fl_init_1 ⟨by decide, by decide⟩ (Nat.le_of_ble_eq_true rfl) ?_
  refine lv_aload_n hx hb d_Fl_init_4 rfl (lv_at hl 0 rfl) ?_
  refine lv_iconst (v := 3) hx hb d_Fl_init_5 (by decide) ?_
  refine lv_sipush (v := 168) hx hb d_Fl_init_6 (by decide) ?_
  refine x_mna E hP hD hS wk_Fl_9 (N := 3) (M := 168) (by decide) (by decide) (by decide) (by decide) (by decide) (by decide) (by decide) (by decide) d_Fl_init_9 (fun a9 r9 w1 H ho hrw hk hL hP hD hS => ?_)
  rw [hlen] at ho hrw hk hL
  have n9 : w1[q + 1]? = some (a9, .inl (cG g, 3, .inr (.inr (.inr (.inr (fun j => some (r9 j))))))) := ho
  have f9 : ∀ j, j < 3 → w1[q + 1 + 1 + j]? = some (r9 j, .inl (cI g, 168, .inl ((fun _ _ => 0) j))) := hrw
  have e0 : w1[q]? = some (h, .inr (5, [.null, .int 0])) := (hk _ (by omega)).trans e0
  have hQ : xQ q (q + 1 + 1 + 3) ws w1 := fun k hk9 => by
    rcases hk9 with h9 | h9
    · exact (hk k (by omega)).trans (hQ k (by omega))
    · rw [List.getElem?_eq_none (by omega), List.getElem?_eq_none (by omega)]
  have hlen := hL
  have o9 := e0
  refine x_putF E hP hD hS e0 rfl cl5_in cl5_ty cl5_nm 0 (by decide) wf_Fl_11 rfl (hin rfl) rfl rfl rfl (Nat.le_of_ble_eq_true rfl) d_Fl_init_13 (fun w2 H locs hU2 hP hD hS => ?_)
  have e0 : w2[q]? = some (h, .inr (5, [.ref a9, .int 0])) := hU2.1
  have n9 : w2[q + 1]? = some (a9, .inl (cG g, 3, .inr (.inr (.inr (.inr (fun j => some (r9 j))))))) := (hU2.2 _ (by omega)).trans n9
  have f9 : ∀ j, j < 3 → w2[q + 1 + 1 + j]? = some (r9 j, .inl (cI g, 168, .inl ((fun _ _ => 0) j))) := fun j hj => (hU2.2 _ (by omega)).trans (f9 j hj)
  have hQ := hQ.up hU2 (by omega)
  have hlen := (hU2.len o9).trans hlen
  refine lv_aload_n hx hb d_Fl_init_16 rfl (lv_at hl 0 rfl) ?_
  refine lv_iconst (v := 0) hx hb d_Fl_init_17 (by decide) ?_
  have o9 := e0
  refine x_put E hP hD hS e0 rfl cl5_in cl5_ty cl5_nm 1 (by decide) wf_Fl_16 rfl rfl rfl (Nat.le_of_ble_eq_true rfl) d_Fl_init_18 (fun w3 H locs hU3 hP hD hS => ?_)
  have e0 : w3[q]? = some (h, .inr (5, [.ref a9, .int 0])) := hU3.1
  have n9 : w3[q + 1]? = some (a9, .inl (cG g, 3, .inr (.inr (.inr (.inr (fun j => some (r9 j))))))) := (hU3.2 _ (by omega)).trans n9
  have f9 : ∀ j, j < 3 → w3[q + 1 + 1 + j]? = some (r9 j, .inl (cI g, 168, .inl ((fun _ _ => 0) j))) := fun j hj => (hU3.2 _ (by omega)).trans (f9 j hj)
  have hQ := hQ.up hU3 (by omega)
  have hlen := (hU3.len o9).trans hlen
  exact x_rv E hr hS ⟨by omega, hQ, _, _, e0, n9, f9⟩ hP hD d_Fl_init_21
set_option maxRecDepth 100000 in
set_option maxHeartbeats 4000000 in
theorem c_MT_init (l : Launch) (g : xG) (b0 : Nat) (ws : va_W) {h0 : Nat} (hlen : ws.length = 1) (e0 : ws[0]? = some (h0, .inr (0, [.null, .null, .null, .null, .null, .null]))) : xMc l g b0 y_MT_init b_MT_init 1 3 54 2082 [.ref h0] ws (fun u => u.length = 55 ∧ ∃ ix1 ix2, xCl g u h0 ((fun _ => 0, 0), (fun _ => 0, 0), 0, fun _ _ => 0, (fun _ _ => 0, 0), (fun _ _ => 0, ix1, 0), (fun _ _ => 0, ix2, 0)) ∧ (∀ j, j < 30 → ix1 j = -1) ∧ ∀ j, j < 30 → ix2 j = -1) := by
  unfold xMc
  refine x_in (by decide) (Nat.le_of_ble_eq_true rfl) ?_
  intro p e s m below meth c ls E hr hin hP hD hl
  obtain ⟨hx, hb, hml, hown, hts, hK, hZ, hb0, hlocks⟩ := id E
  have hS : va_S (xA b0) s.heap s.heap [] := va_S.rf
  have hl : lv_has ls 1 [(0, .ref h0)] := hl
  have hQ : xQ 0 (0 + 1) ws ws := xQ.rf
  refine lv_aload_n hx hb d_MT_init_0 rfl (lv_at hl 0 rfl) ?_
  refine x_obj0 E wo_MT hl.1 d_MT_init_1 ⟨by decide, by decide⟩ (Nat.le_of_ble_eq_true rfl) ?_
  refine lv_aload_n hx hb d_MT_init_4 rfl (lv_at hl 0 rfl) ?_
  refine x_new E hP hD hS (ci := 3) (fs := [.null, .int 0]) rfl cl3_in cl3_ty wk_MT_9 wn_Ps wc_Ps (fun j hj => by rcases (show j = 0 ∨ j = 1 by omega) with rfl | rfl <;> rfl) (by decide) (by decide) d_MT_init_5 (fun a5 w1 H hU1 hL hP hD hS => ?_)
  rw [hlen] at hU1 hL
  have n5 : w1[1]? = some (a5, .inr (3, [.null, .int 0])) := hU1.1
  have e0 : w1[0]? = some (h0, .inr (0, [.null, .null, .null, .null, .null, .null])) := (hU1.2 _ (by omega)).trans e0
  have hQ : xQ 0 (1 + 1) ws w1 := fun k hk9 => (hU1.2 k (by omega)).trans (hQ k (by omega))
  have hlen := hL
  refine lv_dup hx hb d_MT_init_8 rfl ?_
  refine x_cI (As := []) (rest := [.ref a5, .ref h0]) E (c_Ps_init l g b0 _ (q := 1) hlen n5) wy_Ps_init wl_MT_11 hP hD hS hl.1 ⟨by decide, by decide⟩ ⟨by decide, by decide⟩ rfl (Nat.le_of_ble_eq_true rfl) d_MT_init_9 (fun w2 H locs hr9 hP hD hS => ?_)
  obtain ⟨hL, hq, x3, x1, t3, t1⟩ := hr9
  have e0 : w2[0]? = some (h0, .inr (0, [.null, .null, .null, .null, .null, .null])) := (hq _ (by omega)).trans e0
  have hQ : xQ 0 4 ws w2 := fun k hk9 => (hq k (by omega)).trans (hQ k (by omega))
  have hlen : w2.length = 4 := hL
  have o9 := e0
  refine x_putF E hP hD hS e0 rfl cl0_in cl0_ty cl0_nm 0 (by decide) wf_MT_12 rfl (hin rfl) rfl rfl rfl (Nat.le_of_ble_eq_true rfl) d_MT_init_12 (fun w3 H locs hU3 hP hD hS => ?_)
  have e0 : w3[0]? = some (h0, .inr (0, [.ref a5, .null, .null, .null, .null, .null])) := hU3.1
  have t3 : w3[1]? = some (a5, .inr (3, [.ref x3, .int (nI 0)])) := (hU3.2 _ (by omega)).trans t3
  have t1 : xText g w3 2 x3 x1 (fun _ => 0) 0 := t1.kp (fun i _ _ => hU3.2 i (by omega))
  have hQ := hQ.up hU3 (by omega)
  have hlen := (hU3.len o9).trans hlen
  refine lv_aload_n hx hb d_MT_init_15 rfl (lv_at hl 0 rfl) ?_
  refine x_new E hP hD hS (ci := 1) (fs := [.null, .int 0]) rfl cl1_in cl1_ty wk_MT_16 wn_Tx wc_Tx (fun j hj => by rcases (show j = 0 ∨ j = 1 by omega) with rfl | rfl <;> rfl) (by decide) (by decide) d_MT_init_16 (fun a16 w4 H hU4 hL hP hD hS => ?_)
  rw [hlen] at hU4 hL
  have n16 : w4[4]? = some (a16, .inr (1, [.null, .int 0])) := hU4.1
  have e0 : w4[0]? = some (h0, .inr (0, [.ref a5, .null, .null, .null, .null, .null])) := (hU4.2 _ (by omega)).trans e0
  have t3 : w4[1]? = some (a5, .inr (3, [.ref x3, .int (nI 0)])) := (hU4.2 _ (by omega)).trans t3
  have t1 : xText g w4 2 x3 x1 (fun _ => 0) 0 := t1.kp (fun i _ _ => hU4.2 i (by omega))
  have hQ : xQ 0 (4 + 1) ws w4 := fun k hk9 => (hU4.2 k (by omega)).trans (hQ k (by omega))
  have hlen := hL
  refine lv_dup hx hb d_MT_init_19 rfl ?_
  refine x_cI (As := []) (rest := [.ref a16, .ref h0]) E (c_Tx_init l g b0 _ (q := 4) hlen n16) wy_Tx_init wl_MT_18 hP hD hS hl.1 ⟨by decide, by decide⟩ ⟨by decide, by decide⟩ rfl (Nat.le_of_ble_eq_true rfl) d_MT_init_20 (fun w5 H locs hr20 hP hD hS => ?_)
  obtain ⟨hL, hq, x2, t2⟩ := hr20
  have e0 : w5[0]? = some (h0, .inr (0, [.ref a5, .null, .null, .null, .null, .null])) := (hq _ (by omega)).trans e0
  have t3 : w5[1]? = some (a5, .inr (3, [.ref x3, .int (nI 0)])) := (hq _ (by omega)).trans t3
  have t1 : xText g w5 2 x3 x1 (fun _ => 0) 0 := t1.kp (fun i _ _ => hq i (by omega))
  have hQ : xQ 0 6 ws w5 := fun k hk9 => (hq k (by omega)).trans (hQ k (by omega))
  have hlen : w5.length = 6 := hL
  have o9 := e0
  refine x_putF E hP hD hS e0 rfl cl0_in cl0_ty cl0_nm 1 (by decide) wf_MT_19 rfl (hin rfl) rfl rfl rfl (Nat.le_of_ble_eq_true rfl) d_MT_init_23 (fun w6 H locs hU6 hP hD hS => ?_)
  have e0 : w6[0]? = some (h0, .inr (0, [.ref a5, .ref a16, .null, .null, .null, .null])) := hU6.1
  have t3 : w6[1]? = some (a5, .inr (3, [.ref x3, .int (nI 0)])) := (hU6.2 _ (by omega)).trans t3
  have t1 : xText g w6 2 x3 x1 (fun _ => 0) 0 := t1.kp (fun i _ _ => hU6.2 i (by omega))
  have t2 : xText g w6 4 a16 x2 (fun _ => 0) 0 := t2.kp (fun i _ _ => hU6.2 i (by omega))
  have hQ := hQ.up hU6 (by omega)
  have hlen := (hU6.len o9).trans hlen
  refine lv_aload_n hx hb d_MT_init_26 rfl (lv_at hl 0 rfl) ?_
  refine x_new E hP hD hS (ci := 4) (fs := [.null]) rfl cl4_in cl4_ty wk_MT_23 wn_Pa wc_Pa (fun j hj => by rcases (show j = 0 by omega) with rfl <;> rfl) (by decide) (by decide) d_MT_init_27 (fun a27 w7 H hU7 hL hP hD hS => ?_)
  rw [hlen] at hU7 hL
  have n27 : w7[6]? = some (a27, .inr (4, [.null])) := hU7.1
  have e0 : w7[0]? = some (h0, .inr (0, [.ref a5, .ref a16, .null, .null, .null, .null])) := (hU7.2 _ (by omega)).trans e0
  have t3 : w7[1]? = some (a5, .inr (3, [.ref x3, .int (nI 0)])) := (hU7.2 _ (by omega)).trans t3
  have t1 : xText g w7 2 x3 x1 (fun _ => 0) 0 := t1.kp (fun i _ _ => hU7.2 i (by omega))
  have t2 : xText g w7 4 a16 x2 (fun _ => 0) 0 := t2.kp (fun i _ _ => hU7.2 i (by omega))
  have hQ : xQ 0 (6 + 1) ws w7 := fun k hk9 => (hU7.2 k (by omega)).trans (hQ k (by omega))
  have hlen := hL
  refine lv_dup hx hb d_MT_init_30 rfl ?_
  refine x_cI (As := []) (rest := [.ref a27, .ref h0]) E (c_Pa_init l g b0 _ (q := 6) hlen n27) wy_Pa_init wl_MT_25 hP hD hS hl.1 ⟨by decide, by decide⟩ ⟨by decide, by decide⟩ rfl (Nat.le_of_ble_eq_true rfl) d_MT_init_31 (fun w8 H locs hr31 hP hD hS => ?_)
  obtain ⟨hL, hq, x4, y4, t4⟩ := hr31
  have e0 : w8[0]? = some (h0, .inr (0, [.ref a5, .ref a16, .null, .null, .null, .null])) := (hq _ (by omega)).trans e0
  have t3 : w8[1]? = some (a5, .inr (3, [.ref x3, .int (nI 0)])) := (hq _ (by omega)).trans t3
  have t1 : xText g w8 2 x3 x1 (fun _ => 0) 0 := t1.kp (fun i _ _ => hq i (by omega))
  have t2 : xText g w8 4 a16 x2 (fun _ => 0) 0 := t2.kp (fun i _ _ => hq i (by omega))
  have hQ : xQ 0 32 ws w8 := fun k hk9 => (hq k (by omega)).trans (hQ k (by omega))
  have hlen : w8.length = 32 := hL
  have o9 := e0
  refine x_putF E hP hD hS e0 rfl cl0_in cl0_ty cl0_nm 2 (by decide) wf_MT_26 rfl (hin rfl) rfl rfl rfl (Nat.le_of_ble_eq_true rfl) d_MT_init_34 (fun w9 H locs hU9 hP hD hS => ?_)
  have e0 : w9[0]? = some (h0, .inr (0, [.ref a5, .ref a16, .ref a27, .null, .null, .null])) := hU9.1
  have t3 : w9[1]? = some (a5, .inr (3, [.ref x3, .int (nI 0)])) := (hU9.2 _ (by omega)).trans t3
  have t1 : xText g w9 2 x3 x1 (fun _ => 0) 0 := t1.kp (fun i _ _ => hU9.2 i (by omega))
  have t2 : xText g w9 4 a16 x2 (fun _ => 0) 0 := t2.kp (fun i _ _ => hU9.2 i (by omega))
  have t4 : xPath g w9 6 a27 x4 y4 (fun _ _ => 0) := t4.kp (fun i _ _ => hU9.2 i (by omega))
  have hQ := hQ.up hU9 (by omega)
  have hlen := (hU9.len o9).trans hlen
  refine lv_aload_n hx hb d_MT_init_37 rfl (lv_at hl 0 rfl) ?_
  refine x_new E hP hD hS (ci := 5) (fs := [.null, .int 0]) rfl cl5_in cl5_ty wk_MT_30 wn_Fl wc_Fl (fun j hj => by rcases (show j = 0 ∨ j = 1 by omega) with rfl | rfl <;> rfl) (by decide) (by decide) d_MT_init_38 (fun a38 w10 H hU10 hL hP hD hS => ?_)
  rw [hlen] at hU10 hL
  have n38 : w10[32]? = some (a38, .inr (5, [.null, .int 0])) := hU10.1
  have e0 : w10[0]? = some (h0, .inr (0, [.ref a5, .ref a16, .ref a27, .null, .null, .null])) := (hU10.2 _ (by omega)).trans e0
  have t3 : w10[1]? = some (a5, .inr (3, [.ref x3, .int (nI 0)])) := (hU10.2 _ (by omega)).trans t3
  have t1 : xText g w10 2 x3 x1 (fun _ => 0) 0 := t1.kp (fun i _ _ => hU10.2 i (by omega))
  have t2 : xText g w10 4 a16 x2 (fun _ => 0) 0 := t2.kp (fun i _ _ => hU10.2 i (by omega))
  have t4 : xPath g w10 6 a27 x4 y4 (fun _ _ => 0) := t4.kp (fun i _ _ => hU10.2 i (by omega))
  have hQ : xQ 0 (32 + 1) ws w10 := fun k hk9 => (hU10.2 k (by omega)).trans (hQ k (by omega))
  have hlen := hL
  refine lv_dup hx hb d_MT_init_41 rfl ?_
  refine x_cI (As := []) (rest := [.ref a38, .ref h0]) E (c_Fl_init l g b0 _ (q := 32) hlen n38) wy_Fl_init wl_MT_32 hP hD hS hl.1 ⟨by decide, by decide⟩ ⟨by decide, by decide⟩ rfl (Nat.le_of_ble_eq_true rfl) d_MT_init_42 (fun w11 H locs hr42 hP hD hS => ?_)
  obtain ⟨hL, hq, x5, y5, t5⟩ := hr42
  have e0 : w11[0]? = some (h0, .inr (0, [.ref a5, .ref a16, .ref a27, .null, .null, .null])) := (hq _ (by omega)).trans e0
  have t3 : w11[1]? = some (a5, .inr (3, [.ref x3, .int (nI 0)])) := (hq _ (by omega)).trans t3
  have t1 : xText g w11 2 x3 x1 (fun _ => 0) 0 := t1.kp (fun i _ _ => hq i (by omega))
  have t2 : xText g w11 4 a16 x2 (fun _ => 0) 0 := t2.kp (fun i _ _ => hq i (by omega))
  have t4 : xPath g w11 6 a27 x4 y4 (fun _ _ => 0) := t4.kp (fun i _ _ => hq i (by omega))
  have hQ : xQ 0 37 ws w11 := fun k hk9 => (hq k (by omega)).trans (hQ k (by omega))
  have hlen : w11.length = 37 := hL
  have o9 := e0
  refine x_putF E hP hD hS e0 rfl cl0_in cl0_ty cl0_nm 3 (by decide) wf_MT_33 rfl (hin rfl) rfl rfl rfl (Nat.le_of_ble_eq_true rfl) d_MT_init_45 (fun w12 H locs hU12 hP hD hS => ?_)
  have e0 : w12[0]? = some (h0, .inr (0, [.ref a5, .ref a16, .ref a27, .ref a38, .null, .null])) := hU12.1
  have t3 : w12[1]? = some (a5, .inr (3, [.ref x3, .int (nI 0)])) := (hU12.2 _ (by omega)).trans t3
  have t1 : xText g w12 2 x3 x1 (fun _ => 0) 0 := t1.kp (fun i _ _ => hU12.2 i (by omega))
  have t2 : xText g w12 4 a16 x2 (fun _ => 0) 0 := t2.kp (fun i _ _ => hU12.2 i (by omega))
  have t4 : xPath g w12 6 a27 x4 y4 (fun _ _ => 0) := t4.kp (fun i _ _ => hU12.2 i (by omega))
  have t5 : xFlt g w12 32 a38 x5 y5 (fun _ _ => 0) 0 := t5.kp (fun i _ _ => hU12.2 i (by omega))
  have hQ := hQ.up hU12 (by omega)
  have hlen := (hU12.len o9).trans hlen
  refine lv_aload_n hx hb d_MT_init_48 rfl (lv_at hl 0 rfl) ?_
  refine x_new E hP hD hS (ci := 2) (fs := [.null, .null, .int 0]) rfl cl2_in cl2_ty wk_MT_37 wn_Mc wc_Mc (fun j hj => by rcases (show j = 0 ∨ j = 1 ∨ j = 2 by omega) with rfl | rfl | rfl <;> rfl) (by decide) (by decide) d_MT_init_49 (fun a49 w13 H hU13 hL hP hD hS => ?_)
  rw [hlen] at hU13 hL
  have n49 : w13[37]? = some (a49, .inr (2, [.null, .null, .int 0])) := hU13.1
  have e0 : w13[0]? = some (h0, .inr (0, [.ref a5, .ref a16, .ref a27, .ref a38, .null, .null])) := (hU13.2 _ (by omega)).trans e0
  have t3 : w13[1]? = some (a5, .inr (3, [.ref x3, .int (nI 0)])) := (hU13.2 _ (by omega)).trans t3
  have t1 : xText g w13 2 x3 x1 (fun _ => 0) 0 := t1.kp (fun i _ _ => hU13.2 i (by omega))
  have t2 : xText g w13 4 a16 x2 (fun _ => 0) 0 := t2.kp (fun i _ _ => hU13.2 i (by omega))
  have t4 : xPath g w13 6 a27 x4 y4 (fun _ _ => 0) := t4.kp (fun i _ _ => hU13.2 i (by omega))
  have t5 : xFlt g w13 32 a38 x5 y5 (fun _ _ => 0) 0 := t5.kp (fun i _ _ => hU13.2 i (by omega))
  have hQ : xQ 0 (37 + 1) ws w13 := fun k hk9 => (hU13.2 k (by omega)).trans (hQ k (by omega))
  have hlen := hL
  refine lv_dup hx hb d_MT_init_52 rfl ?_
  refine x_cI (As := []) (rest := [.ref a49, .ref h0]) E (c_Mc_init l g b0 _ (q := 37) hlen n49) wy_Mc_init wl_MT_39 hP hD hS hl.1 ⟨by decide, by decide⟩ ⟨by decide, by decide⟩ rfl (Nat.le_of_ble_eq_true rfl) d_MT_init_53 (fun w14 H locs hr53 hP hD hS => ?_)
  obtain ⟨hL, hq, x6, y6, z6, ix1, t6, hx1⟩ := hr53
  have e0 : w14[0]? = some (h0, .inr (0, [.ref a5, .ref a16, .ref a27, .ref a38, .null, .null])) := (hq _ (by omega)).trans e0
  have t3 : w14[1]? = some (a5, .inr (3, [.ref x3, .int (nI 0)])) := (hq _ (by omega)).trans t3
  have t1 : xText g w14 2 x3 x1 (fun _ => 0) 0 := t1.kp (fun i _ _ => hq i (by omega))
  have t2 : xText g w14 4 a16 x2 (fun _ => 0) 0 := t2.kp (fun i _ _ => hq i (by omega))
  have t4 : xPath g w14 6 a27 x4 y4 (fun _ _ => 0) := t4.kp (fun i _ _ => hq i (by omega))
  have t5 : xFlt g w14 32 a38 x5 y5 (fun _ _ => 0) 0 := t5.kp (fun i _ _ => hq i (by omega))
  have hQ : xQ 0 46 ws w14 := fun k hk9 => (hq k (by omega)).trans (hQ k (by omega))
  have hlen : w14.length = 46 := hL
  have o9 := e0
  refine x_put E hP hD hS e0 rfl cl0_in cl0_ty cl0_nm 4 (by decide) wf_MT_40 rfl rfl rfl (Nat.le_of_ble_eq_true rfl) d_MT_init_56 (fun w15 H locs hU15 hP hD hS => ?_)
  have e0 : w15[0]? = some (h0, .inr (0, [.ref a5, .ref a16, .ref a27, .ref a38, .ref a49, .null])) := hU15.1
  have t3 : w15[1]? = some (a5, .inr (3, [.ref x3, .int (nI 0)])) := (hU15.2 _ (by omega)).trans t3
  have t1 : xText g w15 2 x3 x1 (fun _ => 0) 0 := t1.kp (fun i _ _ => hU15.2 i (by omega))
  have t2 : xText g w15 4 a16 x2 (fun _ => 0) 0 := t2.kp (fun i _ _ => hU15.2 i (by omega))
  have t4 : xPath g w15 6 a27 x4 y4 (fun _ _ => 0) := t4.kp (fun i _ _ => hU15.2 i (by omega))
  have t5 : xFlt g w15 32 a38 x5 y5 (fun _ _ => 0) 0 := t5.kp (fun i _ _ => hU15.2 i (by omega))
  have t6 : xMach g w15 37 a49 x6 y6 z6 (fun _ _ => 0) ix1 0 := t6.kp (fun i _ _ => hU15.2 i (by omega))
  have hQ := hQ.up hU15 (by omega)
  have hlen := (hU15.len o9).trans hlen
  refine lv_aload_n hx hb d_MT_init_59 rfl (lv_at hl 0 rfl) ?_
  refine x_new E hP hD hS (ci := 2) (fs := [.null, .null, .int 0]) rfl cl2_in cl2_ty wk_MT_37 wn_Mc wc_Mc (fun j hj => by rcases (show j = 0 ∨ j = 1 ∨ j = 2 by omega) with rfl | rfl | rfl <;> rfl) (by decide) (by decide) d_MT_init_60 (fun a60 w16 H hU16 hL hP hD hS => ?_)
  rw [hlen] at hU16 hL
  have n60 : w16[46]? = some (a60, .inr (2, [.null, .null, .int 0])) := hU16.1
  have e0 : w16[0]? = some (h0, .inr (0, [.ref a5, .ref a16, .ref a27, .ref a38, .ref a49, .null])) := (hU16.2 _ (by omega)).trans e0
  have t3 : w16[1]? = some (a5, .inr (3, [.ref x3, .int (nI 0)])) := (hU16.2 _ (by omega)).trans t3
  have t1 : xText g w16 2 x3 x1 (fun _ => 0) 0 := t1.kp (fun i _ _ => hU16.2 i (by omega))
  have t2 : xText g w16 4 a16 x2 (fun _ => 0) 0 := t2.kp (fun i _ _ => hU16.2 i (by omega))
  have t4 : xPath g w16 6 a27 x4 y4 (fun _ _ => 0) := t4.kp (fun i _ _ => hU16.2 i (by omega))
  have t5 : xFlt g w16 32 a38 x5 y5 (fun _ _ => 0) 0 := t5.kp (fun i _ _ => hU16.2 i (by omega))
  have t6 : xMach g w16 37 a49 x6 y6 z6 (fun _ _ => 0) ix1 0 := t6.kp (fun i _ _ => hU16.2 i (by omega))
  have hQ : xQ 0 (46 + 1) ws w16 := fun k hk9 => (hU16.2 k (by omega)).trans (hQ k (by omega))
  have hlen := hL
  refine lv_dup hx hb d_MT_init_63 rfl ?_
  refine x_cI (As := []) (rest := [.ref a60, .ref h0]) E (c_Mc_init l g b0 _ (q := 46) hlen n60) wy_Mc_init wl_MT_39 hP hD hS hl.1 ⟨by decide, by decide⟩ ⟨by decide, by decide⟩ rfl (Nat.le_of_ble_eq_true rfl) d_MT_init_64 (fun w17 H locs hr64 hP hD hS => ?_)
  obtain ⟨hL, hq, x7, y7, z7, ix2, t7, hx2⟩ := hr64
  have e0 : w17[0]? = some (h0, .inr (0, [.ref a5, .ref a16, .ref a27, .ref a38, .ref a49, .null])) := (hq _ (by omega)).trans e0
  have t3 : w17[1]? = some (a5, .inr (3, [.ref x3, .int (nI 0)])) := (hq _ (by omega)).trans t3
  have t1 : xText g w17 2 x3 x1 (fun _ => 0) 0 := t1.kp (fun i _ _ => hq i (by omega))
  have t2 : xText g w17 4 a16 x2 (fun _ => 0) 0 := t2.kp (fun i _ _ => hq i (by omega))
  have t4 : xPath g w17 6 a27 x4 y4 (fun _ _ => 0) := t4.kp (fun i _ _ => hq i (by omega))
  have t5 : xFlt g w17 32 a38 x5 y5 (fun _ _ => 0) 0 := t5.kp (fun i _ _ => hq i (by omega))
  have t6 : xMach g w17 37 a49 x6 y6 z6 (fun _ _ => 0) ix1 0 := t6.kp (fun i _ _ => hq i (by omega))
  have hQ : xQ 0 55 ws w17 := fun k hk9 => (hq k (by omega)).trans (hQ k (by omega))
  have hlen : w17.length = 55 := hL
  have o9 := e0
  refine x_put E hP hD hS e0 rfl cl0_in cl0_ty cl0_nm 5 (by decide) wf_MT_44 rfl rfl rfl (Nat.le_of_ble_eq_true rfl) d_MT_init_67 (fun w18 H locs hU18 hP hD hS => ?_)
  have e0 : w18[0]? = some (h0, .inr (0, [.ref a5, .ref a16, .ref a27, .ref a38, .ref a49, .ref a60])) := hU18.1
  have t3 : w18[1]? = some (a5, .inr (3, [.ref x3, .int (nI 0)])) := (hU18.2 _ (by omega)).trans t3
  have t1 : xText g w18 2 x3 x1 (fun _ => 0) 0 := t1.kp (fun i _ _ => hU18.2 i (by omega))
  have t2 : xText g w18 4 a16 x2 (fun _ => 0) 0 := t2.kp (fun i _ _ => hU18.2 i (by omega))
  have t4 : xPath g w18 6 a27 x4 y4 (fun _ _ => 0) := t4.kp (fun i _ _ => hU18.2 i (by omega))
  have t5 : xFlt g w18 32 a38 x5 y5 (fun _ _ => 0) 0 := t5.kp (fun i _ _ => hU18.2 i (by omega))
  have t6 : xMach g w18 37 a49 x6 y6 z6 (fun _ _ => 0) ix1 0 := t6.kp (fun i _ _ => hU18.2 i (by omega))
  have t7 : xMach g w18 46 a60 x7 y7 z7 (fun _ _ => 0) ix2 0 := t7.kp (fun i _ _ => hU18.2 i (by omega))
  have hQ := hQ.up hU18 (by omega)
  have hlen := (hU18.len o9).trans hlen
  exact x_rv E hr hS ⟨hlen, ix1, ix2, ⟨_, _, _, _, _, _, _, _, _, 37, _, _, _, 46, _, _, _, _, _, _, _, Or.inl ⟨rfl, rfl⟩, e0, t1, t2, t3, t4, t5, t6, t7⟩, hx1, hx2⟩ hP hD d_MT_init_70
