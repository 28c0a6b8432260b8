set_option maxRecDepth 100000 in
set_option maxHeartbeats 4000000 in
theorem c_Mo_init (l : Launch) (g : xG) (b0 : Nat) (ws : va_W) {q h : Nat} (hlen : ws.length = q + 1) (e0 : ws[q]? = some (h, .inr (6, [.null, .int 0, .int 0, .int 0, .int 0, .null, .null, .null, .null, .null, .int 0, .null, .null, .null, .null, .null, .null, .int 0, .null, .null, .null, .null, .int 0, .null]))) : xMc l g b0 y_Mo_init b_Mo_init 1 1 17 2988 [.ref h] ws (fun u => u.length = q + 18 ∧ xQ q (q + 18) ws u ∧ ∃ ad, xMo g u q h ad 0 0 0 0 0 0 0 (fun _ => 0) (fun _ => 0) (fun _ => 0) (fun _ => 0) (fun _ => 0) (fun _ => 0) (fun _ => 0) (fun _ => 0) (fun _ => 0) (fun _ => 0) (fun _ => 0) (fun _ => 0) (fun _ => 0) (fun _ => 0) (fun _ => 0) (fun _ => 0) (fun _ => 0)) := by
  unfold xMc
  refine x_in (by decide) (Nat.le_of_ble_eq_true rfl) ?_
  intro p e s m below meth c ls E hr hin hP hD hl
  obtain ⟨hx, hb, hml, hown, hts, hK, hZ, hb0, hlocks⟩ := id E
  have hS : va_S (xA b0) s.heap s.heap [] := va_S.rf
  have hl : lv_has ls 1 [(0, .ref h)] := hl
  replace hQ : xQ q (q + 1) ws ws := xQ.rf
  refine lv_aload_n hx hb d_Mo_init_0 rfl (lv_at hl 0 rfl) ?_
  refine x_obj0 E wo_Mo hl.1 d_Mo_init_1 ⟨by decide, by decide⟩ (Nat.le_of_ble_eq_true rfl) ?_
  refine lv_aload_n hx hb d_Mo_init_4 rfl (lv_at hl 0 rfl) ?_
  refine lv_sipush (v := 300) hx hb d_Mo_init_5 (by decide) ?_
  refine x_newa E hP hD hS (ty := .int) rfl wa_int (cls := cI g) 0 rfl (fun _ h => by cases h) (N' := 300) (a0 := (300, .inl (fun _ => 0))) (fun _ => rfl) (by decide) (by decide) (by decide) (by decide) (by decide) d_Mo_init_8 (fun a8 w1 H hU1 hL hP hD hS => ?_)
  rw [hlen] at hU1 hL
  have n8 : w1[q + 1]? = some (a8, .inl (cI g, 300, .inl (fun _ => 0))) := hU1.1
  replace e0 : w1[q]? = some (h, .inr (6, [.null, .int 0, .int 0, .int 0, .int 0, .null, .null, .null, .null, .null, .int 0, .null, .null, .null, .null, .null, .null, .int 0, .null, .null, .null, .null, .int 0, .null])) := (hU1.2 _ (by omega)).trans e0
  replace hQ : xQ q (q + 2) ws w1 := fun k hk9 => (hU1.2 k (by omega)).trans (hQ k (by omega))
  replace hlen := hL
  clear hL
  have o9 := e0
  clear hU1
  refine x_putF E hP hD hS e0 rfl cl6_in cl6_ty cl6_nm 0 (by decide) wf_Mo_7 rfl (hin rfl) rfl rfl rfl (Nat.le_of_ble_eq_true rfl) d_Mo_init_10 (fun w2 H locs hU2 hP hD hS => ?_)
  replace e0 : w2[q]? = some (h, .inr (6, [.ref a8, .int 0, .int 0, .int 0, .int 0, .null, .null, .null, .null, .null, .int 0, .null, .null, .null, .null, .null, .null, .int 0, .null, .null, .null, .null, .int 0, .null])) := hU2.1
  replace n8 : w2[q + 1]? = some (a8, .inl (cI g, 300, .inl (fun _ => 0))) := (hU2.2 _ (by omega)).trans n8
  replace hQ := hQ.up hU2 (by omega)
  replace hlen := (hU2.len o9).trans hlen
  refine lv_aload_n hx hb d_Mo_init_13 rfl (lv_at hl 0 rfl) ?_
  refine lv_bipush (v := 24) hx hb d_Mo_init_14 (by decide) ?_
  clear hU2
  refine x_newa E hP hD hS (ty := .int) rfl wa_int (cls := cI g) 0 rfl (fun _ h => by cases h) (N' := 24) (a0 := (24, .inl (fun _ => 0))) (fun _ => rfl) (by decide) (by decide) (by decide) (by decide) (by decide) d_Mo_init_16 (fun a16 w3 H hU3 hL hP hD hS => ?_)
  rw [hlen] at hU3 hL
  have n16 : w3[q + 2]? = some (a16, .inl (cI g, 24, .inl (fun _ => 0))) := hU3.1
  replace e0 : w3[q]? = some (h, .inr (6, [.ref a8, .int 0, .int 0, .int 0, .int 0, .null, .null, .null, .null, .null, .int 0, .null, .null, .null, .null, .null, .null, .int 0, .null, .null, .null, .null, .int 0, .null])) := (hU3.2 _ (by omega)).trans e0
  replace n8 : w3[q + 1]? = some (a8, .inl (cI g, 300, .inl (fun _ => 0))) := (hU3.2 _ (by omega)).trans n8
  replace hQ : xQ q (q + 3) ws w3 := fun k hk9 => (hU3.2 k (by omega)).trans (hQ k (by omega))
  replace hlen := hL
  clear hL
  have o9 := e0
  clear hU3
  refine x_putF E hP hD hS e0 rfl cl6_in cl6_ty cl6_nm 5 (by decide) wf_Mo_13 rfl (hin rfl) rfl rfl rfl (Nat.le_of_ble_eq_true rfl) d_Mo_init_18 (fun w4 H locs hU4 hP hD hS => ?_)
  replace e0 : w4[q]? = some (h, .inr (6, [.ref a8, .int 0, .int 0, .int 0, .int 0, .ref a16, .null, .null, .null, .null, .int 0, .null, .null, .null, .null, .null, .null, .int 0, .null, .null, .null, .null, .int 0, .null])) := hU4.1
  replace n8 : w4[q + 1]? = some (a8, .inl (cI g, 300, .inl (fun _ => 0))) := (hU4.2 _ (by omega)).trans n8
  replace n16 : w4[q + 2]? = some (a16, .inl (cI g, 24, .inl (fun _ => 0))) := (hU4.2 _ (by omega)).trans n16
  replace hQ := hQ.up hU4 (by omega)
  replace hlen := (hU4.len o9).trans hlen
  refine lv_aload_n hx hb d_Mo_init_21 rfl (lv_at hl 0 rfl) ?_
  refine lv_bipush (v := 24) hx hb d_Mo_init_22 (by decide) ?_
  clear hU4
  refine x_newa E hP hD hS (ty := .int) rfl wa_int (cls := cI g) 0 rfl (fun _ h => by cases h) (N' := 24) (a0 := (24, .inl (fun _ => 0))) (fun _ => rfl) (by decide) (by decide) (by decide) (by decide) (by decide) d_Mo_init_24 (fun a24 w5 H hU5 hL hP hD hS => ?_)
  rw [hlen] at hU5 hL
  have n24 : w5[q + 3]? = some (a24, .inl (cI g, 24, .inl (fun _ => 0))) := hU5.1
  replace e0 : w5[q]? = some (h, .inr (6, [.ref a8, .int 0, .int 0, .int 0, .int 0, .ref a16, .null, .null, .null, .null, .int 0, .null, .null, .null, .null, .null, .null, .int 0, .null, .null, .null, .null, .int 0, .null])) := (hU5.2 _ (by omega)).trans e0
  replace n8 : w5[q + 1]? = some (a8, .inl (cI g, 300, .inl (fun _ => 0))) := (hU5.2 _ (by omega)).trans n8
  replace n16 : w5[q + 2]? = some (a16, .inl (cI g, 24, .inl (fun _ => 0))) := (hU5.2 _ (by omega)).trans n16
  replace hQ : xQ q (q + 4) ws w5 := fun k hk9 => (hU5.2 k (by omega)).trans (hQ k (by omega))
  replace hlen := hL
  clear hL
  have o9 := e0
  clear hU5
  refine x_putF E hP hD hS e0 rfl cl6_in cl6_ty cl6_nm 6 (by decide) wf_Mo_16 rfl (hin rfl) rfl rfl rfl (Nat.le_of_ble_eq_true rfl) d_Mo_init_26 (fun w6 H locs hU6 hP hD hS => ?_)
  replace e0 : w6[q]? = some (h, .inr (6, [.ref a8, .int 0, .int 0, .int 0, .int 0, .ref a16, .ref a24, .null, .null, .null, .int 0, .null, .null, .null, .null, .null, .null, .int 0, .null, .null, .null, .null, .int 0, .null])) := hU6.1
  replace n8 : w6[q + 1]? = some (a8, .inl (cI g, 300, .inl (fun _ => 0))) := (hU6.2 _ (by omega)).trans n8
  replace n16 : w6[q + 2]? = some (a16, .inl (cI g, 24, .inl (fun _ => 0))) := (hU6.2 _ (by omega)).trans n16
  replace n24 : w6[q + 3]? = some (a24, .inl (cI g, 24, .inl (fun _ => 0))) := (hU6.2 _ (by omega)).trans n24
  replace hQ := hQ.up hU6 (by omega)
  replace hlen := (hU6.len o9).trans hlen
  refine lv_aload_n hx hb d_Mo_init_29 rfl (lv_at hl 0 rfl) ?_
  refine lv_bipush (v := 24) hx hb d_Mo_init_30 (by decide) ?_
  clear hU6
  refine x_newa E hP hD hS (ty := .int) rfl wa_int (cls := cI g) 0 rfl (fun _ h => by cases h) (N' := 24) (a0 := (24, .inl (fun _ => 0))) (fun _ => rfl) (by decide) (by decide) (by decide) (by decide) (by decide) d_Mo_init_32 (fun a32 w7 H hU7 hL hP hD hS => ?_)
  rw [hlen] at hU7 hL
  have n32 : w7[q + 4]? = some (a32, .inl (cI g, 24, .inl (fun _ => 0))) := hU7.1
  replace e0 : w7[q]? = some (h, .inr (6, [.ref a8, .int 0, .int 0, .int 0, .int 0, .ref a16, .ref a24, .null, .null, .null, .int 0, .null, .null, .null, .null, .null, .null, .int 0, .null, .null, .null, .null, .int 0, .null])) := (hU7.2 _ (by omega)).trans e0
  replace n8 : w7[q + 1]? = some (a8, .inl (cI g, 300, .inl (fun _ => 0))) := (hU7.2 _ (by omega)).trans n8
  replace n16 : w7[q + 2]? = some (a16, .inl (cI g, 24, .inl (fun _ => 0))) := (hU7.2 _ (by omega)).trans n16
  replace n24 : w7[q + 3]? = some (a24, .inl (cI g, 24, .inl (fun _ => 0))) := (hU7.2 _ (by omega)).trans n24
  replace hQ : xQ q (q + 5) ws w7 := fun k hk9 => (hU7.2 k (by omega)).trans (hQ k (by omega))
  replace hlen := hL
  clear hL
  have o9 := e0
  clear hU7
  refine x_putF E hP hD hS e0 rfl cl6_in cl6_ty cl6_nm 7 (by decide) wf_Mo_19 rfl (hin rfl) rfl rfl rfl (Nat.le_of_ble_eq_true rfl) d_Mo_init_34 (fun w8 H locs hU8 hP hD hS => ?_)
  replace e0 : w8[q]? = some (h, .inr (6, [.ref a8, .int 0, .int 0, .int 0, .int 0, .ref a16, .ref a24, .ref a32, .null, .null, .int 0, .null, .null, .null, .null, .null, .null, .int 0, .null, .null, .null, .null, .int 0, .null])) := hU8.1
  replace n8 : w8[q + 1]? = some (a8, .inl (cI g, 300, .inl (fun _ => 0))) := (hU8.2 _ (by omega)).trans n8
  replace n16 : w8[q + 2]? = some (a16, .inl (cI g, 24, .inl (fun _ => 0))) := (hU8.2 _ (by omega)).trans n16
  replace n24 : w8[q + 3]? = some (a24, .inl (cI g, 24, .inl (fun _ => 0))) := (hU8.2 _ (by omega)).trans n24
  replace n32 : w8[q + 4]? = some (a32, .inl (cI g, 24, .inl (fun _ => 0))) := (hU8.2 _ (by omega)).trans n32
  replace hQ := hQ.up hU8 (by omega)
  replace hlen := (hU8.len o9).trans hlen
  refine lv_aload_n hx hb d_Mo_init_37 rfl (lv_at hl 0 rfl) ?_
  refine lv_bipush (v := 24) hx hb d_Mo_init_38 (by decide) ?_
  clear hU8
  refine x_newa E hP hD hS (ty := .int) rfl wa_int (cls := cI g) 0 rfl (fun _ h => by cases h) (N' := 24) (a0 := (24, .inl (fun _ => 0))) (fun _ => rfl) (by decide) (by decide) (by decide) (by decide) (by decide) d_Mo_init_40 (fun a40 w9 H hU9 hL hP hD hS => ?_)
  rw [hlen] at hU9 hL
  have n40 : w9[q + 5]? = some (a40, .inl (cI g, 24, .inl (fun _ => 0))) := hU9.1
  replace e0 : w9[q]? = some (h, .inr (6, [.ref a8, .int 0, .int 0, .int 0, .int 0, .ref a16, .ref a24, .ref a32, .null, .null, .int 0, .null, .null, .null, .null, .null, .null, .int 0, .null, .null, .null, .null, .int 0, .null])) := (hU9.2 _ (by omega)).trans e0
  replace n8 : w9[q + 1]? = some (a8, .inl (cI g, 300, .inl (fun _ => 0))) := (hU9.2 _ (by omega)).trans n8
  replace n16 : w9[q + 2]? = some (a16, .inl (cI g, 24, .inl (fun _ => 0))) := (hU9.2 _ (by omega)).trans n16
  replace n24 : w9[q + 3]? = some (a24, .inl (cI g, 24, .inl (fun _ => 0))) := (hU9.2 _ (by omega)).trans n24
  replace n32 : w9[q + 4]? = some (a32, .inl (cI g, 24, .inl (fun _ => 0))) := (hU9.2 _ (by omega)).trans n32
  replace hQ : xQ q (q + 6) ws w9 := fun k hk9 => (hU9.2 k (by omega)).trans (hQ k (by omega))
  replace hlen := hL
  clear hL
  have o9 := e0
  clear hU9
  refine x_putF E hP hD hS e0 rfl cl6_in cl6_ty cl6_nm 8 (by decide) wf_Mo_22 rfl (hin rfl) rfl rfl rfl (Nat.le_of_ble_eq_true rfl) d_Mo_init_42 (fun w10 H locs hU10 hP hD hS => ?_)
  replace e0 : w10[q]? = some (h, .inr (6, [.ref a8, .int 0, .int 0, .int 0, .int 0, .ref a16, .ref a24, .ref a32, .ref a40, .null, .int 0, .null, .null, .null, .null, .null, .null, .int 0, .null, .null, .null, .null, .int 0, .null])) := hU10.1
  replace n8 : w10[q + 1]? = some (a8, .inl (cI g, 300, .inl (fun _ => 0))) := (hU10.2 _ (by omega)).trans n8
  replace n16 : w10[q + 2]? = some (a16, .inl (cI g, 24, .inl (fun _ => 0))) := (hU10.2 _ (by omega)).trans n16
  replace n24 : w10[q + 3]? = some (a24, .inl (cI g, 24, .inl (fun _ => 0))) := (hU10.2 _ (by omega)).trans n24
  replace n32 : w10[q + 4]? = some (a32, .inl (cI g, 24, .inl (fun _ => 0))) := (hU10.2 _ (by omega)).trans n32
  replace n40 : w10[q + 5]? = some (a40, .inl (cI g, 24, .inl (fun _ => 0))) := (hU10.2 _ (by omega)).trans n40
  replace hQ := hQ.up hU10 (by omega)
  replace hlen := (hU10.len o9).trans hlen
  refine lv_aload_n hx hb d_Mo_init_45 rfl (lv_at hl 0 rfl) ?_
  refine lv_bipush (v := 48) hx hb d_Mo_init_46 (by decide) ?_
  clear hU10
  refine x_newa E hP hD hS (ty := .int) rfl wa_int (cls := cI g) 0 rfl (fun _ h => by cases h) (N' := 48) (a0 := (48, .inl (fun _ => 0))) (fun _ => rfl) (by decide) (by decide) (by decide) (by decide) (by decide) d_Mo_init_48 (fun a48 w11 H hU11 hL hP hD hS => ?_)
  rw [hlen] at hU11 hL
  have n48 : w11[q + 6]? = some (a48, .inl (cI g, 48, .inl (fun _ => 0))) := hU11.1
  replace e0 : w11[q]? = some (h, .inr (6, [.ref a8, .int 0, .int 0, .int 0, .int 0, .ref a16, .ref a24, .ref a32, .ref a40, .null, .int 0, .null, .null, .null, .null, .null, .null, .int 0, .null, .null, .null, .null, .int 0, .null])) := (hU11.2 _ (by omega)).trans e0
  replace n8 : w11[q + 1]? = some (a8, .inl (cI g, 300, .inl (fun _ => 0))) := (hU11.2 _ (by omega)).trans n8
  replace n16 : w11[q + 2]? = some (a16, .inl (cI g, 24, .inl (fun _ => 0))) := (hU11.2 _ (by omega)).trans n16
  replace n24 : w11[q + 3]? = some (a24, .inl (cI g, 24, .inl (fun _ => 0))) := (hU11.2 _ (by omega)).trans n24
  replace n32 : w11[q + 4]? = some (a32, .inl (cI g, 24, .inl (fun _ => 0))) := (hU11.2 _ (by omega)).trans n32
  replace n40 : w11[q + 5]? = some (a40, .inl (cI g, 24, .inl (fun _ => 0))) := (hU11.2 _ (by omega)).trans n40
  replace hQ : xQ q (q + 7) ws w11 := fun k hk9 => (hU11.2 k (by omega)).trans (hQ k (by omega))
  replace hlen := hL
  clear hL
  have o9 := e0
  clear hU11
  refine x_putF E hP hD hS e0 rfl cl6_in cl6_ty cl6_nm 9 (by decide) wf_Mo_25 rfl (hin rfl) rfl rfl rfl (Nat.le_of_ble_eq_true rfl) d_Mo_init_50 (fun w12 H locs hU12 hP hD hS => ?_)
  replace e0 : w12[q]? = some (h, .inr (6, [.ref a8, .int 0, .int 0, .int 0, .int 0, .ref a16, .ref a24, .ref a32, .ref a40, .ref a48, .int 0, .null, .null, .null, .null, .null, .null, .int 0, .null, .null, .null, .null, .int 0, .null])) := hU12.1
  replace n8 : w12[q + 1]? = some (a8, .inl (cI g, 300, .inl (fun _ => 0))) := (hU12.2 _ (by omega)).trans n8
  replace n16 : w12[q + 2]? = some (a16, .inl (cI g, 24, .inl (fun _ => 0))) := (hU12.2 _ (by omega)).trans n16
  replace n24 : w12[q + 3]? = some (a24, .inl (cI g, 24, .inl (fun _ => 0))) := (hU12.2 _ (by omega)).trans n24
  replace n32 : w12[q + 4]? = some (a32, .inl (cI g, 24, .inl (fun _ => 0))) := (hU12.2 _ (by omega)).trans n32
  replace n40 : w12[q + 5]? = some (a40, .inl (cI g, 24, .inl (fun _ => 0))) := (hU12.2 _ (by omega)).trans n40
  replace n48 : w12[q + 6]? = some (a48, .inl (cI g, 48, .inl (fun _ => 0))) := (hU12.2 _ (by omega)).trans n48
  replace hQ := hQ.up hU12 (by omega)
  replace hlen := (hU12.len o9).trans hlen
  refine lv_aload_n hx hb d_Mo_init_53 rfl (lv_at hl 0 rfl) ?_
  refine lv_bipush (v := 24) hx hb d_Mo_init_54 (by decide) ?_
  clear hU12
  refine x_newa E hP hD hS (ty := .int) rfl wa_int (cls := cI g) 0 rfl (fun _ h => by cases h) (N' := 24) (a0 := (24, .inl (fun _ => 0))) (fun _ => rfl) (by decide) (by decide) (by decide) (by decide) (by decide) d_Mo_init_56 (fun a56 w13 H hU13 hL hP hD hS => ?_)
  rw [hlen] at hU13 hL
  have n56 : w13[q + 7]? = some (a56, .inl (cI g, 24, .inl (fun _ => 0))) := hU13.1
  replace e0 : w13[q]? = some (h, .inr (6, [.ref a8, .int 0, .int 0, .int 0, .int 0, .ref a16, .ref a24, .ref a32, .ref a40, .ref a48, .int 0, .null, .null, .null, .null, .null, .null, .int 0, .null, .null, .null, .null, .int 0, .null])) := (hU13.2 _ (by omega)).trans e0
  replace n8 : w13[q + 1]? = some (a8, .inl (cI g, 300, .inl (fun _ => 0))) := (hU13.2 _ (by omega)).trans n8
  replace n16 : w13[q + 2]? = some (a16, .inl (cI g, 24, .inl (fun _ => 0))) := (hU13.2 _ (by omega)).trans n16
  replace n24 : w13[q + 3]? = some (a24, .inl (cI g, 24, .inl (fun _ => 0))) := (hU13.2 _ (by omega)).trans n24
  replace n32 : w13[q + 4]? = some (a32, .inl (cI g, 24, .inl (fun _ => 0))) := (hU13.2 _ (by omega)).trans n32
  replace n40 : w13[q + 5]? = some (a40, .inl (cI g, 24, .inl (fun _ => 0))) := (hU13.2 _ (by omega)).trans n40
  replace n48 : w13[q + 6]? = some (a48, .inl (cI g, 48, .inl (fun _ => 0))) := (hU13.2 _ (by omega)).trans n48
  replace hQ : xQ q (q + 8) ws w13 := fun k hk9 => (hU13.2 k (by omega)).trans (hQ k (by omega))
  replace hlen := hL
  clear hL
  have o9 := e0
  clear hU13
  refine x_putF E hP hD hS e0 rfl cl6_in cl6_ty cl6_nm 11 (by decide) wf_Mo_28 rfl (hin rfl) rfl rfl rfl (Nat.le_of_ble_eq_true rfl) d_Mo_init_58 (fun w14 H locs hU14 hP hD hS => ?_)
  replace e0 : w14[q]? = some (h, .inr (6, [.ref a8, .int 0, .int 0, .int 0, .int 0, .ref a16, .ref a24, .ref a32, .ref a40, .ref a48, .int 0, .ref a56, .null, .null, .null, .null, .null, .int 0, .null, .null, .null, .null, .int 0, .null])) := hU14.1
  replace n8 : w14[q + 1]? = some (a8, .inl (cI g, 300, .inl (fun _ => 0))) := (hU14.2 _ (by omega)).trans n8
  replace n16 : w14[q + 2]? = some (a16, .inl (cI g, 24, .inl (fun _ => 0))) := (hU14.2 _ (by omega)).trans n16
  replace n24 : w14[q + 3]? = some (a24, .inl (cI g, 24, .inl (fun _ => 0))) := (hU14.2 _ (by omega)).trans n24
  replace n32 : w14[q + 4]? = some (a32, .inl (cI g, 24, .inl (fun _ => 0))) := (hU14.2 _ (by omega)).trans n32
  replace n40 : w14[q + 5]? = some (a40, .inl (cI g, 24, .inl (fun _ => 0))) := (hU14.2 _ (by omega)).trans n40
  replace n48 : w14[q + 6]? = some (a48, .inl (cI g, 48, .inl (fun _ => 0))) := (hU14.2 _ (by omega)).trans n48
  replace n56 : w14[q + 7]? = some (a56, .inl (cI g, 24, .inl (fun _ => 0))) := (hU14.2 _ (by omega)).trans n56
  replace hQ := hQ.up hU14 (by omega)
  replace hlen := (hU14.len o9).trans hlen
  refine lv_aload_n hx hb d_Mo_init_61 rfl (lv_at hl 0 rfl) ?_
  refine lv_bipush (v := 24) hx hb d_Mo_init_62 (by decide) ?_
  clear hU14
  refine x_newa E hP hD hS (ty := .int) rfl wa_int (cls := cI g) 0 rfl (fun _ h => by cases h) (N' := 24) (a0 := (24, .inl (fun _ => 0))) (fun _ => rfl) (by decide) (by decide) (by decide) (by decide) (by decide) d_Mo_init_64 (fun a64 w15 H hU15 hL hP hD hS => ?_)
  rw [hlen] at hU15 hL
  have n64 : w15[q + 8]? = some (a64, .inl (cI g, 24, .inl (fun _ => 0))) := hU15.1
  replace e0 : w15[q]? = some (h, .inr (6, [.ref a8, .int 0, .int 0, .int 0, .int 0, .ref a16, .ref a24, .ref a32, .ref a40, .ref a48, .int 0, .ref a56, .null, .null, .null, .null, .null, .int 0, .null, .null, .null, .null, .int 0, .null])) := (hU15.2 _ (by omega)).trans e0
  replace n8 : w15[q + 1]? = some (a8, .inl (cI g, 300, .inl (fun _ => 0))) := (hU15.2 _ (by omega)).trans n8
  replace n16 : w15[q + 2]? = some (a16, .inl (cI g, 24, .inl (fun _ => 0))) := (hU15.2 _ (by omega)).trans n16
  replace n24 : w15[q + 3]? = some (a24, .inl (cI g, 24, .inl (fun _ => 0))) := (hU15.2 _ (by omega)).trans n24
  replace n32 : w15[q + 4]? = some (a32, .inl (cI g, 24, .inl (fun _ => 0))) := (hU15.2 _ (by omega)).trans n32
  replace n40 : w15[q + 5]? = some (a40, .inl (cI g, 24, .inl (fun _ => 0))) := (hU15.2 _ (by omega)).trans n40
  replace n48 : w15[q + 6]? = some (a48, .inl (cI g, 48, .inl (fun _ => 0))) := (hU15.2 _ (by omega)).trans n48
  replace n56 : w15[q + 7]? = some (a56, .inl (cI g, 24, .inl (fun _ => 0))) := (hU15.2 _ (by omega)).trans n56
  replace hQ : xQ q (q + 9) ws w15 := fun k hk9 => (hU15.2 k (by omega)).trans (hQ k (by omega))
  replace hlen := hL
  clear hL
  have o9 := e0
  clear hU15
  refine x_putF E hP hD hS e0 rfl cl6_in cl6_ty cl6_nm 12 (by decide) wf_Mo_31 rfl (hin rfl) rfl rfl rfl (Nat.le_of_ble_eq_true rfl) d_Mo_init_66 (fun w16 H locs hU16 hP hD hS => ?_)
  replace e0 : w16[q]? = some (h, .inr (6, [.ref a8, .int 0, .int 0, .int 0, .int 0, .ref a16, .ref a24, .ref a32, .ref a40, .ref a48, .int 0, .ref a56, .ref a64, .null, .null, .null, .null, .int 0, .null, .null, .null, .null, .int 0, .null])) := hU16.1
  replace n8 : w16[q + 1]? = some (a8, .inl (cI g, 300, .inl (fun _ => 0))) := (hU16.2 _ (by omega)).trans n8
  replace n16 : w16[q + 2]? = some (a16, .inl (cI g, 24, .inl (fun _ => 0))) := (hU16.2 _ (by omega)).trans n16
  replace n24 : w16[q + 3]? = some (a24, .inl (cI g, 24, .inl (fun _ => 0))) := (hU16.2 _ (by omega)).trans n24
  replace n32 : w16[q + 4]? = some (a32, .inl (cI g, 24, .inl (fun _ => 0))) := (hU16.2 _ (by omega)).trans n32
  replace n40 : w16[q + 5]? = some (a40, .inl (cI g, 24, .inl (fun _ => 0))) := (hU16.2 _ (by omega)).trans n40
  replace n48 : w16[q + 6]? = some (a48, .inl (cI g, 48, .inl (fun _ => 0))) := (hU16.2 _ (by omega)).trans n48
  replace n56 : w16[q + 7]? = some (a56, .inl (cI g, 24, .inl (fun _ => 0))) := (hU16.2 _ (by omega)).trans n56
  replace n64 : w16[q + 8]? = some (a64, .inl (cI g, 24, .inl (fun _ => 0))) := (hU16.2 _ (by omega)).trans n64
  replace hQ := hQ.up hU16 (by omega)
  replace hlen := (hU16.len o9).trans hlen
  refine lv_aload_n hx hb d_Mo_init_69 rfl (lv_at hl 0 rfl) ?_
  refine lv_bipush (v := 24) hx hb d_Mo_init_70 (by decide) ?_
  clear hU16
  refine x_newa E hP hD hS (ty := .int) rfl wa_int (cls := cI g) 0 rfl (fun _ h => by cases h) (N' := 24) (a0 := (24, .inl (fun _ => 0))) (fun _ => rfl) (by decide) (by decide) (by decide) (by decide) (by decide) d_Mo_init_72 (fun a72 w17 H hU17 hL hP hD hS => ?_)
  rw [hlen] at hU17 hL
  have n72 : w17[q + 9]? = some (a72, .inl (cI g, 24, .inl (fun _ => 0))) := hU17.1
  replace e0 : w17[q]? = some (h, .inr (6, [.ref a8, .int 0, .int 0, .int 0, .int 0, .ref a16, .ref a24, .ref a32, .ref a40, .ref a48, .int 0, .ref a56, .ref a64, .null, .null, .null, .null, .int 0, .null, .null, .null, .null, .int 0, .null])) := (hU17.2 _ (by omega)).trans e0
  replace n8 : w17[q + 1]? = some (a8, .inl (cI g, 300, .inl (fun _ => 0))) := (hU17.2 _ (by omega)).trans n8
  replace n16 : w17[q + 2]? = some (a16, .inl (cI g, 24, .inl (fun _ => 0))) := (hU17.2 _ (by omega)).trans n16
  replace n24 : w17[q + 3]? = some (a24, .inl (cI g, 24, .inl (fun _ => 0))) := (hU17.2 _ (by omega)).trans n24
  replace n32 : w17[q + 4]? = some (a32, .inl (cI g, 24, .inl (fun _ => 0))) := (hU17.2 _ (by omega)).trans n32
  replace n40 : w17[q + 5]? = some (a40, .inl (cI g, 24, .inl (fun _ => 0))) := (hU17.2 _ (by omega)).trans n40
  replace n48 : w17[q + 6]? = some (a48, .inl (cI g, 48, .inl (fun _ => 0))) := (hU17.2 _ (by omega)).trans n48
  replace n56 : w17[q + 7]? = some (a56, .inl (cI g, 24, .inl (fun _ => 0))) := (hU17.2 _ (by omega)).trans n56
  replace n64 : w17[q + 8]? = some (a64, .inl (cI g, 24, .inl (fun _ => 0))) := (hU17.2 _ (by omega)).trans n64
  replace hQ : xQ q (q + 10) ws w17 := fun k hk9 => (hU17.2 k (by omega)).trans (hQ k (by omega))
  replace hlen := hL
  clear hL
  have o9 := e0
  clear hU17
  refine x_putF E hP hD hS e0 rfl cl6_in cl6_ty cl6_nm 13 (by decide) wf_Mo_34 rfl (hin rfl) rfl rfl rfl (Nat.le_of_ble_eq_true rfl) d_Mo_init_74 (fun w18 H locs hU18 hP hD hS => ?_)
  replace e0 : w18[q]? = some (h, .inr (6, [.ref a8, .int 0, .int 0, .int 0, .int 0, .ref a16, .ref a24, .ref a32, .ref a40, .ref a48, .int 0, .ref a56, .ref a64, .ref a72, .null, .null, .null, .int 0, .null, .null, .null, .null, .int 0, .null])) := hU18.1
  replace n8 : w18[q + 1]? = some (a8, .inl (cI g, 300, .inl (fun _ => 0))) := (hU18.2 _ (by omega)).trans n8
  replace n16 : w18[q + 2]? = some (a16, .inl (cI g, 24, .inl (fun _ => 0))) := (hU18.2 _ (by omega)).trans n16
  replace n24 : w18[q + 3]? = some (a24, .inl (cI g, 24, .inl (fun _ => 0))) := (hU18.2 _ (by omega)).trans n24
  replace n32 : w18[q + 4]? = some (a32, .inl (cI g, 24, .inl (fun _ => 0))) := (hU18.2 _ (by omega)).trans n32
  replace n40 : w18[q + 5]? = some (a40, .inl (cI g, 24, .inl (fun _ => 0))) := (hU18.2 _ (by omega)).trans n40
  replace n48 : w18[q + 6]? = some (a48, .inl (cI g, 48, .inl (fun _ => 0))) := (hU18.2 _ (by omega)).trans n48
  replace n56 : w18[q + 7]? = some (a56, .inl (cI g, 24, .inl (fun _ => 0))) := (hU18.2 _ (by omega)).trans n56
  replace n64 : w18[q + 8]? = some (a64, .inl (cI g, 24, .inl (fun _ => 0))) := (hU18.2 _ (by omega)).trans n64
  replace n72 : w18[q + 9]? = some (a72, .inl (cI g, 24, .inl (fun _ => 0))) := (hU18.2 _ (by omega)).trans n72
  replace hQ := hQ.up hU18 (by omega)
  replace hlen := (hU18.len o9).trans hlen
  refine lv_aload_n hx hb d_Mo_init_77 rfl (lv_at hl 0 rfl) ?_
  refine lv_bipush (v := 24) hx hb d_Mo_init_78 (by decide) ?_
  clear hU18
  refine x_newa E hP hD hS (ty := .int) rfl wa_int (cls := cI g) 0 rfl (fun _ h => by cases h) (N' := 24) (a0 := (24, .inl (fun _ => 0))) (fun _ => rfl) (by decide) (by decide) (by decide) (by decide) (by decide) d_Mo_init_80 (fun a80 w19 H hU19 hL hP hD hS => ?_)
  rw [hlen] at hU19 hL
  have n80 : w19[q + 10]? = some (a80, .inl (cI g, 24, .inl (fun _ => 0))) := hU19.1
  replace e0 : w19[q]? = some (h, .inr (6, [.ref a8, .int 0, .int 0, .int 0, .int 0, .ref a16, .ref a24, .ref a32, .ref a40, .ref a48, .int 0, .ref a56, .ref a64, .ref a72, .null, .null, .null, .int 0, .null, .null, .null, .null, .int 0, .null])) := (hU19.2 _ (by omega)).trans e0
  replace n8 : w19[q + 1]? = some (a8, .inl (cI g, 300, .inl (fun _ => 0))) := (hU19.2 _ (by omega)).trans n8
  replace n16 : w19[q + 2]? = some (a16, .inl (cI g, 24, .inl (fun _ => 0))) := (hU19.2 _ (by omega)).trans n16
  replace n24 : w19[q + 3]? = some (a24, .inl (cI g, 24, .inl (fun _ => 0))) := (hU19.2 _ (by omega)).trans n24
  replace n32 : w19[q + 4]? = some (a32, .inl (cI g, 24, .inl (fun _ => 0))) := (hU19.2 _ (by omega)).trans n32
  replace n40 : w19[q + 5]? = some (a40, .inl (cI g, 24, .inl (fun _ => 0))) := (hU19.2 _ (by omega)).trans n40
  replace n48 : w19[q + 6]? = some (a48, .inl (cI g, 48, .inl (fun _ => 0))) := (hU19.2 _ (by omega)).trans n48
  replace n56 : w19[q + 7]? = some (a56, .inl (cI g, 24, .inl (fun _ => 0))) := (hU19.2 _ (by omega)).trans n56
  replace n64 : w19[q + 8]? = some (a64, .inl (cI g, 24, .inl (fun _ => 0))) := (hU19.2 _ (by omega)).trans n64
  replace n72 : w19[q + 9]? = some (a72, .inl (cI g, 24, .inl (fun _ => 0))) := (hU19.2 _ (by omega)).trans n72
  replace hQ : xQ q (q + 11) ws w19 := fun k hk9 => (hU19.2 k (by omega)).trans (hQ k (by omega))
  replace hlen := hL
  clear hL
  have o9 := e0
  clear hU19
  refine x_putF E hP hD hS e0 rfl cl6_in cl6_ty cl6_nm 14 (by decide) wf_Mo_37 rfl (hin rfl) rfl rfl rfl (Nat.le_of_ble_eq_true rfl) d_Mo_init_82 (fun w20 H locs hU20 hP hD hS => ?_)
  replace e0 : w20[q]? = some (h, .inr (6, [.ref a8, .int 0, .int 0, .int 0, .int 0, .ref a16, .ref a24, .ref a32, .ref a40, .ref a48, .int 0, .ref a56, .ref a64, .ref a72, .ref a80, .null, .null, .int 0, .null, .null, .null, .null, .int 0, .null])) := hU20.1
  replace n8 : w20[q + 1]? = some (a8, .inl (cI g, 300, .inl (fun _ => 0))) := (hU20.2 _ (by omega)).trans n8
  replace n16 : w20[q + 2]? = some (a16, .inl (cI g, 24, .inl (fun _ => 0))) := (hU20.2 _ (by omega)).trans n16
  replace n24 : w20[q + 3]? = some (a24, .inl (cI g, 24, .inl (fun _ => 0))) := (hU20.2 _ (by omega)).trans n24
  replace n32 : w20[q + 4]? = some (a32, .inl (cI g, 24, .inl (fun _ => 0))) := (hU20.2 _ (by omega)).trans n32
  replace n40 : w20[q + 5]? = some (a40, .inl (cI g, 24, .inl (fun _ => 0))) := (hU20.2 _ (by omega)).trans n40
  replace n48 : w20[q + 6]? = some (a48, .inl (cI g, 48, .inl (fun _ => 0))) := (hU20.2 _ (by omega)).trans n48
  replace n56 : w20[q + 7]? = some (a56, .inl (cI g, 24, .inl (fun _ => 0))) := (hU20.2 _ (by omega)).trans n56
  replace n64 : w20[q + 8]? = some (a64, .inl (cI g, 24, .inl (fun _ => 0))) := (hU20.2 _ (by omega)).trans n64
  replace n72 : w20[q + 9]? = some (a72, .inl (cI g, 24, .inl (fun _ => 0))) := (hU20.2 _ (by omega)).trans n72
  replace n80 : w20[q + 10]? = some (a80, .inl (cI g, 24, .inl (fun _ => 0))) := (hU20.2 _ (by omega)).trans n80
  replace hQ := hQ.up hU20 (by omega)
  replace hlen := (hU20.len o9).trans hlen
  refine lv_aload_n hx hb d_Mo_init_85 rfl (lv_at hl 0 rfl) ?_
  refine lv_bipush (v := 48) hx hb d_Mo_init_86 (by decide) ?_
  clear hU20
  refine x_newa E hP hD hS (ty := .int) rfl wa_int (cls := cI g) 0 rfl (fun _ h => by cases h) (N' := 48) (a0 := (48, .inl (fun _ => 0))) (fun _ => rfl) (by decide) (by decide) (by decide) (by decide) (by decide) d_Mo_init_88 (fun a88 w21 H hU21 hL hP hD hS => ?_)
  rw [hlen] at hU21 hL
  have n88 : w21[q + 11]? = some (a88, .inl (cI g, 48, .inl (fun _ => 0))) := hU21.1
  replace e0 : w21[q]? = some (h, .inr (6, [.ref a8, .int 0, .int 0, .int 0, .int 0, .ref a16, .ref a24, .ref a32, .ref a40, .ref a48, .int 0, .ref a56, .ref a64, .ref a72, .ref a80, .null, .null, .int 0, .null, .null, .null, .null, .int 0, .null])) := (hU21.2 _ (by omega)).trans e0
  replace n8 : w21[q + 1]? = some (a8, .inl (cI g, 300, .inl (fun _ => 0))) := (hU21.2 _ (by omega)).trans n8
  replace n16 : w21[q + 2]? = some (a16, .inl (cI g, 24, .inl (fun _ => 0))) := (hU21.2 _ (by omega)).trans n16
  replace n24 : w21[q + 3]? = some (a24, .inl (cI g, 24, .inl (fun _ => 0))) := (hU21.2 _ (by omega)).trans n24
  replace n32 : w21[q + 4]? = some (a32, .inl (cI g, 24, .inl (fun _ => 0))) := (hU21.2 _ (by omega)).trans n32
  replace n40 : w21[q + 5]? = some (a40, .inl (cI g, 24, .inl (fun _ => 0))) := (hU21.2 _ (by omega)).trans n40
  replace n48 : w21[q + 6]? = some (a48, .inl (cI g, 48, .inl (fun _ => 0))) := (hU21.2 _ (by omega)).trans n48
  replace n56 : w21[q + 7]? = some (a56, .inl (cI g, 24, .inl (fun _ => 0))) := (hU21.2 _ (by omega)).trans n56
  replace n64 : w21[q + 8]? = some (a64, .inl (cI g, 24, .inl (fun _ => 0))) := (hU21.2 _ (by omega)).trans n64
  replace n72 : w21[q + 9]? = some (a72, .inl (cI g, 24, .inl (fun _ => 0))) := (hU21.2 _ (by omega)).trans n72
  replace n80 : w21[q + 10]? = some (a80, .inl (cI g, 24, .inl (fun _ => 0))) := (hU21.2 _ (by omega)).trans n80
  replace hQ : xQ q (q + 12) ws w21 := fun k hk9 => (hU21.2 k (by omega)).trans (hQ k (by omega))
  replace hlen := hL
  clear hL
  have o9 := e0
  clear hU21
  refine x_putF E hP hD hS e0 rfl cl6_in cl6_ty cl6_nm 15 (by decide) wf_Mo_40 rfl (hin rfl) rfl rfl rfl (Nat.le_of_ble_eq_true rfl) d_Mo_init_90 (fun w22 H locs hU22 hP hD hS => ?_)
  replace e0 : w22[q]? = some (h, .inr (6, [.ref a8, .int 0, .int 0, .int 0, .int 0, .ref a16, .ref a24, .ref a32, .ref a40, .ref a48, .int 0, .ref a56, .ref a64, .ref a72, .ref a80, .ref a88, .null, .int 0, .null, .null, .null, .null, .int 0, .null])) := hU22.1
  replace n8 : w22[q + 1]? = some (a8, .inl (cI g, 300, .inl (fun _ => 0))) := (hU22.2 _ (by omega)).trans n8
  replace n16 : w22[q + 2]? = some (a16, .inl (cI g, 24, .inl (fun _ => 0))) := (hU22.2 _ (by omega)).trans n16
  replace n24 : w22[q + 3]? = some (a24, .inl (cI g, 24, .inl (fun _ => 0))) := (hU22.2 _ (by omega)).trans n24
  replace n32 : w22[q + 4]? = some (a32, .inl (cI g, 24, .inl (fun _ => 0))) := (hU22.2 _ (by omega)).trans n32
  replace n40 : w22[q + 5]? = some (a40, .inl (cI g, 24, .inl (fun _ => 0))) := (hU22.2 _ (by omega)).trans n40
  replace n48 : w22[q + 6]? = some (a48, .inl (cI g, 48, .inl (fun _ => 0))) := (hU22.2 _ (by omega)).trans n48
  replace n56 : w22[q + 7]? = some (a56, .inl (cI g, 24, .inl (fun _ => 0))) := (hU22.2 _ (by omega)).trans n56
  replace n64 : w22[q + 8]? = some (a64, .inl (cI g, 24, .inl (fun _ => 0))) := (hU22.2 _ (by omega)).trans n64
  replace n72 : w22[q + 9]? = some (a72, .inl (cI g, 24, .inl (fun _ => 0))) := (hU22.2 _ (by omega)).trans n72
  replace n80 : w22[q + 10]? = some (a80, .inl (cI g, 24, .inl (fun _ => 0))) := (hU22.2 _ (by omega)).trans n80
  replace n88 : w22[q + 11]? = some (a88, .inl (cI g, 48, .inl (fun _ => 0))) := (hU22.2 _ (by omega)).trans n88
  replace hQ := hQ.up hU22 (by omega)
  replace hlen := (hU22.len o9).trans hlen
  refine lv_aload_n hx hb d_Mo_init_93 rfl (lv_at hl 0 rfl) ?_
  refine lv_sipush (v := 576) hx hb d_Mo_init_94 (by decide) ?_
  clear hU22
  refine x_newa E hP hD hS (ty := .boolean) rfl wa_boolean (cls := cZ g) 3 rfl (fun _ h => by cases h) (N' := 576) (a0 := (576, .inl (fun _ => 0))) (fun _ => rfl) (by decide) (by decide) (by decide) (by decide) (by decide) d_Mo_init_97 (fun a97 w23 H hU23 hL hP hD hS => ?_)
  rw [hlen] at hU23 hL
  have n97 : w23[q + 12]? = some (a97, .inl (cZ g, 576, .inl (fun _ => 0))) := hU23.1
  replace e0 : w23[q]? = some (h, .inr (6, [.ref a8, .int 0, .int 0, .int 0, .int 0, .ref a16, .ref a24, .ref a32, .ref a40, .ref a48, .int 0, .ref a56, .ref a64, .ref a72, .ref a80, .ref a88, .null, .int 0, .null, .null, .null, .null, .int 0, .null])) := (hU23.2 _ (by omega)).trans e0
  replace n8 : w23[q + 1]? = some (a8, .inl (cI g, 300, .inl (fun _ => 0))) := (hU23.2 _ (by omega)).trans n8
  replace n16 : w23[q + 2]? = some (a16, .inl (cI g, 24, .inl (fun _ => 0))) := (hU23.2 _ (by omega)).trans n16
  replace n24 : w23[q + 3]? = some (a24, .inl (cI g, 24, .inl (fun _ => 0))) := (hU23.2 _ (by omega)).trans n24
  replace n32 : w23[q + 4]? = some (a32, .inl (cI g, 24, .inl (fun _ => 0))) := (hU23.2 _ (by omega)).trans n32
  replace n40 : w23[q + 5]? = some (a40, .inl (cI g, 24, .inl (fun _ => 0))) := (hU23.2 _ (by omega)).trans n40
  replace n48 : w23[q + 6]? = some (a48, .inl (cI g, 48, .inl (fun _ => 0))) := (hU23.2 _ (by omega)).trans n48
  replace n56 : w23[q + 7]? = some (a56, .inl (cI g, 24, .inl (fun _ => 0))) := (hU23.2 _ (by omega)).trans n56
  replace n64 : w23[q + 8]? = some (a64, .inl (cI g, 24, .inl (fun _ => 0))) := (hU23.2 _ (by omega)).trans n64
  replace n72 : w23[q + 9]? = some (a72, .inl (cI g, 24, .inl (fun _ => 0))) := (hU23.2 _ (by omega)).trans n72
  replace n80 : w23[q + 10]? = some (a80, .inl (cI g, 24, .inl (fun _ => 0))) := (hU23.2 _ (by omega)).trans n80
  replace n88 : w23[q + 11]? = some (a88, .inl (cI g, 48, .inl (fun _ => 0))) := (hU23.2 _ (by omega)).trans n88
  replace hQ : xQ q (q + 13) ws w23 := fun k hk9 => (hU23.2 k (by omega)).trans (hQ k (by omega))
  replace hlen := hL
  clear hL
  have o9 := e0
  clear hU23
  refine x_putF E hP hD hS e0 rfl cl6_in cl6_ty cl6_nm 16 (by decide) wf_Mo_43 rfl (hin rfl) rfl rfl rfl (Nat.le_of_ble_eq_true rfl) d_Mo_init_99 (fun w24 H locs hU24 hP hD hS => ?_)
  replace e0 : w24[q]? = some (h, .inr (6, [.ref a8, .int 0, .int 0, .int 0, .int 0, .ref a16, .ref a24, .ref a32, .ref a40, .ref a48, .int 0, .ref a56, .ref a64, .ref a72, .ref a80, .ref a88, .ref a97, .int 0, .null, .null, .null, .null, .int 0, .null])) := hU24.1
  replace n8 : w24[q + 1]? = some (a8, .inl (cI g, 300, .inl (fun _ => 0))) := (hU24.2 _ (by omega)).trans n8
  replace n16 : w24[q + 2]? = some (a16, .inl (cI g, 24, .inl (fun _ => 0))) := (hU24.2 _ (by omega)).trans n16
  replace n24 : w24[q + 3]? = some (a24, .inl (cI g, 24, .inl (fun _ => 0))) := (hU24.2 _ (by omega)).trans n24
  replace n32 : w24[q + 4]? = some (a32, .inl (cI g, 24, .inl (fun _ => 0))) := (hU24.2 _ (by omega)).trans n32
  replace n40 : w24[q + 5]? = some (a40, .inl (cI g, 24, .inl (fun _ => 0))) := (hU24.2 _ (by omega)).trans n40
  replace n48 : w24[q + 6]? = some (a48, .inl (cI g, 48, .inl (fun _ => 0))) := (hU24.2 _ (by omega)).trans n48
  replace n56 : w24[q + 7]? = some (a56, .inl (cI g, 24, .inl (fun _ => 0))) := (hU24.2 _ (by omega)).trans n56
  replace n64 : w24[q + 8]? = some (a64, .inl (cI g, 24, .inl (fun _ => 0))) := (hU24.2 _ (by omega)).trans n64
  replace n72 : w24[q + 9]? = some (a72, .inl (cI g, 24, .inl (fun _ => 0))) := (hU24.2 _ (by omega)).trans n72
  replace n80 : w24[q + 10]? = some (a80, .inl (cI g, 24, .inl (fun _ => 0))) := (hU24.2 _ (by omega)).trans n80
  replace n88 : w24[q + 11]? = some (a88, .inl (cI g, 48, .inl (fun _ => 0))) := (hU24.2 _ (by omega)).trans n88
  replace n97 : w24[q + 12]? = some (a97, .inl (cZ g, 576, .inl (fun _ => 0))) := (hU24.2 _ (by omega)).trans n97
  replace hQ := hQ.up hU24 (by omega)
  replace hlen := (hU24.len o9).trans hlen
  refine lv_aload_n hx hb d_Mo_init_102 rfl (lv_at hl 0 rfl) ?_
  refine lv_sipush (v := 300) hx hb d_Mo_init_103 (by decide) ?_
  clear hU24
  refine x_newa E hP hD hS (ty := .int) rfl wa_int (cls := cI g) 0 rfl (fun _ h => by cases h) (N' := 300) (a0 := (300, .inl (fun _ => 0))) (fun _ => rfl) (by decide) (by decide) (by decide) (by decide) (by decide) d_Mo_init_106 (fun a106 w25 H hU25 hL hP hD hS => ?_)
  rw [hlen] at hU25 hL
  have n106 : w25[q + 13]? = some (a106, .inl (cI g, 300, .inl (fun _ => 0))) := hU25.1
  replace e0 : w25[q]? = some (h, .inr (6, [.ref a8, .int 0, .int 0, .int 0, .int 0, .ref a16, .ref a24, .ref a32, .ref a40, .ref a48, .int 0, .ref a56, .ref a64, .ref a72, .ref a80, .ref a88, .ref a97, .int 0, .null, .null, .null, .null, .int 0, .null])) := (hU25.2 _ (by omega)).trans e0
  replace n8 : w25[q + 1]? = some (a8, .inl (cI g, 300, .inl (fun _ => 0))) := (hU25.2 _ (by omega)).trans n8
  replace n16 : w25[q + 2]? = some (a16, .inl (cI g, 24, .inl (fun _ => 0))) := (hU25.2 _ (by omega)).trans n16
  replace n24 : w25[q + 3]? = some (a24, .inl (cI g, 24, .inl (fun _ => 0))) := (hU25.2 _ (by omega)).trans n24
  replace n32 : w25[q + 4]? = some (a32, .inl (cI g, 24, .inl (fun _ => 0))) := (hU25.2 _ (by omega)).trans n32
  replace n40 : w25[q + 5]? = some (a40, .inl (cI g, 24, .inl (fun _ => 0))) := (hU25.2 _ (by omega)).trans n40
  replace n48 : w25[q + 6]? = some (a48, .inl (cI g, 48, .inl (fun _ => 0))) := (hU25.2 _ (by omega)).trans n48
  replace n56 : w25[q + 7]? = some (a56, .inl (cI g, 24, .inl (fun _ => 0))) := (hU25.2 _ (by omega)).trans n56
  replace n64 : w25[q + 8]? = some (a64, .inl (cI g, 24, .inl (fun _ => 0))) := (hU25.2 _ (by omega)).trans n64
  replace n72 : w25[q + 9]? = some (a72, .inl (cI g, 24, .inl (fun _ => 0))) := (hU25.2 _ (by omega)).trans n72
  replace n80 : w25[q + 10]? = some (a80, .inl (cI g, 24, .inl (fun _ => 0))) := (hU25.2 _ (by omega)).trans n80
  replace n88 : w25[q + 11]? = some (a88, .inl (cI g, 48, .inl (fun _ => 0))) := (hU25.2 _ (by omega)).trans n88
  replace n97 : w25[q + 12]? = some (a97, .inl (cZ g, 576, .inl (fun _ => 0))) := (hU25.2 _ (by omega)).trans n97
  replace hQ : xQ q (q + 14) ws w25 := fun k hk9 => (hU25.2 k (by omega)).trans (hQ k (by omega))
  replace hlen := hL
  clear hL
  have o9 := e0
  clear hU25
  refine x_putF E hP hD hS e0 rfl cl6_in cl6_ty cl6_nm 18 (by decide) wf_Mo_47 rfl (hin rfl) rfl rfl rfl (Nat.le_of_ble_eq_true rfl) d_Mo_init_108 (fun w26 H locs hU26 hP hD hS => ?_)
  replace e0 : w26[q]? = some (h, .inr (6, [.ref a8, .int 0, .int 0, .int 0, .int 0, .ref a16, .ref a24, .ref a32, .ref a40, .ref a48, .int 0, .ref a56, .ref a64, .ref a72, .ref a80, .ref a88, .ref a97, .int 0, .ref a106, .null, .null, .null, .int 0, .null])) := hU26.1
  replace n8 : w26[q + 1]? = some (a8, .inl (cI g, 300, .inl (fun _ => 0))) := (hU26.2 _ (by omega)).trans n8
  replace n16 : w26[q + 2]? = some (a16, .inl (cI g, 24, .inl (fun _ => 0))) := (hU26.2 _ (by omega)).trans n16
  replace n24 : w26[q + 3]? = some (a24, .inl (cI g, 24, .inl (fun _ => 0))) := (hU26.2 _ (by omega)).trans n24
  replace n32 : w26[q + 4]? = some (a32, .inl (cI g, 24, .inl (fun _ => 0))) := (hU26.2 _ (by omega)).trans n32
  replace n40 : w26[q + 5]? = some (a40, .inl (cI g, 24, .inl (fun _ => 0))) := (hU26.2 _ (by omega)).trans n40
  replace n48 : w26[q + 6]? = some (a48, .inl (cI g, 48, .inl (fun _ => 0))) := (hU26.2 _ (by omega)).trans n48
  replace n56 : w26[q + 7]? = some (a56, .inl (cI g, 24, .inl (fun _ => 0))) := (hU26.2 _ (by omega)).trans n56
  replace n64 : w26[q + 8]? = some (a64, .inl (cI g, 24, .inl (fun _ => 0))) := (hU26.2 _ (by omega)).trans n64
  replace n72 : w26[q + 9]? = some (a72, .inl (cI g, 24, .inl (fun _ => 0))) := (hU26.2 _ (by omega)).trans n72
  replace n80 : w26[q + 10]? = some (a80, .inl (cI g, 24, .inl (fun _ => 0))) := (hU26.2 _ (by omega)).trans n80
  replace n88 : w26[q + 11]? = some (a88, .inl (cI g, 48, .inl (fun _ => 0))) := (hU26.2 _ (by omega)).trans n88
  replace n97 : w26[q + 12]? = some (a97, .inl (cZ g, 576, .inl (fun _ => 0))) := (hU26.2 _ (by omega)).trans n97
  replace n106 : w26[q + 13]? = some (a106, .inl (cI g, 300, .inl (fun _ => 0))) := (hU26.2 _ (by omega)).trans n106
  replace hQ := hQ.up hU26 (by omega)
  replace hlen := (hU26.len o9).trans hlen
  refine lv_aload_n hx hb d_Mo_init_111 rfl (lv_at hl 0 rfl) ?_
  refine lv_sipush (v := 300) hx hb d_Mo_init_112 (by decide) ?_
  clear hU26
  refine x_newa E hP hD hS (ty := .int) rfl wa_int (cls := cI g) 0 rfl (fun _ h => by cases h) (N' := 300) (a0 := (300, .inl (fun _ => 0))) (fun _ => rfl) (by decide) (by decide) (by decide) (by decide) (by decide) d_Mo_init_115 (fun a115 w27 H hU27 hL hP hD hS => ?_)
  rw [hlen] at hU27 hL
  have n115 : w27[q + 14]? = some (a115, .inl (cI g, 300, .inl (fun _ => 0))) := hU27.1
  replace e0 : w27[q]? = some (h, .inr (6, [.ref a8, .int 0, .int 0, .int 0, .int 0, .ref a16, .ref a24, .ref a32, .ref a40, .ref a48, .int 0, .ref a56, .ref a64, .ref a72, .ref a80, .ref a88, .ref a97, .int 0, .ref a106, .null, .null, .null, .int 0, .null])) := (hU27.2 _ (by omega)).trans e0
  replace n8 : w27[q + 1]? = some (a8, .inl (cI g, 300, .inl (fun _ => 0))) := (hU27.2 _ (by omega)).trans n8
  replace n16 : w27[q + 2]? = some (a16, .inl (cI g, 24, .inl (fun _ => 0))) := (hU27.2 _ (by omega)).trans n16
  replace n24 : w27[q + 3]? = some (a24, .inl (cI g, 24, .inl (fun _ => 0))) := (hU27.2 _ (by omega)).trans n24
  replace n32 : w27[q + 4]? = some (a32, .inl (cI g, 24, .inl (fun _ => 0))) := (hU27.2 _ (by omega)).trans n32
  replace n40 : w27[q + 5]? = some (a40, .inl (cI g, 24, .inl (fun _ => 0))) := (hU27.2 _ (by omega)).trans n40
  replace n48 : w27[q + 6]? = some (a48, .inl (cI g, 48, .inl (fun _ => 0))) := (hU27.2 _ (by omega)).trans n48
  replace n56 : w27[q + 7]? = some (a56, .inl (cI g, 24, .inl (fun _ => 0))) := (hU27.2 _ (by omega)).trans n56
  replace n64 : w27[q + 8]? = some (a64, .inl (cI g, 24, .inl (fun _ => 0))) := (hU27.2 _ (by omega)).trans n64
  replace n72 : w27[q + 9]? = some (a72, .inl (cI g, 24, .inl (fun _ => 0))) := (hU27.2 _ (by omega)).trans n72
  replace n80 : w27[q + 10]? = some (a80, .inl (cI g, 24, .inl (fun _ => 0))) := (hU27.2 _ (by omega)).trans n80
  replace n88 : w27[q + 11]? = some (a88, .inl (cI g, 48, .inl (fun _ => 0))) := (hU27.2 _ (by omega)).trans n88
  replace n97 : w27[q + 12]? = some (a97, .inl (cZ g, 576, .inl (fun _ => 0))) := (hU27.2 _ (by omega)).trans n97
  replace n106 : w27[q + 13]? = some (a106, .inl (cI g, 300, .inl (fun _ => 0))) := (hU27.2 _ (by omega)).trans n106
  replace hQ : xQ q (q + 15) ws w27 := fun k hk9 => (hU27.2 k (by omega)).trans (hQ k (by omega))
  replace hlen := hL
  clear hL
  have o9 := e0
  clear hU27
  refine x_putF E hP hD hS e0 rfl cl6_in cl6_ty cl6_nm 19 (by decide) wf_Mo_50 rfl (hin rfl) rfl rfl rfl (Nat.le_of_ble_eq_true rfl) d_Mo_init_117 (fun w28 H locs hU28 hP hD hS => ?_)
  replace e0 : w28[q]? = some (h, .inr (6, [.ref a8, .int 0, .int 0, .int 0, .int 0, .ref a16, .ref a24, .ref a32, .ref a40, .ref a48, .int 0, .ref a56, .ref a64, .ref a72, .ref a80, .ref a88, .ref a97, .int 0, .ref a106, .ref a115, .null, .null, .int 0, .null])) := hU28.1
  replace n8 : w28[q + 1]? = some (a8, .inl (cI g, 300, .inl (fun _ => 0))) := (hU28.2 _ (by omega)).trans n8
  replace n16 : w28[q + 2]? = some (a16, .inl (cI g, 24, .inl (fun _ => 0))) := (hU28.2 _ (by omega)).trans n16
  replace n24 : w28[q + 3]? = some (a24, .inl (cI g, 24, .inl (fun _ => 0))) := (hU28.2 _ (by omega)).trans n24
  replace n32 : w28[q + 4]? = some (a32, .inl (cI g, 24, .inl (fun _ => 0))) := (hU28.2 _ (by omega)).trans n32
  replace n40 : w28[q + 5]? = some (a40, .inl (cI g, 24, .inl (fun _ => 0))) := (hU28.2 _ (by omega)).trans n40
  replace n48 : w28[q + 6]? = some (a48, .inl (cI g, 48, .inl (fun _ => 0))) := (hU28.2 _ (by omega)).trans n48
  replace n56 : w28[q + 7]? = some (a56, .inl (cI g, 24, .inl (fun _ => 0))) := (hU28.2 _ (by omega)).trans n56
  replace n64 : w28[q + 8]? = some (a64, .inl (cI g, 24, .inl (fun _ => 0))) := (hU28.2 _ (by omega)).trans n64
  replace n72 : w28[q + 9]? = some (a72, .inl (cI g, 24, .inl (fun _ => 0))) := (hU28.2 _ (by omega)).trans n72
  replace n80 : w28[q + 10]? = some (a80, .inl (cI g, 24, .inl (fun _ => 0))) := (hU28.2 _ (by omega)).trans n80
  replace n88 : w28[q + 11]? = some (a88, .inl (cI g, 48, .inl (fun _ => 0))) := (hU28.2 _ (by omega)).trans n88
  replace n97 : w28[q + 12]? = some (a97, .inl (cZ g, 576, .inl (fun _ => 0))) := (hU28.2 _ (by omega)).trans n97
  replace n106 : w28[q + 13]? = some (a106, .inl (cI g, 300, .inl (fun _ => 0))) := (hU28.2 _ (by omega)).trans n106
  replace n115 : w28[q + 14]? = some (a115, .inl (cI g, 300, .inl (fun _ => 0))) := (hU28.2 _ (by omega)).trans n115
  replace hQ := hQ.up hU28 (by omega)
  replace hlen := (hU28.len o9).trans hlen
  refine lv_aload_n hx hb d_Mo_init_120 rfl (lv_at hl 0 rfl) ?_
  refine lv_sipush (v := 300) hx hb d_Mo_init_121 (by decide) ?_
  clear hU28
  refine x_newa E hP hD hS (ty := .int) rfl wa_int (cls := cI g) 0 rfl (fun _ h => by cases h) (N' := 300) (a0 := (300, .inl (fun _ => 0))) (fun _ => rfl) (by decide) (by decide) (by decide) (by decide) (by decide) d_Mo_init_124 (fun a124 w29 H hU29 hL hP hD hS => ?_)
  rw [hlen] at hU29 hL
  have n124 : w29[q + 15]? = some (a124, .inl (cI g, 300, .inl (fun _ => 0))) := hU29.1
  replace e0 : w29[q]? = some (h, .inr (6, [.ref a8, .int 0, .int 0, .int 0, .int 0, .ref a16, .ref a24, .ref a32, .ref a40, .ref a48, .int 0, .ref a56, .ref a64, .ref a72, .ref a80, .ref a88, .ref a97, .int 0, .ref a106, .ref a115, .null, .null, .int 0, .null])) := (hU29.2 _ (by omega)).trans e0
  replace n8 : w29[q + 1]? = some (a8, .inl (cI g, 300, .inl (fun _ => 0))) := (hU29.2 _ (by omega)).trans n8
  replace n16 : w29[q + 2]? = some (a16, .inl (cI g, 24, .inl (fun _ => 0))) := (hU29.2 _ (by omega)).trans n16
  replace n24 : w29[q + 3]? = some (a24, .inl (cI g, 24, .inl (fun _ => 0))) := (hU29.2 _ (by omega)).trans n24
  replace n32 : w29[q + 4]? = some (a32, .inl (cI g, 24, .inl (fun _ => 0))) := (hU29.2 _ (by omega)).trans n32
  replace n40 : w29[q + 5]? = some (a40, .inl (cI g, 24, .inl (fun _ => 0))) := (hU29.2 _ (by omega)).trans n40
  replace n48 : w29[q + 6]? = some (a48, .inl (cI g, 48, .inl (fun _ => 0))) := (hU29.2 _ (by omega)).trans n48
  replace n56 : w29[q + 7]? = some (a56, .inl (cI g, 24, .inl (fun _ => 0))) := (hU29.2 _ (by omega)).trans n56
  replace n64 : w29[q + 8]? = some (a64, .inl (cI g, 24, .inl (fun _ => 0))) := (hU29.2 _ (by omega)).trans n64
  replace n72 : w29[q + 9]? = some (a72, .inl (cI g, 24, .inl (fun _ => 0))) := (hU29.2 _ (by omega)).trans n72
  replace n80 : w29[q + 10]? = some (a80, .inl (cI g, 24, .inl (fun _ => 0))) := (hU29.2 _ (by omega)).trans n80
  replace n88 : w29[q + 11]? = some (a88, .inl (cI g, 48, .inl (fun _ => 0))) := (hU29.2 _ (by omega)).trans n88
  replace n97 : w29[q + 12]? = some (a97, .inl (cZ g, 576, .inl (fun _ => 0))) := (hU29.2 _ (by omega)).trans n97
  replace n106 : w29[q + 13]? = some (a106, .inl (cI g, 300, .inl (fun _ => 0))) := (hU29.2 _ (by omega)).trans n106
  replace n115 : w29[q + 14]? = some (a115, .inl (cI g, 300, .inl (fun _ => 0))) := (hU29.2 _ (by omega)).trans n115
  replace hQ : xQ q (q + 16) ws w29 := fun k hk9 => (hU29.2 k (by omega)).trans (hQ k (by omega))
  replace hlen := hL
  clear hL
  have o9 := e0
  clear hU29
  refine x_putF E hP hD hS e0 rfl cl6_in cl6_ty cl6_nm 20 (by decide) wf_Mo_53 rfl (hin rfl) rfl rfl rfl (Nat.le_of_ble_eq_true rfl) d_Mo_init_126 (fun w30 H locs hU30 hP hD hS => ?_)
  replace e0 : w30[q]? = some (h, .inr (6, [.ref a8, .int 0, .int 0, .int 0, .int 0, .ref a16, .ref a24, .ref a32, .ref a40, .ref a48, .int 0, .ref a56, .ref a64, .ref a72, .ref a80, .ref a88, .ref a97, .int 0, .ref a106, .ref a115, .ref a124, .null, .int 0, .null])) := hU30.1
  replace n8 : w30[q + 1]? = some (a8, .inl (cI g, 300, .inl (fun _ => 0))) := (hU30.2 _ (by omega)).trans n8
  replace n16 : w30[q + 2]? = some (a16, .inl (cI g, 24, .inl (fun _ => 0))) := (hU30.2 _ (by omega)).trans n16
  replace n24 : w30[q + 3]? = some (a24, .inl (cI g, 24, .inl (fun _ => 0))) := (hU30.2 _ (by omega)).trans n24
  replace n32 : w30[q + 4]? = some (a32, .inl (cI g, 24, .inl (fun _ => 0))) := (hU30.2 _ (by omega)).trans n32
  replace n40 : w30[q + 5]? = some (a40, .inl (cI g, 24, .inl (fun _ => 0))) := (hU30.2 _ (by omega)).trans n40
  replace n48 : w30[q + 6]? = some (a48, .inl (cI g, 48, .inl (fun _ => 0))) := (hU30.2 _ (by omega)).trans n48
  replace n56 : w30[q + 7]? = some (a56, .inl (cI g, 24, .inl (fun _ => 0))) := (hU30.2 _ (by omega)).trans n56
  replace n64 : w30[q + 8]? = some (a64, .inl (cI g, 24, .inl (fun _ => 0))) := (hU30.2 _ (by omega)).trans n64
  replace n72 : w30[q + 9]? = some (a72, .inl (cI g, 24, .inl (fun _ => 0))) := (hU30.2 _ (by omega)).trans n72
  replace n80 : w30[q + 10]? = some (a80, .inl (cI g, 24, .inl (fun _ => 0))) := (hU30.2 _ (by omega)).trans n80
  replace n88 : w30[q + 11]? = some (a88, .inl (cI g, 48, .inl (fun _ => 0))) := (hU30.2 _ (by omega)).trans n88
  replace n97 : w30[q + 12]? = some (a97, .inl (cZ g, 576, .inl (fun _ => 0))) := (hU30.2 _ (by omega)).trans n97
  replace n106 : w30[q + 13]? = some (a106, .inl (cI g, 300, .inl (fun _ => 0))) := (hU30.2 _ (by omega)).trans n106
  replace n115 : w30[q + 14]? = some (a115, .inl (cI g, 300, .inl (fun _ => 0))) := (hU30.2 _ (by omega)).trans n115
  replace n124 : w30[q + 15]? = some (a124, .inl (cI g, 300, .inl (fun _ => 0))) := (hU30.2 _ (by omega)).trans n124
  replace hQ := hQ.up hU30 (by omega)
  replace hlen := (hU30.len o9).trans hlen
  refine lv_aload_n hx hb d_Mo_init_129 rfl (lv_at hl 0 rfl) ?_
  refine lv_bipush (v := 24) hx hb d_Mo_init_130 (by decide) ?_
  clear hU30
  refine x_newa E hP hD hS (ty := .long) rfl wa_long (cls := cL g) 4 rfl (fun _ h => by cases h) (N' := 24) (a0 := (24, .inr (.inl (fun _ => 0)))) (fun _ => rfl) (by decide) (by decide) (by decide) (by decide) (by decide) d_Mo_init_132 (fun a132 w31 H hU31 hL hP hD hS => ?_)
  rw [hlen] at hU31 hL
  have n132 : w31[q + 16]? = some (a132, .inl (cL g, 24, .inr (.inl (fun _ => 0)))) := hU31.1
  replace e0 : w31[q]? = some (h, .inr (6, [.ref a8, .int 0, .int 0, .int 0, .int 0, .ref a16, .ref a24, .ref a32, .ref a40, .ref a48, .int 0, .ref a56, .ref a64, .ref a72, .ref a80, .ref a88, .ref a97, .int 0, .ref a106, .ref a115, .ref a124, .null, .int 0, .null])) := (hU31.2 _ (by omega)).trans e0
  replace n8 : w31[q + 1]? = some (a8, .inl (cI g, 300, .inl (fun _ => 0))) := (hU31.2 _ (by omega)).trans n8
  replace n16 : w31[q + 2]? = some (a16, .inl (cI g, 24, .inl (fun _ => 0))) := (hU31.2 _ (by omega)).trans n16
  replace n24 : w31[q + 3]? = some (a24, .inl (cI g, 24, .inl (fun _ => 0))) := (hU31.2 _ (by omega)).trans n24
  replace n32 : w31[q + 4]? = some (a32, .inl (cI g, 24, .inl (fun _ => 0))) := (hU31.2 _ (by omega)).trans n32
  replace n40 : w31[q + 5]? = some (a40, .inl (cI g, 24, .inl (fun _ => 0))) := (hU31.2 _ (by omega)).trans n40
  replace n48 : w31[q + 6]? = some (a48, .inl (cI g, 48, .inl (fun _ => 0))) := (hU31.2 _ (by omega)).trans n48
  replace n56 : w31[q + 7]? = some (a56, .inl (cI g, 24, .inl (fun _ => 0))) := (hU31.2 _ (by omega)).trans n56
  replace n64 : w31[q + 8]? = some (a64, .inl (cI g, 24, .inl (fun _ => 0))) := (hU31.2 _ (by omega)).trans n64
  replace n72 : w31[q + 9]? = some (a72, .inl (cI g, 24, .inl (fun _ => 0))) := (hU31.2 _ (by omega)).trans n72
  replace n80 : w31[q + 10]? = some (a80, .inl (cI g, 24, .inl (fun _ => 0))) := (hU31.2 _ (by omega)).trans n80
  replace n88 : w31[q + 11]? = some (a88, .inl (cI g, 48, .inl (fun _ => 0))) := (hU31.2 _ (by omega)).trans n88
  replace n97 : w31[q + 12]? = some (a97, .inl (cZ g, 576, .inl (fun _ => 0))) := (hU31.2 _ (by omega)).trans n97
  replace n106 : w31[q + 13]? = some (a106, .inl (cI g, 300, .inl (fun _ => 0))) := (hU31.2 _ (by omega)).trans n106
  replace n115 : w31[q + 14]? = some (a115, .inl (cI g, 300, .inl (fun _ => 0))) := (hU31.2 _ (by omega)).trans n115
  replace n124 : w31[q + 15]? = some (a124, .inl (cI g, 300, .inl (fun _ => 0))) := (hU31.2 _ (by omega)).trans n124
  replace hQ : xQ q (q + 17) ws w31 := fun k hk9 => (hU31.2 k (by omega)).trans (hQ k (by omega))
  replace hlen := hL
  clear hL
  have o9 := e0
  clear hU31
  refine x_putF E hP hD hS e0 rfl cl6_in cl6_ty cl6_nm 21 (by decide) wf_Mo_56 rfl (hin rfl) rfl rfl rfl (Nat.le_of_ble_eq_true rfl) d_Mo_init_134 (fun w32 H locs hU32 hP hD hS => ?_)
  replace e0 : w32[q]? = some (h, .inr (6, [.ref a8, .int 0, .int 0, .int 0, .int 0, .ref a16, .ref a24, .ref a32, .ref a40, .ref a48, .int 0, .ref a56, .ref a64, .ref a72, .ref a80, .ref a88, .ref a97, .int 0, .ref a106, .ref a115, .ref a124, .ref a132, .int 0, .null])) := hU32.1
  replace n8 : w32[q + 1]? = some (a8, .inl (cI g, 300, .inl (fun _ => 0))) := (hU32.2 _ (by omega)).trans n8
  replace n16 : w32[q + 2]? = some (a16, .inl (cI g, 24, .inl (fun _ => 0))) := (hU32.2 _ (by omega)).trans n16
  replace n24 : w32[q + 3]? = some (a24, .inl (cI g, 24, .inl (fun _ => 0))) := (hU32.2 _ (by omega)).trans n24
  replace n32 : w32[q + 4]? = some (a32, .inl (cI g, 24, .inl (fun _ => 0))) := (hU32.2 _ (by omega)).trans n32
  replace n40 : w32[q + 5]? = some (a40, .inl (cI g, 24, .inl (fun _ => 0))) := (hU32.2 _ (by omega)).trans n40
  replace n48 : w32[q + 6]? = some (a48, .inl (cI g, 48, .inl (fun _ => 0))) := (hU32.2 _ (by omega)).trans n48
  replace n56 : w32[q + 7]? = some (a56, .inl (cI g, 24, .inl (fun _ => 0))) := (hU32.2 _ (by omega)).trans n56
  replace n64 : w32[q + 8]? = some (a64, .inl (cI g, 24, .inl (fun _ => 0))) := (hU32.2 _ (by omega)).trans n64
  replace n72 : w32[q + 9]? = some (a72, .inl (cI g, 24, .inl (fun _ => 0))) := (hU32.2 _ (by omega)).trans n72
  replace n80 : w32[q + 10]? = some (a80, .inl (cI g, 24, .inl (fun _ => 0))) := (hU32.2 _ (by omega)).trans n80
  replace n88 : w32[q + 11]? = some (a88, .inl (cI g, 48, .inl (fun _ => 0))) := (hU32.2 _ (by omega)).trans n88
  replace n97 : w32[q + 12]? = some (a97, .inl (cZ g, 576, .inl (fun _ => 0))) := (hU32.2 _ (by omega)).trans n97
  replace n106 : w32[q + 13]? = some (a106, .inl (cI g, 300, .inl (fun _ => 0))) := (hU32.2 _ (by omega)).trans n106
  replace n115 : w32[q + 14]? = some (a115, .inl (cI g, 300, .inl (fun _ => 0))) := (hU32.2 _ (by omega)).trans n115
  replace n124 : w32[q + 15]? = some (a124, .inl (cI g, 300, .inl (fun _ => 0))) := (hU32.2 _ (by omega)).trans n124
  replace n132 : w32[q + 16]? = some (a132, .inl (cL g, 24, .inr (.inl (fun _ => 0)))) := (hU32.2 _ (by omega)).trans n132
  replace hQ := hQ.up hU32 (by omega)
  replace hlen := (hU32.len o9).trans hlen
  refine lv_aload_n hx hb d_Mo_init_137 rfl (lv_at hl 0 rfl) ?_
  refine lv_sipush (v := 900) hx hb d_Mo_init_138 (by decide) ?_
  clear hU32
  refine x_newa E hP hD hS (ty := .int) rfl wa_int (cls := cI g) 0 rfl (fun _ h => by cases h) (N' := 900) (a0 := (900, .inl (fun _ => 0))) (fun _ => rfl) (by decide) (by decide) (by decide) (by decide) (by decide) d_Mo_init_141 (fun a141 w33 H hU33 hL hP hD hS => ?_)
  rw [hlen] at hU33 hL
  have n141 : w33[q + 17]? = some (a141, .inl (cI g, 900, .inl (fun _ => 0))) := hU33.1
  replace e0 : w33[q]? = some (h, .inr (6, [.ref a8, .int 0, .int 0, .int 0, .int 0, .ref a16, .ref a24, .ref a32, .ref a40, .ref a48, .int 0, .ref a56, .ref a64, .ref a72, .ref a80, .ref a88, .ref a97, .int 0, .ref a106, .ref a115, .ref a124, .ref a132, .int 0, .null])) := (hU33.2 _ (by omega)).trans e0
  replace n8 : w33[q + 1]? = some (a8, .inl (cI g, 300, .inl (fun _ => 0))) := (hU33.2 _ (by omega)).trans n8
  replace n16 : w33[q + 2]? = some (a16, .inl (cI g, 24, .inl (fun _ => 0))) := (hU33.2 _ (by omega)).trans n16
  replace n24 : w33[q + 3]? = some (a24, .inl (cI g, 24, .inl (fun _ => 0))) := (hU33.2 _ (by omega)).trans n24
  replace n32 : w33[q + 4]? = some (a32, .inl (cI g, 24, .inl (fun _ => 0))) := (hU33.2 _ (by omega)).trans n32
  replace n40 : w33[q + 5]? = some (a40, .inl (cI g, 24, .inl (fun _ => 0))) := (hU33.2 _ (by omega)).trans n40
  replace n48 : w33[q + 6]? = some (a48, .inl (cI g, 48, .inl (fun _ => 0))) := (hU33.2 _ (by omega)).trans n48
  replace n56 : w33[q + 7]? = some (a56, .inl (cI g, 24, .inl (fun _ => 0))) := (hU33.2 _ (by omega)).trans n56
  replace n64 : w33[q + 8]? = some (a64, .inl (cI g, 24, .inl (fun _ => 0))) := (hU33.2 _ (by omega)).trans n64
  replace n72 : w33[q + 9]? = some (a72, .inl (cI g, 24, .inl (fun _ => 0))) := (hU33.2 _ (by omega)).trans n72
  replace n80 : w33[q + 10]? = some (a80, .inl (cI g, 24, .inl (fun _ => 0))) := (hU33.2 _ (by omega)).trans n80
  replace n88 : w33[q + 11]? = some (a88, .inl (cI g, 48, .inl (fun _ => 0))) := (hU33.2 _ (by omega)).trans n88
  replace n97 : w33[q + 12]? = some (a97, .inl (cZ g, 576, .inl (fun _ => 0))) := (hU33.2 _ (by omega)).trans n97
  replace n106 : w33[q + 13]? = some (a106, .inl (cI g, 300, .inl (fun _ => 0))) := (hU33.2 _ (by omega)).trans n106
  replace n115 : w33[q + 14]? = some (a115, .inl (cI g, 300, .inl (fun _ => 0))) := (hU33.2 _ (by omega)).trans n115
  replace n124 : w33[q + 15]? = some (a124, .inl (cI g, 300, .inl (fun _ => 0))) := (hU33.2 _ (by omega)).trans n124
  replace n132 : w33[q + 16]? = some (a132, .inl (cL g, 24, .inr (.inl (fun _ => 0)))) := (hU33.2 _ (by omega)).trans n132
  replace hQ : xQ q (q + 18) ws w33 := fun k hk9 => (hU33.2 k (by omega)).trans (hQ k (by omega))
  replace hlen := hL
  clear hL
  have o9 := e0
  clear hU33
  refine x_putF E hP hD hS e0 rfl cl6_in cl6_ty cl6_nm 23 (by decide) wf_Mo_60 rfl (hin rfl) rfl rfl rfl (Nat.le_of_ble_eq_true rfl) d_Mo_init_143 (fun w34 H locs hU34 hP hD hS => ?_)
  replace e0 : w34[q]? = some (h, .inr (6, [.ref a8, .int 0, .int 0, .int 0, .int 0, .ref a16, .ref a24, .ref a32, .ref a40, .ref a48, .int 0, .ref a56, .ref a64, .ref a72, .ref a80, .ref a88, .ref a97, .int 0, .ref a106, .ref a115, .ref a124, .ref a132, .int 0, .ref a141])) := hU34.1
  replace n8 : w34[q + 1]? = some (a8, .inl (cI g, 300, .inl (fun _ => 0))) := (hU34.2 _ (by omega)).trans n8
  replace n16 : w34[q + 2]? = some (a16, .inl (cI g, 24, .inl (fun _ => 0))) := (hU34.2 _ (by omega)).trans n16
  replace n24 : w34[q + 3]? = some (a24, .inl (cI g, 24, .inl (fun _ => 0))) := (hU34.2 _ (by omega)).trans n24
  replace n32 : w34[q + 4]? = some (a32, .inl (cI g, 24, .inl (fun _ => 0))) := (hU34.2 _ (by omega)).trans n32
  replace n40 : w34[q + 5]? = some (a40, .inl (cI g, 24, .inl (fun _ => 0))) := (hU34.2 _ (by omega)).trans n40
  replace n48 : w34[q + 6]? = some (a48, .inl (cI g, 48, .inl (fun _ => 0))) := (hU34.2 _ (by omega)).trans n48
  replace n56 : w34[q + 7]? = some (a56, .inl (cI g, 24, .inl (fun _ => 0))) := (hU34.2 _ (by omega)).trans n56
  replace n64 : w34[q + 8]? = some (a64, .inl (cI g, 24, .inl (fun _ => 0))) := (hU34.2 _ (by omega)).trans n64
  replace n72 : w34[q + 9]? = some (a72, .inl (cI g, 24, .inl (fun _ => 0))) := (hU34.2 _ (by omega)).trans n72
  replace n80 : w34[q + 10]? = some (a80, .inl (cI g, 24, .inl (fun _ => 0))) := (hU34.2 _ (by omega)).trans n80
  replace n88 : w34[q + 11]? = some (a88, .inl (cI g, 48, .inl (fun _ => 0))) := (hU34.2 _ (by omega)).trans n88
  replace n97 : w34[q + 12]? = some (a97, .inl (cZ g, 576, .inl (fun _ => 0))) := (hU34.2 _ (by omega)).trans n97
  replace n106 : w34[q + 13]? = some (a106, .inl (cI g, 300, .inl (fun _ => 0))) := (hU34.2 _ (by omega)).trans n106
  replace n115 : w34[q + 14]? = some (a115, .inl (cI g, 300, .inl (fun _ => 0))) := (hU34.2 _ (by omega)).trans n115
  replace n124 : w34[q + 15]? = some (a124, .inl (cI g, 300, .inl (fun _ => 0))) := (hU34.2 _ (by omega)).trans n124
  replace n132 : w34[q + 16]? = some (a132, .inl (cL g, 24, .inr (.inl (fun _ => 0)))) := (hU34.2 _ (by omega)).trans n132
  replace n141 : w34[q + 17]? = some (a141, .inl (cI g, 900, .inl (fun _ => 0))) := (hU34.2 _ (by omega)).trans n141
  replace hQ := hQ.up hU34 (by omega)
  replace hlen := (hU34.len o9).trans hlen
  exact x_rv E hr hS ⟨by omega, hQ, fun i => [a8, a16, a24, a32, a40, a48, a56, a64, a72, a80, a88, a97, a106, a115, a124, a132, a141].getD i 0, e0, n8, n16, n24, n32, n40, n48, n56, n64, n72, n80, n88, n97, n106, n115, n124, n132, n141⟩ hP hD d_Mo_init_146
