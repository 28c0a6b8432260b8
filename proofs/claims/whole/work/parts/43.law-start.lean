theorem lw_inv0 {ix1 ix2 : Nat → Int32} (hx1 : ∀ j, j < 30 → ix1 j = -1) : Inv ((fun _ => 0, 0), (fun _ => 0, 0), 0, fun _ _ => 0, (fun _ _ => 0, 0), (fun _ _ => 0, ix1, 0), (fun _ _ => 0, ix2, 0)) 0 0 0 0 (fun _ => 0) (fun _ => 0) (fun _ => 0) (fun _ => 0) (fun _ => 0) (fun _ => 0) (fun _ => 0) (fun _ => 0) (fun _ => 0) (fun _ => 0) (fun _ => 0) := by
  refine ⟨⟨rfl, by omega, fun j hj => absurd hj (Nat.not_lt_zero _)⟩, ⟨⟨rfl, rfl, fun j hj => absurd hj (Nat.not_lt_zero _)⟩, by omega⟩, ⟨rfl, by omega, fun i hi => absurd hi (Nat.not_lt_zero _), fun i hi => absurd hi (Nat.not_lt_zero _), fun x hx => hx1 x hx, Nat.zero_le _⟩, fun i j hi hj => absurd hi (Nat.not_lt_zero _), ⟨⟨rfl, fun j hj => absurd hj (Nat.not_lt_zero _)⟩, by omega, fun _ => rfl⟩⟩
set_option maxRecDepth 100000 in
set_option maxHeartbeats 4000000 in
/-- YOUR PART: from the entry, for every script of at most 2048 ints, the law comes to its end with true -/
theorem whole_start {p : Program} {e : Env} {s : State} {m : MethodId} {below : List Frame} {meth : Method} {c : Code} (l : Launch) {b L : Nat} {xs : Nat → Int32} (hL : L ≤ 2048) (C0 : lw_At p s m meth c b L xs) : W p l e room_1 s m #[Value.ref b] below meth c s.heap [] 0 0 (lw_Z below #[Value.ref b] s) (entryFrame m ([Value.ref b] : List Value).toArray 4) := by
  obtain ⟨g, E⟩ := lw_env C0
  obtain ⟨hx, hb, hml, hown, hts, hK, hZ, hb0, hlocks⟩ := id E
  obtain ⟨ws, hws⟩ : ∃ ws : va_W, ws = [] := ⟨[], rfl⟩
  have hlen : ws.length = 0 := by rw [hws]; rfl
  have hP : va_P (xD g) vwCl ws s.heap := by rw [hws]; exact fun k q h => by simp at h
  have hD : va_D (xA s.heap.size) ws := by rw [hws]; exact ⟨fun i j p q h => by simp at h, fun k q h => by simp at h⟩
  have hS : va_S (xA s.heap.size) s.heap s.heap [] := va_S.rf
  have hQ : xQ 0 0 ws ws := xQ.rf
  have hl := lv_entry ([.ref b]) (n := 4) (Nat.le_of_ble_eq_true rfl)
  rw [lg_entry_eq]
  generalize (lg_sl ([.ref b]) ++ List.replicate (4 - (lg_sl ([.ref b])).length) Slot.unset).toArray = ls at hl ⊢
  have hl : lv_has ls 4 [(0, .ref b)] := hl
  have hL0 := hL
  refine x_new E hP hD hS (ci := 0) (fs := [.null, .null, .null, .null, .null, .null]) rfl cl0_in cl0_ty wk_Lw_7 wn_MT wc_MT (fun j hj => by rcases (show j = 0 ∨ j = 1 ∨ j = 2 ∨ j = 3 ∨ j = 4 ∨ j = 5 by omega) with rfl | rfl | rfl | rfl | rfl | rfl <;> rfl) (by decide) (by decide) d_Lw_law_0 (fun a0 w1 H hU1 hL hP hD hS => ?_)
  rw [hlen] at hU1 hL
  have n0 : w1[0]? = some (a0, .inr (0, [.null, .null, .null, .null, .null, .null])) := hU1.1
  have hQ : xQ 0 (0 + 1) ws w1 := fun k hk9 => (hU1.2 k (by omega)).trans (hQ k (by omega))
  have hlen := hL
  refine lv_dup hx hb d_Lw_law_3 rfl ?_
  refine x_cI (As := []) (rest := [.ref a0]) E (c_MT_init l g s.heap.size _ hlen n0) wy_MT_init wl_Lw_9 hP hD hS hl.1 ⟨by decide, by decide⟩ ⟨by decide, by decide⟩ rfl (Nat.le_of_ble_eq_true rfl) d_Lw_law_4 (fun w2 H locs hr4 hP hD hS => ?_)
  obtain ⟨hL, ix1, ix2, eC, hx1, hx2⟩ := hr4
  have hlen := hL
  have hQ : xQ 0 55 ws w2 := fun k hk => by
    rw [List.getElem?_eq_none (by omega), hws]
    rfl
  refine lv_astore_n (lv' := [(1, .ref a0), (0, .ref b)]) hx hb d_Lw_law_7 rfl hl (by decide) rfl (fun ls hl => ?_)
  refine x_new E hP hD hS (ci := 6) (fs := [.null, .int 0, .int 0, .int 0, .int 0, .null, .null, .null, .null, .null, .int 0, .null, .null, .null, .null, .null, .null, .int 0, .null, .null, .null, .null, .int 0, .null]) rfl cl6_in cl6_ty wk_Lw_10 wn_Mo wc_Mo (fun j hj => by rcases (show j = 0 ∨ j = 1 ∨ j = 2 ∨ j = 3 ∨ j = 4 ∨ j = 5 ∨ j = 6 ∨ j = 7 ∨ j = 8 ∨ j = 9 ∨ j = 10 ∨ j = 11 ∨ j = 12 ∨ j = 13 ∨ j = 14 ∨ j = 15 ∨ j = 16 ∨ j = 17 ∨ j = 18 ∨ j = 19 ∨ j = 20 ∨ j = 21 ∨ j = 22 ∨ j = 23 by omega) with rfl | rfl | rfl | rfl | rfl | rfl | rfl | rfl | rfl | rfl | rfl | rfl | rfl | rfl | rfl | rfl | rfl | rfl | rfl | rfl | rfl | rfl | rfl | rfl <;> rfl) (by decide) (by decide) d_Lw_law_8 (fun a8 w3 H hU3 hL hP hD hS => ?_)
  rw [hlen] at hU3 hL
  have n8 : w3[55]? = some (a8, .inr (6, [.null, .int 0, .int 0, .int 0, .int 0, .null, .null, .null, .null, .null, .int 0, .null, .null, .null, .null, .null, .null, .int 0, .null, .null, .null, .null, .int 0, .null])) := hU3.1
  have eC : xCl g w3 a0 ((fun _ => 0, 0), (fun _ => 0, 0), 0, fun _ _ => 0, (fun _ _ => 0, 0), (fun _ _ => 0, ix1, 0), (fun _ _ => 0, ix2, 0)) := eC.kp (fun i hi => hU3.2 i (by omega))
  have hQ : xQ 0 (55 + 1) ws w3 := fun k hk9 => (hU3.2 k (by omega)).trans (hQ k (by omega))
  have hlen := hL
  refine lv_dup hx hb d_Lw_law_11 rfl ?_
  refine x_cI (As := []) (rest := [.ref a8]) E (c_Mo_init l g s.heap.size _ (q := 55) hlen n8) wy_Mo_init wl_Lw_12 hP hD hS hl.1 ⟨by decide, by decide⟩ ⟨by decide, by decide⟩ rfl (Nat.le_of_ble_eq_true rfl) d_Lw_law_12 (fun w4 H locs hr12 hP hD hS => ?_)
  obtain ⟨hL, hq, ad, eB⟩ := hr12
  have eC := eC.kp (fun k hk => hq k (by omega))
  refine lv_astore_n (lv' := [(2, .ref a8), (1, .ref a0), (0, .ref b)]) hx hb d_Lw_law_15 rfl hl (by decide) rfl (fun ls hl => ?_)
  refine lv_iconst (v := 0) hx hb d_Lw_law_16 (by decide) ?_
  refine lv_istore_n (lv' := [(3, .int 0), (2, .ref a8), (1, .ref a0), (0, .ref b)]) hx hb d_Lw_law_17 rfl hl (by decide) rfl (fun ls hl => ?_)
  exact law_loop l hL0 C0 E (Nat.le_refl _) (L + 1) 0 _ 0 0 0 0 0 0 0 (fun _ => 0) (fun _ => 0) (fun _ => 0) (fun _ => 0) (fun _ => 0) (fun _ => 0) (fun _ => 0) (fun _ => 0) (fun _ => 0) (fun _ => 0) (fun _ => 0) (fun _ => 0) (fun _ => 0) (fun _ => 0) (fun _ => 0) (fun _ => 0) (fun _ => 0) _ _ _ _ (by omega) (by omega) ⟨Nat.zero_le _, Nat.zero_le _, Nat.zero_le _, Nat.zero_le _, Nat.zero_le _, Nat.zero_le _⟩ (lw_inv0 hx1) hl hP hD hS eC eB
