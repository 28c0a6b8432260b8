def mo_fd (f : Nat → Int32) (x : Int32) : Nat → Nat → Int32
  | 0, _ => -1
  | c + 1, i => if f i = x then nI i else mo_fd f x c (i + 1)
def mo_find (f : Nat → Int32) (m : Nat) (x : Int32) : Int32 := mo_fd f x m 0
theorem mo_fd_in (f : Nat → Int32) (x : Int32) : ∀ c i : Nat, (mo_fd f x c i = -1 ∧ ∀ b, i ≤ b → b < i + c → ¬ f b = x) ∨ ∃ b, i ≤ b ∧ b < i + c ∧ mo_fd f x c i = nI b ∧ f b = x ∧ ∀ b', i ≤ b' → b' < b → ¬ f b' = x
  | 0, i => Or.inl ⟨rfl, fun b h1 h2 => absurd h2 (by omega)⟩
  | c + 1, i => by
    unfold mo_fd
    split
    · rename_i h
      exact Or.inr ⟨i, Nat.le_refl _, by omega, rfl, h, fun b' h1 h2 => absurd h2 (by omega)⟩
    · rename_i h
      rcases mo_fd_in f x c (i + 1) with ⟨h1, h2⟩ | ⟨b, h1, h2, h3, h4, h5⟩
      · refine Or.inl ⟨h1, fun b h3 h4 => ?_⟩
        by_cases e : b = i
        · rw [e]; exact h
        · exact h2 b (by omega) (by omega)
      · refine Or.inr ⟨b, by omega, by omega, h3, h4, fun b' h6 h7 => ?_⟩
        by_cases e : b' = i
        · rw [e]; exact h
        · exact h5 b' (by omega) h7
theorem mo_find_in (f : Nat → Int32) (m : Nat) (x : Int32) : mo_find f m x = -1 ∨ ∃ b, b < m ∧ mo_find f m x = nI b := by
  rcases mo_fd_in f x m 0 with ⟨h, -⟩ | ⟨b, -, h1, h2, -⟩
  · exact Or.inl h
  · exact Or.inr ⟨b, by omega, h2⟩
def mo_tg (f7 f10 : Nat → Int32) (m a j : Nat) : Int32 := if f10 (2 * a + j) = -1 then -1 else mo_find f7 m (f10 (2 * a + j))
theorem mo_tg_in (f7 f10 : Nat → Int32) (m a j : Nat) : mo_tg f7 f10 m a j = -1 ∨ ∃ b, b < m ∧ mo_tg f7 f10 m a j = nI b := by
  unfold mo_tg
  split
  · exact Or.inl rfl
  · exact mo_find_in f7 m _
def mo_l2 (f7 f10 : Nat → Int32) (m a : Nat) (j : Nat) (L : Nat → Int32) : Nat → Int32 := if mo_tg f7 f10 m a j = -1 then L else upd L (24 * a + (mo_tg f7 f10 m a j).toNatClampNeg) 1
def mo_l1 (f7 f10 : Nat → Int32) (m : Nat) (a : Nat) (L : Nat → Int32) : Nat → Int32 := it (mo_l2 f7 f10 m a) 2 L
def mo_v3 (L : Nat → Int32) (o a b : Nat) : Int32 := if L (24 * a + b) = 0 then (if L (24 * a + o) = 0 then 0 else if L (24 * o + b) = 0 then 0 else 1) else 1
def mo_w3 (o a : Nat) (b : Nat) (L : Nat → Int32) : Nat → Int32 := upd L (24 * a + b) (mo_v3 L o a b)
def mo_w2 (m o : Nat) (a : Nat) (L : Nat → Int32) : Nat → Int32 := it (mo_w3 o a) m L
def mo_w1 (m : Nat) (o : Nat) (L : Nat → Int32) : Nat → Int32 := it (mo_w2 m o) m L
def mo_lay (f7 f10 : Nat → Int32) (m : Nat) (L : Nat → Int32) : Nat → Int32 := it (mo_w1 m) m (it (mo_l1 f7 f10 m) m L)
def mo_gs (f6 f8 f11 : Nat → Int32) (t : Nat) (k : Nat) (v : Int32) : Int32 := if f6 k = 0 then (if f11 (24 * k + t) = 0 then v else if v = -1 then f8 k else if v ≤ f8 k then v else f8 k) else v
def mo_gap (f6 f8 f11 : Nat → Int32) (m t : Nat) : Int32 := it (mo_gs f6 f8 f11 t) m (-1)
set_option maxRecDepth 100000 in
set_option maxHeartbeats 4000000 in
theorem c_Mo_find (l : Launch) (g : xG) (b0 : Nat) (ws : va_W) {q h : Nat} {ad : Nat → Nat} {s0 s1 s2 s3 s5 s6 : Int32} {f0 f1 f2 f3 f4 f5 f6 f7 f8 f9 f10 f11 f12 f13 f14 f16 : Nat → Int32} {f15 : Nat → Int64} {m9 : Nat} (eB : xMo g ws q h ad s0 s1 s2 s3 (nI m9) s5 s6 f0 f1 f2 f3 f4 f5 f6 f7 f8 f9 f10 f11 f12 f13 f14 f15 f16) (hm9 : m9 ≤ 24) (x : Int32) : xRi l g b0 y_Mo_find b_Mo_find 3 (some .int) 0 [.ref h, .int x] ws (fun r => r = mo_find f7 m9 x) := by
  unfold xRi
  refine x_in (by decide) (Nat.le_of_ble_eq_true rfl) ?_
  intro p e s m below meth c ls E hr hin hP hD hl
  obtain ⟨hx, hb, hml, hown, hts, hK, hZ, hb0, hlocks⟩ := id E
  have hS : va_S (xA b0) s.heap s.heap [] := va_S.rf
  have hl : lv_has ls 3 [(0, .ref h), (1, .int x)] := hl
  refine lv_iconst (v := 0) hx hb d_Mo_find_0 (by decide) ?_
  refine lv_istore_n (lv' := [(2, .int 0), (0, .ref h), (1, .int x)]) hx hb d_Mo_find_1 rfl hl (by decide) rfl (fun ls hl => ?_)
  have loop : ∀ (fu i : Nat)  (ls : Array Slot), (m9 < i + fu) → (i ≤ m9) → (mo_find f7 m9 x = mo_fd f7 x (m9 - i) i) → (lv_has ls 3 [(2, .int (nI i)), (0, .ref h), (1, .int x)]) → W p l e (rmL 0) s m ([.ref h, .int x] : List Value).toArray below meth c s.heap [] 0 0 (MQ below (vp_Si (fun r => r = mo_find f7 m9 x)) ([.ref h, .int x] : List Value).toArray s 0 0 (fun _ => False)) (F0 m 2 ls []) := by
    intro fu
    induction fu with
    | zero =>
      intro i ls hk hi hv hl
      omega
    | succ fu ih =>
      intro i ls hk hi hv hl
      refine lv_iload_n hx hb d_Mo_find_2 rfl (lv_at hl 0 rfl) ?_
      refine lv_aload_n hx hb d_Mo_find_3 rfl (lv_at hl 1 rfl) ?_
      refine x_get E hP eB.1 rfl cl6_in 10 (by decide) wf_Mo_101 rfl d_Mo_find_4 ?_
      refine lv_icmp_ge (tgt := 28) hx hb d_Mo_find_7 (by decide) (fun c7 => ?_) (fun c7 => ?_)
      · have hi9 : m9 ≤ i := (nI_leI (by omega) (by omega)).mp c7
        refine lv_iconst (v := (-1)) hx hb d_Mo_find_28 (by decide) ?_
        exact x_pi E hr (by rw [hv, show m9 - i = 0 by omega]; rfl) d_Mo_find_29
      · have hi9 : i < m9 := Nat.not_le.mp fun h => c7 (nI_le h (by omega))
        rw [show m9 - i = (m9 - (i + 1)) + 1 by omega] at hv
        refine lv_aload_n hx hb d_Mo_find_10 rfl (lv_at hl 1 rfl) ?_
        refine x_get E hP eB.1 rfl cl6_in 12 (by decide) wf_Mo_31 rfl d_Mo_find_11 ?_
        refine lv_iload_n hx hb d_Mo_find_14 rfl (lv_at hl 0 rfl) ?_
        refine x_iald E hP eB.2.2.2.2.2.2.2.2.1 (j := i) rfl (by omega) (by decide) d_Mo_find_15 ?_
        refine lv_iload_n hx hb d_Mo_find_16 rfl (lv_at hl 2 rfl) ?_
        refine lv_icmp_ne (tgt := 22) hx hb d_Mo_find_17 (by decide) (fun c17 => ?_) (fun c17 => ?_)
        · refine lv_iinc (v := nI (i + 1)) (lv' := [(2, .int (nI (i + 1))), (0, .ref h), (1, .int x)]) hx hb d_Mo_find_22 hl (k := 0) rfl (nI_1 i) (by decide) rfl (fun ls hl => ?_)
          refine lv_goto (tgt := 2) hx hb d_Mo_find_25 (by decide) ?_
          exact ih (i + 1) _ (by omega) (by omega) (by rw [hv, mo_fd, if_neg c17]) hl
        · refine lv_iload_n hx hb d_Mo_find_20 rfl (lv_at hl 0 rfl) ?_
          exact x_pi E hr (by rw [hv, mo_fd, if_pos c17]) d_Mo_find_21
  exact loop (m9 + 1) 0 _ (by omega) (by omega) rfl hl
set_option maxRecDepth 100000 in
set_option maxHeartbeats 4000000 in
theorem c_Mo_target (l : Launch) (g : xG) (b0 : Nat) (ws : va_W) {q h : Nat} {ad : Nat → Nat} {s0 s1 s2 s3 s5 s6 : Int32} {f0 f1 f2 f3 f4 f5 f6 f7 f8 f9 f10 f11 f12 f13 f14 f16 : Nat → Int32} {f15 : Nat → Int64} {m9 : Nat} (eB : xMo g ws q h ad s0 s1 s2 s3 (nI m9) s5 s6 f0 f1 f2 f3 f4 f5 f6 f7 f8 f9 f10 f11 f12 f13 f14 f15 f16) (hm9 : m9 ≤ 24) (x y : Int32) (t j : Nat) (hx0 : x = nI t) (hy0 : y = nI j) (ht : t < 24) (hj : j < 2) : xRi l g b0 y_Mo_target b_Mo_target 3 (some .int) 1 [.ref h, .int x, .int y] ws (fun r => r = mo_tg f7 f10 m9 t j) := by
  unfold xRi
  refine x_in (by decide) (Nat.le_of_ble_eq_true rfl) ?_
  intro p e s m below meth c ls E hr hin hP hD hl
  obtain ⟨hx, hb, hml, hown, hts, hK, hZ, hb0, hlocks⟩ := id E
  have hS : va_S (xA b0) s.heap s.heap [] := va_S.rf
  have hl : lv_has ls 3 [(0, .ref h), (1, .int x), (2, .int y)] := hl
  refine lv_aload_n hx hb d_Mo_target_0 rfl (lv_at hl 0 rfl) ?_
  refine x_get E hP eB.1 rfl cl6_in 15 (by decide) wf_Mo_40 rfl d_Mo_target_1 ?_
  refine lv_iconst (v := 2) hx hb d_Mo_target_4 (by decide) ?_
  refine lv_iload_n hx hb d_Mo_target_5 rfl (lv_at hl 1 rfl) ?_
  refine lv_imul hx hb d_Mo_target_6 ?_
  refine lv_iload_n hx hb d_Mo_target_7 rfl (lv_at hl 2 rfl) ?_
  refine lv_iadd hx hb d_Mo_target_8 ?_
  refine x_top (y := nI (2 * t + j)) (by rw [hx0, hy0]; exact (congrArg (· + nI j) (pk_mul 2 t)).trans (nI_add (2 * t) j)) ?_
  refine x_iald E hP eB.2.2.2.2.2.2.2.2.2.2.2.1 (j := 2 * t + j) rfl (by omega) (by decide) d_Mo_target_9 ?_
  refine lv_iconst (v := (-1)) hx hb d_Mo_target_10 (by decide) ?_
  refine lv_icmp_ne (tgt := 18) hx hb d_Mo_target_11 (by decide) (fun c11 => ?_) (fun c11 => ?_)
  · refine lv_aload_n hx hb d_Mo_target_18 rfl (lv_at hl 0 rfl) ?_
    refine lv_aload_n hx hb d_Mo_target_19 rfl (lv_at hl 0 rfl) ?_
    refine x_get E hP eB.1 rfl cl6_in 15 (by decide) wf_Mo_40 rfl d_Mo_target_20 ?_
    refine lv_iconst (v := 2) hx hb d_Mo_target_23 (by decide) ?_
    refine lv_iload_n hx hb d_Mo_target_24 rfl (lv_at hl 1 rfl) ?_
    refine lv_imul hx hb d_Mo_target_25 ?_
    refine lv_iload_n hx hb d_Mo_target_26 rfl (lv_at hl 2 rfl) ?_
    refine lv_iadd hx hb d_Mo_target_27 ?_
    refine x_top (y := nI (2 * t + j)) (by rw [hx0, hy0]; exact (congrArg (· + nI j) (pk_mul 2 t)).trans (nI_add (2 * t) j)) ?_
    refine x_iald E hP eB.2.2.2.2.2.2.2.2.2.2.2.1 (j := 2 * t + j) rfl (by omega) (by decide) d_Mo_target_28 ?_
    refine x_cRi (As := [.int (f10 (2 * t + j))]) (rest := []) E (c_Mo_find l g b0 _ eB hm9 (f10 (2 * t + j))) wy_Mo_find wl_Mo_110 hP hD hS eB.1 rfl hl.1 ⟨by decide, by decide⟩ ⟨Nat.le_refl _, Nat.le_refl _⟩ rfl (Nat.le_of_ble_eq_true rfl) d_Mo_target_29 (fun r29 hr29 => ?_)
    subst hr29
    exact x_pi E hr (by rw [mo_tg, if_neg c11]) d_Mo_target_32
  · refine lv_iconst (v := (-1)) hx hb d_Mo_target_14 (by decide) ?_
    refine lv_goto (tgt := 32) hx hb d_Mo_target_15 (by decide) ?_
    exact x_pi E hr (by rw [mo_tg, if_pos c11]) d_Mo_target_32
set_option maxRecDepth 100000 in
set_option maxHeartbeats 4000000 in
theorem c_Mo_gapOf (l : Launch) (g : xG) (b0 : Nat) (ws : va_W) {q h : Nat} {ad : Nat → Nat} {s0 s1 s2 s3 s5 s6 : Int32} {f0 f1 f2 f3 f4 f5 f6 f7 f8 f9 f10 f11 f12 f13 f14 f16 : Nat → Int32} {f15 : Nat → Int64} {m9 : Nat} (eB : xMo g ws q h ad s0 s1 s2 s3 (nI m9) s5 s6 f0 f1 f2 f3 f4 f5 f6 f7 f8 f9 f10 f11 f12 f13 f14 f15 f16) (hm9 : m9 ≤ 24) (x : Int32) (t : Nat) (hx0 : x = nI t) (ht : t < 24) : xRi l g b0 y_Mo_gapOf b_Mo_gapOf 4 (some .int) 0 [.ref h, .int x] ws (fun r => r = mo_gap f6 f8 f11 m9 t) := by
  unfold xRi
  refine x_in (by decide) (Nat.le_of_ble_eq_true rfl) ?_
  intro p e s m below meth c ls E hr hin hP hD hl
  obtain ⟨hx, hb, hml, hown, hts, hK, hZ, hb0, hlocks⟩ := id E
  have hS : va_S (xA b0) s.heap s.heap [] := va_S.rf
  have hl : lv_has ls 4 [(0, .ref h), (1, .int x)] := hl
  refine lv_iconst (v := (-1)) hx hb d_Mo_gapOf_0 (by decide) ?_
  refine lv_istore_n (lv' := [(2, .int (-1)), (0, .ref h), (1, .int x)]) hx hb d_Mo_gapOf_1 rfl hl (by decide) rfl (fun ls hl => ?_)
  refine lv_iconst (v := 0) hx hb d_Mo_gapOf_2 (by decide) ?_
  refine lv_istore_n (lv' := [(3, .int 0), (2, .int (-1)), (0, .ref h), (1, .int x)]) hx hb d_Mo_gapOf_3 rfl hl (by decide) rfl (fun ls hl => ?_)
  have loop : ∀ (fu i : Nat) (v : Int32) (ls : Array Slot), (m9 < i + fu) → (i ≤ m9) → (v = it (mo_gs f6 f8 f11 t) i (-1)) → (lv_has ls 4 [(3, .int (nI i)), (2, .int v), (0, .ref h), (1, .int x)]) → W p l e (rmL 0) s m ([.ref h, .int x] : List Value).toArray below meth c s.heap [] 0 0 (MQ below (vp_Si (fun r => r = mo_gap f6 f8 f11 m9 t)) ([.ref h, .int x] : List Value).toArray s 0 0 (fun _ => False)) (F0 m 4 ls []) := by
    intro fu
    induction fu with
    | zero =>
      intro i v ls hk hi hv hl
      omega
    | succ fu ih =>
      intro i v ls hk hi hv hl
      refine lv_iload_n hx hb d_Mo_gapOf_4 rfl (lv_at hl 0 rfl) ?_
      refine lv_aload_n hx hb d_Mo_gapOf_5 rfl (lv_at hl 2 rfl) ?_
      refine x_get E hP eB.1 rfl cl6_in 10 (by decide) wf_Mo_101 rfl d_Mo_gapOf_6 ?_
      refine lv_icmp_ge (tgt := 63) hx hb d_Mo_gapOf_9 (by decide) (fun c9 => ?_) (fun c9 => ?_)
      · have hi9 : m9 ≤ i := (nI_leI (by omega) (by omega)).mp c9
        refine lv_iload_n hx hb d_Mo_gapOf_63 rfl (lv_at hl 1 rfl) ?_
        exact x_pi E hr (by rw [hv, mo_gap, show i = m9 by omega]) d_Mo_gapOf_64
      · have hi9 : i < m9 := Nat.not_le.mp fun h => c9 (nI_le h (by omega))
        refine lv_aload_n hx hb d_Mo_gapOf_12 rfl (lv_at hl 2 rfl) ?_
        refine x_get E hP eB.1 rfl cl6_in 11 (by decide) wf_Mo_28 rfl d_Mo_gapOf_13 ?_
        refine lv_iload_n hx hb d_Mo_gapOf_16 rfl (lv_at hl 0 rfl) ?_
        refine x_iald E hP eB.2.2.2.2.2.2.2.1 (j := i) rfl (by omega) (by decide) d_Mo_gapOf_17 ?_
        refine lv_if_ne (tgt := 57) hx hb d_Mo_gapOf_18 (by decide) (fun c18 => ?_) (fun c18 => ?_)
        · refine lv_iinc (v := nI (i + 1)) (lv' := [(3, .int (nI (i + 1))), (2, .int v), (0, .ref h), (1, .int x)]) hx hb d_Mo_gapOf_57 hl (k := 0) rfl (nI_1 i) (by decide) rfl (fun ls hl => ?_)
          refine lv_goto (tgt := 4) hx hb d_Mo_gapOf_60 (by decide) ?_
          exact ih (i + 1) v _ (by omega) (by omega) (by show _ = mo_gs f6 f8 f11 t i (it (mo_gs f6 f8 f11 t) i (-1)); rw [← hv, mo_gs, if_neg c18]) hl
        · refine lv_aload_n hx hb d_Mo_gapOf_21 rfl (lv_at hl 2 rfl) ?_
          refine x_get E hP eB.1 rfl cl6_in 16 (by decide) wf_Mo_43 rfl d_Mo_gapOf_22 ?_
          refine lv_bipush (v := 24) hx hb d_Mo_gapOf_25 (by decide) ?_
          refine lv_iload_n hx hb d_Mo_gapOf_27 rfl (lv_at hl 0 rfl) ?_
          refine lv_imul hx hb d_Mo_gapOf_28 ?_
          refine lv_iload_n hx hb d_Mo_gapOf_29 rfl (lv_at hl 3 rfl) ?_
          refine lv_iadd hx hb d_Mo_gapOf_30 ?_
          refine x_top (y := nI (24 * i + t)) (by rw [hx0]; exact (congrArg (· + nI t) (pk_mul 24 i)).trans (nI_add (24 * i) t)) ?_
          refine x_zald E hP eB.2.2.2.2.2.2.2.2.2.2.2.2.1 (j := 24 * i + t) rfl (by omega) (by decide) d_Mo_gapOf_31 ?_
          refine lv_if_eq (tgt := 57) hx hb d_Mo_gapOf_32 (by decide) (fun c32 => ?_) (fun c32 => ?_)
          · refine lv_iinc (v := nI (i + 1)) (lv' := [(3, .int (nI (i + 1))), (2, .int v), (0, .ref h), (1, .int x)]) hx hb d_Mo_gapOf_57 hl (k := 0) rfl (nI_1 i) (by decide) rfl (fun ls hl => ?_)
            refine lv_goto (tgt := 4) hx hb d_Mo_gapOf_60 (by decide) ?_
            exact ih (i + 1) v _ (by omega) (by omega) (by show _ = mo_gs f6 f8 f11 t i (it (mo_gs f6 f8 f11 t) i (-1)); rw [← hv, mo_gs, if_pos c18, if_pos c32]) hl
          · refine lv_iload_n hx hb d_Mo_gapOf_35 rfl (lv_at hl 1 rfl) ?_
            refine lv_iconst (v := (-1)) hx hb d_Mo_gapOf_36 (by decide) ?_
            refine lv_icmp_eq (tgt := 50) hx hb d_Mo_gapOf_37 (by decide) (fun c37 => ?_) (fun c37 => ?_)
            · refine lv_aload_n hx hb d_Mo_gapOf_50 rfl (lv_at hl 2 rfl) ?_
              refine x_get E hP eB.1 rfl cl6_in 13 (by decide) wf_Mo_34 rfl d_Mo_gapOf_51 ?_
              refine lv_iload_n hx hb d_Mo_gapOf_54 rfl (lv_at hl 0 rfl) ?_
              refine x_iald E hP eB.2.2.2.2.2.2.2.2.2.1 (j := i) rfl (by omega) (by decide) d_Mo_gapOf_55 ?_
              refine lv_istore_n (lv' := [(2, .int (f8 i)), (3, .int (nI i)), (0, .ref h), (1, .int x)]) hx hb d_Mo_gapOf_56 rfl hl (by decide) rfl (fun ls hl => ?_)
              refine lv_iinc (v := nI (i + 1)) (lv' := [(3, .int (nI (i + 1))), (2, .int (f8 i)), (0, .ref h), (1, .int x)]) hx hb d_Mo_gapOf_57 hl (k := 1) rfl (nI_1 i) (by decide) rfl (fun ls hl => ?_)
              refine lv_goto (tgt := 4) hx hb d_Mo_gapOf_60 (by decide) ?_
              exact ih (i + 1) (f8 i) _ (by omega) (by omega) (by show _ = mo_gs f6 f8 f11 t i (it (mo_gs f6 f8 f11 t) i (-1)); rw [← hv, mo_gs, if_pos c18, if_neg c32, if_pos c37]) hl
            · refine lv_aload_n hx hb d_Mo_gapOf_40 rfl (lv_at hl 2 rfl) ?_
              refine x_get E hP eB.1 rfl cl6_in 13 (by decide) wf_Mo_34 rfl d_Mo_gapOf_41 ?_
              refine lv_iload_n hx hb d_Mo_gapOf_44 rfl (lv_at hl 0 rfl) ?_
              refine x_iald E hP eB.2.2.2.2.2.2.2.2.2.1 (j := i) rfl (by omega) (by decide) d_Mo_gapOf_45 ?_
              refine lv_iload_n hx hb d_Mo_gapOf_46 rfl (lv_at hl 1 rfl) ?_
              refine lv_icmp_ge (tgt := 57) hx hb d_Mo_gapOf_47 (by decide) (fun c47 => ?_) (fun c47 => ?_)
              · refine lv_iinc (v := nI (i + 1)) (lv' := [(3, .int (nI (i + 1))), (2, .int v), (0, .ref h), (1, .int x)]) hx hb d_Mo_gapOf_57 hl (k := 0) rfl (nI_1 i) (by decide) rfl (fun ls hl => ?_)
                refine lv_goto (tgt := 4) hx hb d_Mo_gapOf_60 (by decide) ?_
                exact ih (i + 1) v _ (by omega) (by omega) (by show _ = mo_gs f6 f8 f11 t i (it (mo_gs f6 f8 f11 t) i (-1)); rw [← hv, mo_gs, if_pos c18, if_neg c32, if_neg c37, if_pos c47]) hl
              · refine lv_aload_n hx hb d_Mo_gapOf_50 rfl (lv_at hl 2 rfl) ?_
                refine x_get E hP eB.1 rfl cl6_in 13 (by decide) wf_Mo_34 rfl d_Mo_gapOf_51 ?_
                refine lv_iload_n hx hb d_Mo_gapOf_54 rfl (lv_at hl 0 rfl) ?_
                refine x_iald E hP eB.2.2.2.2.2.2.2.2.2.1 (j := i) rfl (by omega) (by decide) d_Mo_gapOf_55 ?_
                refine lv_istore_n (lv' := [(2, .int (f8 i)), (3, .int (nI i)), (0, .ref h), (1, .int x)]) hx hb d_Mo_gapOf_56 rfl hl (by decide) rfl (fun ls hl => ?_)
                refine lv_iinc (v := nI (i + 1)) (lv' := [(3, .int (nI (i + 1))), (2, .int (f8 i)), (0, .ref h), (1, .int x)]) hx hb d_Mo_gapOf_57 hl (k := 1) rfl (nI_1 i) (by decide) rfl (fun ls hl => ?_)
                refine lv_goto (tgt := 4) hx hb d_Mo_gapOf_60 (by decide) ?_
                exact ih (i + 1) (f8 i) _ (by omega) (by omega) (by show _ = mo_gs f6 f8 f11 t i (it (mo_gs f6 f8 f11 t) i (-1)); rw [← hv, mo_gs, if_pos c18, if_neg c32, if_neg c37, if_neg c47]) hl
  exact loop (m9 + 1) 0 (-1) _ (by omega) (by omega) rfl hl
set_option maxRecDepth 100000 in
set_option maxHeartbeats 4000000 in
theorem c_Mo_lay (l : Launch) (g : xG) (b0 : Nat) (ws : va_W) {q h : Nat} {ad : Nat → Nat} {s0 s1 s2 s3 s5 s6 : Int32} {f0 f1 f2 f3 f4 f5 f6 f7 f8 f9 f10 f11 f12 f13 f14 f16 : Nat → Int32} {f15 : Nat → Int64} {m9 : Nat} (eB : xMo g ws q h ad s0 s1 s2 s3 (nI m9) s5 s6 f0 f1 f2 f3 f4 f5 f6 f7 f8 f9 f10 f11 f12 f13 f14 f15 f16) (hm9 : m9 ≤ 24) : xMv l g b0 y_Mo_lay b_Mo_lay 4 2 [.ref h] ws (fun u => xQ q (q + 18) ws u ∧ ∃ Lz, (∀ j, j < 576 → Lz j = 0) ∧ xMo g u q h ad s0 s1 s2 s3 (nI m9) s5 s6 f0 f1 f2 f3 f4 f5 f6 f7 f8 f9 f10 (mo_lay f7 f10 m9 Lz) f12 f13 f14 f15 f16) := by
  unfold xMv
  refine x_in (by decide) (Nat.le_of_ble_eq_true rfl) ?_
  intro p e s m below meth c ls E hr hin hP hD hl
  obtain ⟨hx, hb, hml, hown, hts, hK, hZ, hb0, hlocks⟩ := id E
  have hS : va_S (xA b0) s.heap s.heap [] := va_S.rf
  have hl : lv_has ls 4 [(0, .ref h)] := hl
  have hQ : xQ q (q + 18) ws ws := xQ.rf
  refine lv_iconst (v := 0) hx hb d_Mo_lay_0 (by decide) ?_
  refine lv_istore_n (lv' := [(1, .int 0), (0, .ref h)]) hx hb d_Mo_lay_1 rfl hl (by decide) rfl (fun ls hl => ?_)
  have lb1 : ∀ (fu i : Nat) (Lz : Nat → Int32) (v1 : va_W) (H : Heap) (locs : List Loc) (ls : Array Slot), (m9 < i + fu) → (i ≤ m9) → (∀ j, j < 576 → Lz j = 0) → (lv_has ls 4 [(1, .int (nI i)), (0, .ref h)]) → (va_P (xD g) vwCl v1 H) → (va_D (xA b0) v1) → (va_S (xA b0) s.heap H locs) → (xQ q (q + 18) ws v1) → (xMo g v1 q h ad s0 s1 s2 s3 (nI m9) s5 s6 f0 f1 f2 f3 f4 f5 f6 f7 f8 f9 f10 (it (mo_w1 m9) i (it (mo_l1 f7 f10 m9) m9 Lz)) f12 f13 f14 f15 f16) → W p l e (rmL 2) s m ([.ref h] : List Value).toArray below meth c H locs 0 0 (MQ below (va_Qv (fun u => xQ q (q + 18) ws u ∧ ∃ Lz, (∀ j, j < 576 → Lz j = 0) ∧ xMo g u q h ad s0 s1 s2 s3 (nI m9) s5 s6 f0 f1 f2 f3 f4 f5 f6 f7 f8 f9 f10 (mo_lay f7 f10 m9 Lz) f12 f13 f14 f15 f16) (fun u t => va_P (xD g) vwCl u t.heap ∧ va_D (xA b0) u) (xA b0)) ([.ref h] : List Value).toArray s 0 0 (xA b0)) (F0 m 80 ls []) := by
    intro fu
    induction fu with
    | zero =>
      intro i Lz v1 H locs ls hk hi hz hl hP hD hS hQ eB
      omega
    | succ fu ih =>
      intro i Lz v1 H locs ls hk hi hz hl hP hD hS hQ eB
      refine lv_iload_n hx hb d_Mo_lay_80 rfl (lv_at hl 0 rfl) ?_
      refine lv_aload_n hx hb d_Mo_lay_81 rfl (lv_at hl 1 rfl) ?_
      refine x_get E hP eB.1 rfl cl6_in 10 (by decide) wf_Mo_101 rfl d_Mo_lay_82 ?_
      refine lv_icmp_ge (tgt := 184) hx hb d_Mo_lay_85 (by decide) (fun c85 => ?_) (fun c85 => ?_)
      · have hi9 : m9 ≤ i := (nI_leI (by omega) (by omega)).mp c85
        rw [show i = m9 by omega] at eB
        exact x_rv E hr hS ⟨hQ, Lz, hz, eB⟩ hP hD d_Mo_lay_184
      · have hi9 : i < m9 := Nat.not_le.mp fun h => c85 (nI_le h (by omega))
        refine lv_iconst (v := 0) hx hb d_Mo_lay_88 (by decide) ?_
        refine lv_istore_n (lv' := [(2, .int 0), (1, .int (nI i)), (0, .ref h)]) hx hb d_Mo_lay_89 rfl hl (by decide) rfl (fun ls hl => ?_)
        have lb2 : ∀ (fv a : Nat)  (v2 : va_W) (H : Heap) (locs : List Loc) (ls : Array Slot), (m9 < a + fv) → (a ≤ m9) → (lv_has ls 4 [(2, .int (nI a)), (1, .int (nI i)), (0, .ref h)]) → (va_P (xD g) vwCl v2 H) → (va_D (xA b0) v2) → (va_S (xA b0) s.heap H locs) → (xQ q (q + 18) ws v2) → (xMo g v2 q h ad s0 s1 s2 s3 (nI m9) s5 s6 f0 f1 f2 f3 f4 f5 f6 f7 f8 f9 f10 (it (mo_w2 m9 i) a (it (mo_w1 m9) i (it (mo_l1 f7 f10 m9) m9 Lz))) f12 f13 f14 f15 f16) → W p l e (rmL 2) s m ([.ref h] : List Value).toArray below meth c H locs 0 0 (MQ below (va_Qv (fun u => xQ q (q + 18) ws u ∧ ∃ Lz, (∀ j, j < 576 → Lz j = 0) ∧ xMo g u q h ad s0 s1 s2 s3 (nI m9) s5 s6 f0 f1 f2 f3 f4 f5 f6 f7 f8 f9 f10 (mo_lay f7 f10 m9 Lz) f12 f13 f14 f15 f16) (fun u t => va_P (xD g) vwCl u t.heap ∧ va_D (xA b0) u) (xA b0)) ([.ref h] : List Value).toArray s 0 0 (xA b0)) (F0 m 90 ls []) := by
          intro fv
          induction fv with
          | zero =>
            intro a v2 H locs ls hk ha hl hP hD hS hQ eB
            omega
          | succ fv ih2 =>
            intro a v2 H locs ls hk ha hl hP hD hS hQ eB
            refine lv_iload_n hx hb d_Mo_lay_90 rfl (lv_at hl 0 rfl) ?_
            refine lv_aload_n hx hb d_Mo_lay_91 rfl (lv_at hl 2 rfl) ?_
            refine x_get E hP eB.1 rfl cl6_in 10 (by decide) wf_Mo_101 rfl d_Mo_lay_92 ?_
            refine lv_icmp_ge (tgt := 178) hx hb d_Mo_lay_95 (by decide) (fun c95 => ?_) (fun c95 => ?_)
            · have ha8 : m9 ≤ a := (nI_leI (by omega) (by omega)).mp c95
              refine lv_iinc (v := nI (i + 1)) (lv' := [(1, .int (nI (i + 1))), (2, .int (nI a)), (0, .ref h)]) hx hb d_Mo_lay_178 hl (k := 1) rfl (nI_1 i) (by decide) rfl (fun ls hl => ?_)
              refine lv_goto (tgt := 80) hx hb d_Mo_lay_181 (by decide) ?_
              rw [show a = m9 by omega] at eB
              have eB : xMo g _ q h ad s0 s1 s2 s3 (nI m9) s5 s6 f0 f1 f2 f3 f4 f5 f6 f7 f8 f9 f10 (it (mo_w1 m9) (i + 1) (it (mo_l1 f7 f10 m9) m9 Lz)) f12 f13 f14 f15 f16 := eB
              exact ih (i + 1) Lz _ _ _ _ (by omega) (by omega) hz (lv_sub hl [0, 2] rfl) hP hD hS hQ eB
            · have ha8 : a < m9 := Nat.not_le.mp fun h => c95 (nI_le h (by omega))
              refine lv_iconst (v := 0) hx hb d_Mo_lay_98 (by decide) ?_
              refine lv_istore_n (lv' := [(3, .int 0), (2, .int (nI a)), (1, .int (nI i)), (0, .ref h)]) hx hb d_Mo_lay_99 rfl hl (by decide) rfl (fun ls hl => ?_)
              have lb3 : ∀ (fw b : Nat)  (v3 : va_W) (H : Heap) (locs : List Loc) (ls : Array Slot), (m9 < b + fw) → (b ≤ m9) → (lv_has ls 4 [(3, .int (nI b)), (2, .int (nI a)), (1, .int (nI i)), (0, .ref h)]) → (va_P (xD g) vwCl v3 H) → (va_D (xA b0) v3) → (va_S (xA b0) s.heap H locs) → (xQ q (q + 18) ws v3) → (xMo g v3 q h ad s0 s1 s2 s3 (nI m9) s5 s6 f0 f1 f2 f3 f4 f5 f6 f7 f8 f9 f10 (it (mo_w3 i a) b (it (mo_w2 m9 i) a (it (mo_w1 m9) i (it (mo_l1 f7 f10 m9) m9 Lz)))) f12 f13 f14 f15 f16) → W p l e (rmL 2) s m ([.ref h] : List Value).toArray below meth c H locs 0 0 (MQ below (va_Qv (fun u => xQ q (q + 18) ws u ∧ ∃ Lz, (∀ j, j < 576 → Lz j = 0) ∧ xMo g u q h ad s0 s1 s2 s3 (nI m9) s5 s6 f0 f1 f2 f3 f4 f5 f6 f7 f8 f9 f10 (mo_lay f7 f10 m9 Lz) f12 f13 f14 f15 f16) (fun u t => va_P (xD g) vwCl u t.heap ∧ va_D (xA b0) u) (xA b0)) ([.ref h] : List Value).toArray s 0 0 (xA b0)) (F0 m 100 ls []) := by
                intro fw
                induction fw with
                | zero =>
                  intro b v3 H locs ls hk hb9 hl hP hD hS hQ eB
                  omega
                | succ fw ih3 =>
                  intro b v3 H locs ls hk hb9 hl hP hD hS hQ eB
                  have eV : it (mo_w3 i a) (b + 1) (it (mo_w2 m9 i) a (it (mo_w1 m9) i (it (mo_l1 f7 f10 m9) m9 Lz))) = mo_w3 i a b (it (mo_w3 i a) b (it (mo_w2 m9 i) a (it (mo_w1 m9) i (it (mo_l1 f7 f10 m9) m9 Lz)))) := rfl
                  generalize eV0 : it (mo_w3 i a) b (it (mo_w2 m9 i) a (it (mo_w1 m9) i (it (mo_l1 f7 f10 m9) m9 Lz))) = V at eB eV
                  refine lv_iload_n hx hb d_Mo_lay_100 rfl (lv_at hl 0 rfl) ?_
                  refine lv_aload_n hx hb d_Mo_lay_101 rfl (lv_at hl 3 rfl) ?_
                  refine x_get E hP eB.1 rfl cl6_in 10 (by decide) wf_Mo_101 rfl d_Mo_lay_102 ?_
                  refine lv_icmp_ge (tgt := 172) hx hb d_Mo_lay_105 (by decide) (fun c105 => ?_) (fun c105 => ?_)
                  · have hb8 : m9 ≤ b := (nI_leI (by omega) (by omega)).mp c105
                    refine lv_iinc (v := nI (a + 1)) (lv' := [(2, .int (nI (a + 1))), (3, .int (nI b)), (1, .int (nI i)), (0, .ref h)]) hx hb d_Mo_lay_172 hl (k := 1) rfl (nI_1 a) (by decide) rfl (fun ls hl => ?_)
                    refine lv_goto (tgt := 90) hx hb d_Mo_lay_175 (by decide) ?_
                    rw [← eV0, show b = m9 by omega] at eB
                    have eB : xMo g _ q h ad s0 s1 s2 s3 (nI m9) s5 s6 f0 f1 f2 f3 f4 f5 f6 f7 f8 f9 f10 (it (mo_w2 m9 i) (a + 1) (it (mo_w1 m9) i (it (mo_l1 f7 f10 m9) m9 Lz))) f12 f13 f14 f15 f16 := eB
                    exact ih2 (a + 1) _ _ _ _ (by omega) (by omega) (lv_sub hl [0, 2, 3] rfl) hP hD hS hQ eB
                  · have hb8 : b < m9 := Nat.not_le.mp fun h => c105 (nI_le h (by omega))
                    refine lv_aload_n hx hb d_Mo_lay_108 rfl (lv_at hl 3 rfl) ?_
                    refine x_get E hP eB.1 rfl cl6_in 16 (by decide) wf_Mo_43 rfl d_Mo_lay_109 ?_
                    refine lv_bipush (v := 24) hx hb d_Mo_lay_112 (by decide) ?_
                    refine lv_iload_n hx hb d_Mo_lay_114 rfl (lv_at hl 1 rfl) ?_
                    refine lv_imul hx hb d_Mo_lay_115 ?_
                    refine lv_iload_n hx hb d_Mo_lay_116 rfl (lv_at hl 0 rfl) ?_
                    refine lv_iadd hx hb d_Mo_lay_117 ?_
                    refine x_top (y := nI (24 * a + b)) (by exact (congrArg (· + nI b) (pk_mul 24 a)).trans (nI_add (24 * a) b)) ?_
                    refine lv_aload_n hx hb d_Mo_lay_118 rfl (lv_at hl 3 rfl) ?_
                    refine x_get E hP eB.1 rfl cl6_in 16 (by decide) wf_Mo_43 rfl d_Mo_lay_119 ?_
                    refine lv_bipush (v := 24) hx hb d_Mo_lay_122 (by decide) ?_
                    refine lv_iload_n hx hb d_Mo_lay_124 rfl (lv_at hl 1 rfl) ?_
                    refine lv_imul hx hb d_Mo_lay_125 ?_
                    refine lv_iload_n hx hb d_Mo_lay_126 rfl (lv_at hl 0 rfl) ?_
                    refine lv_iadd hx hb d_Mo_lay_127 ?_
                    refine x_top (y := nI (24 * a + b)) (by exact (congrArg (· + nI b) (pk_mul 24 a)).trans (nI_add (24 * a) b)) ?_
                    refine x_zald E hP eB.2.2.2.2.2.2.2.2.2.2.2.2.1 (j := 24 * a + b) rfl (by omega) (by decide) d_Mo_lay_128 ?_
                    refine lv_if_ne (tgt := 160) hx hb d_Mo_lay_129 (by decide) (fun c129 => ?_) (fun c129 => ?_)
                    · refine lv_iconst (v := 1) hx hb d_Mo_lay_160 (by decide) ?_
                      refine lv_goto (tgt := 165) hx hb d_Mo_lay_161 (by decide) ?_
                      refine x_zast E hP hD hS eB.2.2.2.2.2.2.2.2.2.2.2.2.1 (j := 24 * a + b) rfl (by omega) (by decide) rfl d_Mo_lay_165 (fun w151 H locs hU151 hP hD hS => ?_)
                      have eB : xMo g w151 q h ad s0 s1 s2 s3 (nI m9) s5 s6 f0 f1 f2 f3 f4 f5 f6 f7 f8 f9 f10 (upd V (24 * a + b) 1) f12 f13 f14 f15 f16 := eB.a11 hU151
                      have hQ := hQ.up hU151 (by omega)
                      refine lv_iinc (v := nI (b + 1)) (lv' := [(3, .int (nI (b + 1))), (2, .int (nI a)), (1, .int (nI i)), (0, .ref h)]) hx hb d_Mo_lay_166 hl (k := 0) rfl (nI_1 b) (by decide) rfl (fun ls hl => ?_)
                      refine lv_goto (tgt := 100) hx hb d_Mo_lay_169 (by decide) ?_
                      have e7 : upd V (24 * a + b) 1 = it (mo_w3 i a) (b + 1) (it (mo_w2 m9 i) a (it (mo_w1 m9) i (it (mo_l1 f7 f10 m9) m9 Lz))) := by rw [eV, mo_w3, mo_v3, if_neg c129]
                      rw [e7] at eB
                      exact ih3 (b + 1) _ _ _ _ (by omega) (by omega) hl hP hD hS hQ eB
                    · refine lv_aload_n hx hb d_Mo_lay_132 rfl (lv_at hl 3 rfl) ?_
                      refine x_get E hP eB.1 rfl cl6_in 16 (by decide) wf_Mo_43 rfl d_Mo_lay_133 ?_
                      refine lv_bipush (v := 24) hx hb d_Mo_lay_136 (by decide) ?_
                      refine lv_iload_n hx hb d_Mo_lay_138 rfl (lv_at hl 1 rfl) ?_
                      refine lv_imul hx hb d_Mo_lay_139 ?_
                      refine lv_iload_n hx hb d_Mo_lay_140 rfl (lv_at hl 2 rfl) ?_
                      refine lv_iadd hx hb d_Mo_lay_141 ?_
                      refine x_top (y := nI (24 * a + i)) (by exact (congrArg (· + nI i) (pk_mul 24 a)).trans (nI_add (24 * a) i)) ?_
                      refine x_zald E hP eB.2.2.2.2.2.2.2.2.2.2.2.2.1 (j := 24 * a + i) rfl (by omega) (by decide) d_Mo_lay_142 ?_
                      refine lv_if_eq (tgt := 164) hx hb d_Mo_lay_143 (by decide) (fun c143 => ?_) (fun c143 => ?_)
                      · refine lv_iconst (v := 0) hx hb d_Mo_lay_164 (by decide) ?_
                        refine x_zast E hP hD hS eB.2.2.2.2.2.2.2.2.2.2.2.2.1 (j := 24 * a + b) rfl (by omega) (by decide) rfl d_Mo_lay_165 (fun w151 H locs hU151 hP hD hS => ?_)
                        have eB : xMo g w151 q h ad s0 s1 s2 s3 (nI m9) s5 s6 f0 f1 f2 f3 f4 f5 f6 f7 f8 f9 f10 (upd V (24 * a + b) 0) f12 f13 f14 f15 f16 := eB.a11 hU151
                        have hQ := hQ.up hU151 (by omega)
                        refine lv_iinc (v := nI (b + 1)) (lv' := [(3, .int (nI (b + 1))), (2, .int (nI a)), (1, .int (nI i)), (0, .ref h)]) hx hb d_Mo_lay_166 hl (k := 0) rfl (nI_1 b) (by decide) rfl (fun ls hl => ?_)
                        refine lv_goto (tgt := 100) hx hb d_Mo_lay_169 (by decide) ?_
                        have e7 : upd V (24 * a + b) 0 = it (mo_w3 i a) (b + 1) (it (mo_w2 m9 i) a (it (mo_w1 m9) i (it (mo_l1 f7 f10 m9) m9 Lz))) := by rw [eV, mo_w3, mo_v3, if_pos c129, if_pos c143]
                        rw [e7] at eB
                        exact ih3 (b + 1) _ _ _ _ (by omega) (by omega) hl hP hD hS hQ eB
                      · refine lv_aload_n hx hb d_Mo_lay_146 rfl (lv_at hl 3 rfl) ?_
                        refine x_get E hP eB.1 rfl cl6_in 16 (by decide) wf_Mo_43 rfl d_Mo_lay_147 ?_
                        refine lv_bipush (v := 24) hx hb d_Mo_lay_150 (by decide) ?_
                        refine lv_iload_n hx hb d_Mo_lay_152 rfl (lv_at hl 2 rfl) ?_
                        refine lv_imul hx hb d_Mo_lay_153 ?_
                        refine lv_iload_n hx hb d_Mo_lay_154 rfl (lv_at hl 0 rfl) ?_
                        refine lv_iadd hx hb d_Mo_lay_155 ?_
                        refine x_top (y := nI (24 * i + b)) (by exact (congrArg (· + nI b) (pk_mul 24 i)).trans (nI_add (24 * i) b)) ?_
                        refine x_zald E hP eB.2.2.2.2.2.2.2.2.2.2.2.2.1 (j := 24 * i + b) rfl (by omega) (by decide) d_Mo_lay_156 ?_
                        refine lv_if_eq (tgt := 164) hx hb d_Mo_lay_157 (by decide) (fun c157 => ?_) (fun c157 => ?_)
                        · refine lv_iconst (v := 0) hx hb d_Mo_lay_164 (by decide) ?_
                          refine x_zast E hP hD hS eB.2.2.2.2.2.2.2.2.2.2.2.2.1 (j := 24 * a + b) rfl (by omega) (by decide) rfl d_Mo_lay_165 (fun w151 H locs hU151 hP hD hS => ?_)
                          have eB : xMo g w151 q h ad s0 s1 s2 s3 (nI m9) s5 s6 f0 f1 f2 f3 f4 f5 f6 f7 f8 f9 f10 (upd V (24 * a + b) 0) f12 f13 f14 f15 f16 := eB.a11 hU151
                          have hQ := hQ.up hU151 (by omega)
                          refine lv_iinc (v := nI (b + 1)) (lv' := [(3, .int (nI (b + 1))), (2, .int (nI a)), (1, .int (nI i)), (0, .ref h)]) hx hb d_Mo_lay_166 hl (k := 0) rfl (nI_1 b) (by decide) rfl (fun ls hl => ?_)
                          refine lv_goto (tgt := 100) hx hb d_Mo_lay_169 (by decide) ?_
                          have e7 : upd V (24 * a + b) 0 = it (mo_w3 i a) (b + 1) (it (mo_w2 m9 i) a (it (mo_w1 m9) i (it (mo_l1 f7 f10 m9) m9 Lz))) := by rw [eV, mo_w3, mo_v3, if_pos c129, if_neg c143, if_pos c157]
                          rw [e7] at eB
                          exact ih3 (b + 1) _ _ _ _ (by omega) (by omega) hl hP hD hS hQ eB
                        · refine lv_iconst (v := 1) hx hb d_Mo_lay_160 (by decide) ?_
                          refine lv_goto (tgt := 165) hx hb d_Mo_lay_161 (by decide) ?_
                          refine x_zast E hP hD hS eB.2.2.2.2.2.2.2.2.2.2.2.2.1 (j := 24 * a + b) rfl (by omega) (by decide) rfl d_Mo_lay_165 (fun w151 H locs hU151 hP hD hS => ?_)
                          have eB : xMo g w151 q h ad s0 s1 s2 s3 (nI m9) s5 s6 f0 f1 f2 f3 f4 f5 f6 f7 f8 f9 f10 (upd V (24 * a + b) 1) f12 f13 f14 f15 f16 := eB.a11 hU151
                          have hQ := hQ.up hU151 (by omega)
                          refine lv_iinc (v := nI (b + 1)) (lv' := [(3, .int (nI (b + 1))), (2, .int (nI a)), (1, .int (nI i)), (0, .ref h)]) hx hb d_Mo_lay_166 hl (k := 0) rfl (nI_1 b) (by decide) rfl (fun ls hl => ?_)
                          refine lv_goto (tgt := 100) hx hb d_Mo_lay_169 (by decide) ?_
                          have e7 : upd V (24 * a + b) 1 = it (mo_w3 i a) (b + 1) (it (mo_w2 m9 i) a (it (mo_w1 m9) i (it (mo_l1 f7 f10 m9) m9 Lz))) := by rw [eV, mo_w3, mo_v3, if_pos c129, if_neg c143, if_neg c157]
                          rw [e7] at eB
                          exact ih3 (b + 1) _ _ _ _ (by omega) (by omega) hl hP hD hS hQ eB
              have eB : xMo g _ q h ad s0 s1 s2 s3 (nI m9) s5 s6 f0 f1 f2 f3 f4 f5 f6 f7 f8 f9 f10 (it (mo_w3 i a) 0 (it (mo_w2 m9 i) a (it (mo_w1 m9) i (it (mo_l1 f7 f10 m9) m9 Lz)))) f12 f13 f14 f15 f16 := eB
              exact lb3 (m9 + 1) 0 _ _ _ _ (by omega) (by omega) hl hP hD hS hQ eB
        have eB : xMo g _ q h ad s0 s1 s2 s3 (nI m9) s5 s6 f0 f1 f2 f3 f4 f5 f6 f7 f8 f9 f10 (it (mo_w2 m9 i) 0 (it (mo_w1 m9) i (it (mo_l1 f7 f10 m9) m9 Lz))) f12 f13 f14 f15 f16 := eB
        exact lb2 (m9 + 1) 0 _ _ _ _ (by omega) (by omega) hl hP hD hS hQ eB
  have la1 : ∀ (fu i : Nat) (Lz : Nat → Int32) (v1 : va_W) (H : Heap) (locs : List Loc) (ls : Array Slot), (m9 < i + fu) → (i ≤ m9) → (∀ j, j < 576 → Lz j = 0) → (lv_has ls 4 [(1, .int (nI i)), (0, .ref h)]) → (va_P (xD g) vwCl v1 H) → (va_D (xA b0) v1) → (va_S (xA b0) s.heap H locs) → (xQ q (q + 18) ws v1) → (xMo g v1 q h ad s0 s1 s2 s3 (nI m9) s5 s6 f0 f1 f2 f3 f4 f5 f6 f7 f8 f9 f10 (it (mo_l1 f7 f10 m9) i Lz) f12 f13 f14 f15 f16) → W p l e (rmL 2) s m ([.ref h] : List Value).toArray below meth c H locs 0 0 (MQ below (va_Qv (fun u => xQ q (q + 18) ws u ∧ ∃ Lz, (∀ j, j < 576 → Lz j = 0) ∧ xMo g u q h ad s0 s1 s2 s3 (nI m9) s5 s6 f0 f1 f2 f3 f4 f5 f6 f7 f8 f9 f10 (mo_lay f7 f10 m9 Lz) f12 f13 f14 f15 f16) (fun u t => va_P (xD g) vwCl u t.heap ∧ va_D (xA b0) u) (xA b0)) ([.ref h] : List Value).toArray s 0 0 (xA b0)) (F0 m 24 ls []) := by
    intro fu
    induction fu with
    | zero =>
      intro i Lz v1 H locs ls hk hi hz hl hP hD hS hQ eB
      omega
    | succ fu ih =>
      intro i Lz v1 H locs ls hk hi hz hl hP hD hS hQ eB
      refine lv_iload_n hx hb d_Mo_lay_24 rfl (lv_at hl 0 rfl) ?_
      refine lv_aload_n hx hb d_Mo_lay_25 rfl (lv_at hl 1 rfl) ?_
      refine x_get E hP eB.1 rfl cl6_in 10 (by decide) wf_Mo_101 rfl d_Mo_lay_26 ?_
      refine lv_icmp_ge (tgt := 78) hx hb d_Mo_lay_29 (by decide) (fun c29 => ?_) (fun c29 => ?_)
      · have hi9 : m9 ≤ i := (nI_leI (by omega) (by omega)).mp c29
        refine lv_iconst (v := 0) hx hb d_Mo_lay_78 (by decide) ?_
        refine lv_istore_n (lv' := [(1, .int 0), (0, .ref h)]) hx hb d_Mo_lay_79 rfl hl (by decide) rfl (fun ls hl => ?_)
        rw [show i = m9 by omega] at eB
        have eB : xMo g _ q h ad s0 s1 s2 s3 (nI m9) s5 s6 f0 f1 f2 f3 f4 f5 f6 f7 f8 f9 f10 (it (mo_w1 m9) 0 (it (mo_l1 f7 f10 m9) m9 Lz)) f12 f13 f14 f15 f16 := eB
        exact lb1 (m9 + 1) 0 Lz _ _ _ _ (by omega) (by omega) hz hl hP hD hS hQ eB
      · have hi9 : i < m9 := Nat.not_le.mp fun h => c29 (nI_le h (by omega))
        refine lv_iconst (v := 0) hx hb d_Mo_lay_32 (by decide) ?_
        refine lv_istore_n (lv' := [(2, .int 0), (1, .int (nI i)), (0, .ref h)]) hx hb d_Mo_lay_33 rfl hl (by decide) rfl (fun ls hl => ?_)
        have la2 : ∀ (fv j : Nat)  (v2 : va_W) (H : Heap) (locs : List Loc) (ls : Array Slot), (2 < j + fv) → (j ≤ 2) → (lv_has ls 4 [(2, .int (nI j)), (1, .int (nI i)), (0, .ref h)]) → (va_P (xD g) vwCl v2 H) → (va_D (xA b0) v2) → (va_S (xA b0) s.heap H locs) → (xQ q (q + 18) ws v2) → (xMo g v2 q h ad s0 s1 s2 s3 (nI m9) s5 s6 f0 f1 f2 f3 f4 f5 f6 f7 f8 f9 f10 (it (mo_l2 f7 f10 m9 i) j (it (mo_l1 f7 f10 m9) i Lz)) f12 f13 f14 f15 f16) → W p l e (rmL 2) s m ([.ref h] : List Value).toArray below meth c H locs 0 0 (MQ below (va_Qv (fun u => xQ q (q + 18) ws u ∧ ∃ Lz, (∀ j, j < 576 → Lz j = 0) ∧ xMo g u q h ad s0 s1 s2 s3 (nI m9) s5 s6 f0 f1 f2 f3 f4 f5 f6 f7 f8 f9 f10 (mo_lay f7 f10 m9 Lz) f12 f13 f14 f15 f16) (fun u t => va_P (xD g) vwCl u t.heap ∧ va_D (xA b0) u) (xA b0)) ([.ref h] : List Value).toArray s 0 0 (xA b0)) (F0 m 34 ls []) := by
          intro fv
          induction fv with
          | zero =>
            intro j v2 H locs ls hk hj hl hP hD hS hQ eB
            omega
          | succ fv ih2 =>
            intro j v2 H locs ls hk hj hl hP hD hS hQ eB
            have eV : it (mo_l2 f7 f10 m9 i) (j + 1) (it (mo_l1 f7 f10 m9) i Lz) = mo_l2 f7 f10 m9 i j (it (mo_l2 f7 f10 m9 i) j (it (mo_l1 f7 f10 m9) i Lz)) := rfl
            generalize eV0 : it (mo_l2 f7 f10 m9 i) j (it (mo_l1 f7 f10 m9) i Lz) = V at eB eV
            refine lv_iload_n hx hb d_Mo_lay_34 rfl (lv_at hl 0 rfl) ?_
            refine lv_iconst (v := 2) hx hb d_Mo_lay_35 (by decide) ?_
            refine lv_icmp_ge (tgt := 72) hx hb d_Mo_lay_36 (by decide) (fun c36 => ?_) (fun c36 => ?_)
            · have hj9 : 2 ≤ j := (nI_leI (a := 2) (by decide) (by omega)).mp c36
              refine lv_iinc (v := nI (i + 1)) (lv' := [(1, .int (nI (i + 1))), (2, .int (nI j)), (0, .ref h)]) hx hb d_Mo_lay_72 hl (k := 1) rfl (nI_1 i) (by decide) rfl (fun ls hl => ?_)
              refine lv_goto (tgt := 24) hx hb d_Mo_lay_75 (by decide) ?_
              rw [← eV0, show j = 2 by omega] at eB
              have eB : xMo g _ q h ad s0 s1 s2 s3 (nI m9) s5 s6 f0 f1 f2 f3 f4 f5 f6 f7 f8 f9 f10 (it (mo_l1 f7 f10 m9) (i + 1) Lz) f12 f13 f14 f15 f16 := eB
              exact ih (i + 1) Lz _ _ _ _ (by omega) (by omega) hz (lv_sub hl [0, 2] rfl) hP hD hS hQ eB
            · have hj9 : j < 2 := Nat.not_le.mp fun h => c36 (nI_le (a := 2) h (by omega))
              refine lv_aload_n hx hb d_Mo_lay_39 rfl (lv_at hl 2 rfl) ?_
              refine lv_iload_n hx hb d_Mo_lay_40 rfl (lv_at hl 1 rfl) ?_
              refine lv_iload_n hx hb d_Mo_lay_41 rfl (lv_at hl 0 rfl) ?_
              refine x_cRi (As := [.int (nI i), .int (nI j)]) (rest := []) E (c_Mo_target l g b0 _ eB hm9 (nI i) (nI j) i j rfl rfl (by omega) (by omega)) wy_Mo_target wl_Mo_113 hP hD hS eB.1 rfl hl.1 ⟨by decide, by decide⟩ ⟨Nat.le_refl _, Nat.le_refl _⟩ rfl (Nat.le_of_ble_eq_true rfl) d_Mo_lay_42 (fun r42 hr42 => ?_)
              subst hr42
              refine lv_iconst (v := (-1)) hx hb d_Mo_lay_45 (by decide) ?_
              refine lv_icmp_eq (tgt := 66) hx hb d_Mo_lay_46 (by decide) (fun c46 => ?_) (fun c46 => ?_)
              · refine lv_iinc (v := nI (j + 1)) (lv' := [(2, .int (nI (j + 1))), (1, .int (nI i)), (0, .ref h)]) hx hb d_Mo_lay_66 hl (k := 0) rfl (nI_1 j) (by decide) rfl (fun ls hl => ?_)
                refine lv_goto (tgt := 34) hx hb d_Mo_lay_69 (by decide) ?_
                have e7 : V = it (mo_l2 f7 f10 m9 i) (j + 1) (it (mo_l1 f7 f10 m9) i Lz) := by rw [eV, mo_l2, if_pos c46]
                rw [e7] at eB
                exact ih2 (j + 1) _ _ _ _ (by omega) (by omega) hl hP hD hS hQ eB
              · obtain ⟨b7, hb6, hb7⟩ := (mo_tg_in f7 f10 m9 i j).resolve_left c46
                refine lv_aload_n hx hb d_Mo_lay_49 rfl (lv_at hl 2 rfl) ?_
                refine x_get E hP eB.1 rfl cl6_in 16 (by decide) wf_Mo_43 rfl d_Mo_lay_50 ?_
                refine lv_bipush (v := 24) hx hb d_Mo_lay_53 (by decide) ?_
                refine lv_iload_n hx hb d_Mo_lay_55 rfl (lv_at hl 1 rfl) ?_
                refine lv_imul hx hb d_Mo_lay_56 ?_
                refine x_top (y := nI (24 * i)) (pk_mul 24 i) ?_
                refine lv_aload_n hx hb d_Mo_lay_57 rfl (lv_at hl 2 rfl) ?_
                refine lv_iload_n hx hb d_Mo_lay_58 rfl (lv_at hl 1 rfl) ?_
                refine lv_iload_n hx hb d_Mo_lay_59 rfl (lv_at hl 0 rfl) ?_
                refine x_cRi (As := [.int (nI i), .int (nI j)]) (rest := [.int (nI (24 * i)), .ref (ad 11)]) E (c_Mo_target l g b0 _ eB hm9 (nI i) (nI j) i j rfl rfl (by omega) (by omega)) wy_Mo_target wl_Mo_113 hP hD hS eB.1 rfl hl.1 ⟨by decide, by decide⟩ ⟨Nat.le_refl _, Nat.le_refl _⟩ rfl (Nat.le_of_ble_eq_true rfl) d_Mo_lay_60 (fun r60 hr60 => ?_)
                subst hr60
                refine lv_iadd hx hb d_Mo_lay_63 ?_
                refine x_top (y := nI (24 * i + b7)) (by rw [hb7]; exact nI_add (24 * i) b7) ?_
                refine lv_iconst (v := 1) hx hb d_Mo_lay_64 (by decide) ?_
                refine x_zast E hP hD hS eB.2.2.2.2.2.2.2.2.2.2.2.2.1 (j := 24 * i + b7) rfl (by omega) (by decide) rfl d_Mo_lay_65 (fun w103 H locs hU103 hP hD hS => ?_)
                have eB : xMo g w103 q h ad s0 s1 s2 s3 (nI m9) s5 s6 f0 f1 f2 f3 f4 f5 f6 f7 f8 f9 f10 (upd V (24 * i + b7) 1) f12 f13 f14 f15 f16 := eB.a11 hU103
                have hQ := hQ.up hU103 (by omega)
                refine lv_iinc (v := nI (j + 1)) (lv' := [(2, .int (nI (j + 1))), (1, .int (nI i)), (0, .ref h)]) hx hb d_Mo_lay_66 hl (k := 0) rfl (nI_1 j) (by decide) rfl (fun ls hl => ?_)
                refine lv_goto (tgt := 34) hx hb d_Mo_lay_69 (by decide) ?_
                have e7 : upd V (24 * i + b7) 1 = it (mo_l2 f7 f10 m9 i) (j + 1) (it (mo_l1 f7 f10 m9) i Lz) := by rw [eV, mo_l2, if_neg c46, hb7, nI_clamp (by omega)]
                rw [e7] at eB
                exact ih2 (j + 1) _ _ _ _ (by omega) (by omega) hl hP hD hS hQ eB
        have eB : xMo g _ q h ad s0 s1 s2 s3 (nI m9) s5 s6 f0 f1 f2 f3 f4 f5 f6 f7 f8 f9 f10 (it (mo_l2 f7 f10 m9 i) 0 (it (mo_l1 f7 f10 m9) i Lz)) f12 f13 f14 f15 f16 := eB
        exact la2 3 0 _ _ _ _ (by omega) (by omega) hl hP hD hS hQ eB
  have l0 : ∀ (fu i : Nat) (Lz : Nat → Int32) (v1 : va_W) (H : Heap) (locs : List Loc) (ls : Array Slot), (576 < i + fu) → (i ≤ 576) → (∀ j, j < i → Lz j = 0) → (lv_has ls 4 [(1, .int (nI i)), (0, .ref h)]) → (va_P (xD g) vwCl v1 H) → (va_D (xA b0) v1) → (va_S (xA b0) s.heap H locs) → (xQ q (q + 18) ws v1) → (xMo g v1 q h ad s0 s1 s2 s3 (nI m9) s5 s6 f0 f1 f2 f3 f4 f5 f6 f7 f8 f9 f10 Lz f12 f13 f14 f15 f16) → W p l e (rmL 2) s m ([.ref h] : List Value).toArray below meth c H locs 0 0 (MQ below (va_Qv (fun u => xQ q (q + 18) ws u ∧ ∃ Lz, (∀ j, j < 576 → Lz j = 0) ∧ xMo g u q h ad s0 s1 s2 s3 (nI m9) s5 s6 f0 f1 f2 f3 f4 f5 f6 f7 f8 f9 f10 (mo_lay f7 f10 m9 Lz) f12 f13 f14 f15 f16) (fun u t => va_P (xD g) vwCl u t.heap ∧ va_D (xA b0) u) (xA b0)) ([.ref h] : List Value).toArray s 0 0 (xA b0)) (F0 m 2 ls []) := by
    intro fu
    induction fu with
    | zero =>
      intro i Lz v1 H locs ls hk hi hz hl hP hD hS hQ eB
      omega
    | succ fu ih =>
      intro i Lz v1 H locs ls hk hi hz hl hP hD hS hQ eB
      refine lv_iload_n hx hb d_Mo_lay_2 rfl (lv_at hl 0 rfl) ?_
      refine lv_sipush (v := 576) hx hb d_Mo_lay_3 (by decide) ?_
      refine lv_icmp_ge (tgt := 22) hx hb d_Mo_lay_6 (by decide) (fun c6 => ?_) (fun c6 => ?_)
      · have hi9 : 576 ≤ i := (nI_leI (a := 576) (by decide) (by omega)).mp c6
        refine lv_iconst (v := 0) hx hb d_Mo_lay_22 (by decide) ?_
        refine lv_istore_n (lv' := [(1, .int 0), (0, .ref h)]) hx hb d_Mo_lay_23 rfl hl (by decide) rfl (fun ls hl => ?_)
        have eB : xMo g _ q h ad s0 s1 s2 s3 (nI m9) s5 s6 f0 f1 f2 f3 f4 f5 f6 f7 f8 f9 f10 (it (mo_l1 f7 f10 m9) 0 Lz) f12 f13 f14 f15 f16 := eB
        exact la1 (m9 + 1) 0 Lz _ _ _ _ (by omega) (by omega) (fun j hj => hz j (by omega)) hl hP hD hS hQ eB
      · have hi9 : i < 576 := Nat.not_le.mp fun h => c6 (nI_le (a := 576) h (by omega))
        refine lv_aload_n hx hb d_Mo_lay_9 rfl (lv_at hl 1 rfl) ?_
        refine x_get E hP eB.1 rfl cl6_in 16 (by decide) wf_Mo_43 rfl d_Mo_lay_10 ?_
        refine lv_iload_n hx hb d_Mo_lay_13 rfl (lv_at hl 0 rfl) ?_
        refine lv_iconst (v := 0) hx hb d_Mo_lay_14 (by decide) ?_
        refine x_zast E hP hD hS eB.2.2.2.2.2.2.2.2.2.2.2.2.1 (j := i) rfl hi9 (by decide) rfl d_Mo_lay_15 (fun w51 H locs hU51 hP hD hS => ?_)
        have eB : xMo g w51 q h ad s0 s1 s2 s3 (nI m9) s5 s6 f0 f1 f2 f3 f4 f5 f6 f7 f8 f9 f10 (upd Lz i 0) f12 f13 f14 f15 f16 := eB.a11 hU51
        have hQ := hQ.up hU51 (by omega)
        refine lv_iinc (v := nI (i + 1)) (lv' := [(1, .int (nI (i + 1))), (0, .ref h)]) hx hb d_Mo_lay_16 hl (k := 0) rfl (nI_1 i) (by decide) rfl (fun ls hl => ?_)
        refine lv_goto (tgt := 2) hx hb d_Mo_lay_19 (by decide) ?_
        exact ih (i + 1) (upd Lz i 0) _ _ _ _ (by omega) (by omega) (fun j hj => by
            by_cases e9 : j = i
            · rw [e9, pk_us]
            · rw [pk_un e9]; exact hz j (by omega)) hl hP hD hS hQ eB
  exact l0 577 0 f11 _ _ _ _ (by omega) (by omega) (fun j hj => absurd hj (Nat.not_lt_zero j)) hl hP hD hS hQ eB
