def mo_look (f : Nat → Int32) (n p : Nat) : Int32 := if p < n then f p else 0
def mo_mark (wr x : Int32) : Int32 := if wr = -1 then x else wr
def mo_take (f : Nat → Int32) (n : Nat) (x : Int32) (p : Nat) (wr : Int32) : Nat × Int32 := if wr = -1 then (if mo_look f n p = x then (p + 1, wr) else (p, mo_mark wr (nI p))) else (p, mo_mark wr (nI p))
def mo_dig (f : Nat → Int32) (n : Nat) : Nat → Nat → Int32 → Nat × Int32
  | 0, p, v => (p, v)
  | k + 1, p, v => if mo_look f n p < 48 then (p, v) else if 57 < mo_look f n p then (p, v) else mo_dig f n k (p + 1) (10 * v + mo_look f n p - 48)
def mo_nm2 (lo hi : Int32) (p : Nat) (wr : Int32) (a : Nat × Int32) : Int32 × Nat × Int32 := (a.2, a.1, if a.1 = p then mo_mark wr (nI p) else if a.2 < lo then mo_mark wr (nI p) else if a.2 ≤ hi then wr else mo_mark wr (nI p))
def mo_num (f : Nat → Int32) (n : Nat) (lo hi : Int32) (p : Nat) (wr : Int32) : Int32 × Nat × Int32 := if wr = -1 then mo_nm2 lo hi p wr (mo_dig f n 4 p 0) else (0, p, wr)
theorem mo_look_lt {f : Nat → Int32} {n p : Nat} (h : ¬ mo_look f n p = 0) : p < n := by
  rcases Nat.lt_or_ge p n with q | q
  · exact q
  · exact absurd (if_neg (by omega)) h
def mo_sign (n : Nat) (x : Int32) : Int32 := if n = 300 then 0 else if x < 32 then 0 else if 126 < x then 0 else 1
set_option maxRecDepth 100000 in
set_option maxHeartbeats 4000000 in
theorem c_Mo_sign (l : Launch) (g : xG) (b0 : Nat) (ws : va_W) {q h : Nat} {ad : Nat → Nat} {s1 s2 s3 s4 s5 s6 : Int32} {f0 f1 f2 f3 f4 f5 f6 f7 f8 f9 f10 f11 f12 f13 f14 f16 : Nat → Int32} {f15 : Nat → Int64} {n : Nat} (eB : xMo g ws q h ad (nI n) s1 s2 s3 s4 s5 s6 f0 f1 f2 f3 f4 f5 f6 f7 f8 f9 f10 f11 f12 f13 f14 f15 f16) (hn : n ≤ 300) (x : Int32) : xMi l g b0 y_Mo_sign b_Mo_sign 2 (some .boolean) 0 [.ref h, .int x] ws (fun r u => r = mo_sign n x ∧ xQ q (q + 18) ws u ∧ xMo g u q h ad (nI (if mo_sign n x = 0 then n else n + 1)) s1 s2 s3 s4 s5 s6 (if mo_sign n x = 0 then f0 else upd f0 n x) f1 f2 f3 f4 f5 f6 f7 f8 f9 f10 f11 f12 f13 f14 f15 f16) := by
  unfold xMi
  refine x_in (by decide) (Nat.le_of_ble_eq_true rfl) ?_
  intro p e s m below meth c ls E hr hin hP hD hl
  obtain ⟨hx, hb, hml, hown, hts, hK, hZ, hb0, hlocks⟩ := id E
  have hS : va_S (xA b0) s.heap s.heap [] := va_S.rf
  have hl : lv_has ls 2 [(0, .ref h), (1, .int x)] := hl
  have hQ : xQ q (q + 18) ws ws := xQ.rf
  refine lv_aload_n hx hb d_Mo_sign_0 rfl (lv_at hl 0 rfl) ?_
  refine x_get E hP eB.1 rfl cl6_in 1 (by decide) wf_Mo_63 rfl d_Mo_sign_1 ?_
  refine lv_sipush (v := 300) hx hb d_Mo_sign_4 (by decide) ?_
  refine lv_icmp_eq (tgt := 22) hx hb d_Mo_sign_7 (by decide) (fun c7 => ?_) (fun c7 => ?_)
  · have h6 : n = 300 := (nI_eq (b := 300) (by omega) (by decide)).mp c7
    refine lv_iconst (v := 0) hx hb d_Mo_sign_22 (by decide) ?_
    have hv : mo_sign n x = 0 := by rw [mo_sign, if_pos h6]
    exact x_rz E hr hS rfl ⟨hv.symm, hQ, by rw [if_pos hv, if_pos hv]; exact eB⟩ hP hD d_Mo_sign_23
  · have h6 : ¬ n = 300 := fun h => c7 (by rw [h]; decide)
    refine lv_iload_n hx hb d_Mo_sign_10 rfl (lv_at hl 1 rfl) ?_
    refine lv_bipush (v := 32) hx hb d_Mo_sign_11 (by decide) ?_
    refine lv_icmp_lt (tgt := 22) hx hb d_Mo_sign_13 (by decide) (fun c13 => ?_) (fun c13 => ?_)
    · refine lv_iconst (v := 0) hx hb d_Mo_sign_22 (by decide) ?_
      have hv : mo_sign n x = 0 := by rw [mo_sign, if_neg h6, if_pos c13]
      exact x_rz E hr hS rfl ⟨hv.symm, hQ, by rw [if_pos hv, if_pos hv]; exact eB⟩ hP hD d_Mo_sign_23
    · refine lv_iload_n hx hb d_Mo_sign_16 rfl (lv_at hl 1 rfl) ?_
      refine lv_bipush (v := 126) hx hb d_Mo_sign_17 (by decide) ?_
      refine lv_icmp_le (tgt := 24) hx hb d_Mo_sign_19 (by decide) (fun c19 => ?_) (fun c19 => ?_)
      · refine lv_aload_n hx hb d_Mo_sign_24 rfl (lv_at hl 0 rfl) ?_
        refine x_get E hP eB.1 rfl cl6_in 0 (by decide) wf_Mo_7 rfl d_Mo_sign_25 ?_
        refine lv_aload_n hx hb d_Mo_sign_28 rfl (lv_at hl 0 rfl) ?_
        refine x_get E hP eB.1 rfl cl6_in 1 (by decide) wf_Mo_63 rfl d_Mo_sign_29 ?_
        refine lv_iload_n hx hb d_Mo_sign_32 rfl (lv_at hl 1 rfl) ?_
        refine x_iast E hP hD hS eB.2.1 (j := n) rfl (by omega) (by decide) d_Mo_sign_33 (fun w1 H locs hU1 hP hD hS => ?_)
        have eB : xMo g w1 q h ad (nI n) s1 s2 s3 s4 s5 s6 (upd f0 n x) f1 f2 f3 f4 f5 f6 f7 f8 f9 f10 f11 f12 f13 f14 f15 f16 := eB.a0 hU1
        have hQ := hQ.up hU1 (by omega)
        refine lv_aload_n hx hb d_Mo_sign_34 rfl (lv_at hl 0 rfl) ?_
        refine lv_dup hx hb d_Mo_sign_35 rfl ?_
        refine x_get E hP eB.1 rfl cl6_in 1 (by decide) wf_Mo_63 rfl d_Mo_sign_36 ?_
        refine lv_iconst (v := 1) hx hb d_Mo_sign_39 (by decide) ?_
        refine lv_iadd hx hb d_Mo_sign_40 ?_
        refine x_top (y := nI (n + 1)) (nI_1 n) ?_
        refine x_put E hP hD hS eB.1 rfl cl6_in cl6_ty cl6_nm 1 (by decide) wf_Mo_63 rfl rfl rfl (Nat.le_of_ble_eq_true rfl) d_Mo_sign_41 (fun w2 H locs hU2 hP hD hS => ?_)
        have eB : xMo g w2 q h ad (nI (n + 1)) s1 s2 s3 s4 s5 s6 (upd f0 n x) f1 f2 f3 f4 f5 f6 f7 f8 f9 f10 f11 f12 f13 f14 f15 f16 := eB.t0 hU2
        have hQ := hQ.up hU2 (by omega)
        refine lv_iconst (v := 1) hx hb d_Mo_sign_44 (by decide) ?_
        have hv : mo_sign n x = 1 := by rw [mo_sign, if_neg h6, if_neg c13, if_neg (Int32.not_lt.mpr c19)]
        exact x_rz E hr hS rfl ⟨hv.symm, hQ, by rw [hv, if_neg (by decide), if_neg (by decide)]; exact eB⟩ hP hD d_Mo_sign_45
      · refine lv_iconst (v := 0) hx hb d_Mo_sign_22 (by decide) ?_
        have hv : mo_sign n x = 0 := by rw [mo_sign, if_neg h6, if_neg c13, if_pos (Int32.not_le.mp c19)]
        exact x_rz E hr hS rfl ⟨hv.symm, hQ, by rw [if_pos hv, if_pos hv]; exact eB⟩ hP hD d_Mo_sign_23
set_option maxRecDepth 100000 in
set_option maxHeartbeats 4000000 in
theorem c_Mo_look (l : Launch) (g : xG) (b0 : Nat) (ws : va_W) {q h : Nat} {ad : Nat → Nat} {s2 s3 s4 s5 s6 : Int32} {f0 f1 f2 f3 f4 f5 f6 f7 f8 f9 f10 f11 f12 f13 f14 f16 : Nat → Int32} {f15 : Nat → Int64} {n t : Nat} (eB : xMo g ws q h ad (nI n) (nI t) s2 s3 s4 s5 s6 f0 f1 f2 f3 f4 f5 f6 f7 f8 f9 f10 f11 f12 f13 f14 f15 f16) (hn : n ≤ 300) (hp : t ≤ 300) : xRi l g b0 y_Mo_look b_Mo_look 1 (some .int) 0 [.ref h] ws (fun r => r = mo_look f0 n t) := by
  unfold xRi
  refine x_in (by decide) (Nat.le_of_ble_eq_true rfl) ?_
  intro p e s m below meth c ls E hr hin hP hD hl
  obtain ⟨hx, hb, hml, hown, hts, hK, hZ, hb0, hlocks⟩ := id E
  have hS : va_S (xA b0) s.heap s.heap [] := va_S.rf
  have hl : lv_has ls 1 [(0, .ref h)] := hl
  refine lv_aload_n hx hb d_Mo_look_0 rfl (lv_at hl 0 rfl) ?_
  refine x_get E hP eB.1 rfl cl6_in 2 (by decide) wf_Mo_67 rfl d_Mo_look_1 ?_
  refine lv_aload_n hx hb d_Mo_look_4 rfl (lv_at hl 0 rfl) ?_
  refine x_get E hP eB.1 rfl cl6_in 1 (by decide) wf_Mo_63 rfl d_Mo_look_5 ?_
  refine lv_icmp_ge (tgt := 23) hx hb d_Mo_look_8 (by decide) (fun c8 => ?_) (fun c8 => ?_)
  · have h8 : ¬ t < n := Nat.not_lt.mpr ((nI_leI (by omega) (by omega)).mp c8)
    refine lv_iconst (v := 0) hx hb d_Mo_look_23 (by decide) ?_
    exact x_pi E hr (by rw [mo_look, if_neg h8]) d_Mo_look_24
  · have h8 : t < n := Nat.not_le.mp fun h => c8 (nI_le h (by omega))
    refine lv_aload_n hx hb d_Mo_look_11 rfl (lv_at hl 0 rfl) ?_
    refine x_get E hP eB.1 rfl cl6_in 0 (by decide) wf_Mo_7 rfl d_Mo_look_12 ?_
    refine lv_aload_n hx hb d_Mo_look_15 rfl (lv_at hl 0 rfl) ?_
    refine x_get E hP eB.1 rfl cl6_in 2 (by decide) wf_Mo_67 rfl d_Mo_look_16 ?_
    refine x_iald E hP eB.2.1 (j := t) rfl (by omega) (by decide) d_Mo_look_19 ?_
    refine lv_goto (tgt := 24) hx hb d_Mo_look_20 (by decide) ?_
    exact x_pi E hr (by rw [mo_look, if_pos h8]) d_Mo_look_24
set_option maxRecDepth 100000 in
set_option maxHeartbeats 4000000 in
theorem c_Mo_mark (l : Launch) (g : xG) (b0 : Nat) (ws : va_W) {q h : Nat} {ad : Nat → Nat} {s0 s1 s2 s3 s4 s5 s6 : Int32} {f0 f1 f2 f3 f4 f5 f6 f7 f8 f9 f10 f11 f12 f13 f14 f16 : Nat → Int32} {f15 : Nat → Int64} (eB : xMo g ws q h ad s0 s1 s2 s3 s4 s5 s6 f0 f1 f2 f3 f4 f5 f6 f7 f8 f9 f10 f11 f12 f13 f14 f15 f16) (x : Int32) : xMv l g b0 y_Mo_mark b_Mo_mark 2 0 [.ref h, .int x] ws (fun u => xQ q (q + 18) ws u ∧ xMo g u q h ad s0 s1 (mo_mark s2 x) s3 s4 s5 s6 f0 f1 f2 f3 f4 f5 f6 f7 f8 f9 f10 f11 f12 f13 f14 f15 f16) := by
  unfold xMv
  refine x_in (by decide) (Nat.le_of_ble_eq_true rfl) ?_
  intro p e s m below meth c ls E hr hin hP hD hl
  obtain ⟨hx, hb, hml, hown, hts, hK, hZ, hb0, hlocks⟩ := id E
  have hS : va_S (xA b0) s.heap s.heap [] := va_S.rf
  have hl : lv_has ls 2 [(0, .ref h), (1, .int x)] := hl
  have hQ : xQ q (q + 18) ws ws := xQ.rf
  refine lv_aload_n hx hb d_Mo_mark_0 rfl (lv_at hl 0 rfl) ?_
  refine lv_aload_n hx hb d_Mo_mark_1 rfl (lv_at hl 0 rfl) ?_
  refine x_get E hP eB.1 rfl cl6_in 3 (by decide) wf_Mo_70 rfl d_Mo_mark_2 ?_
  refine lv_iconst (v := (-1)) hx hb d_Mo_mark_5 (by decide) ?_
  refine lv_icmp_ne (tgt := 13) hx hb d_Mo_mark_6 (by decide) (fun c6 => ?_) (fun c6 => ?_)
  · refine lv_aload_n hx hb d_Mo_mark_13 rfl (lv_at hl 0 rfl) ?_
    refine x_get E hP eB.1 rfl cl6_in 3 (by decide) wf_Mo_70 rfl d_Mo_mark_14 ?_
    refine x_put E hP hD hS eB.1 rfl cl6_in cl6_ty cl6_nm 3 (by decide) wf_Mo_70 rfl rfl rfl (Nat.le_of_ble_eq_true rfl) d_Mo_mark_17 (fun w1 H locs hU1 hP hD hS => ?_)
    have eB : xMo g w1 q h ad s0 s1 s2 s3 s4 s5 s6 f0 f1 f2 f3 f4 f5 f6 f7 f8 f9 f10 f11 f12 f13 f14 f15 f16 := eB.t2 hU1
    have hQ := hQ.up hU1 (by omega)
    exact x_rv E hr hS ⟨hQ, by rw [mo_mark, if_neg c6]; exact eB⟩ hP hD d_Mo_mark_20
  · refine lv_iload_n hx hb d_Mo_mark_9 rfl (lv_at hl 1 rfl) ?_
    refine lv_goto (tgt := 17) hx hb d_Mo_mark_10 (by decide) ?_
    refine x_put E hP hD hS eB.1 rfl cl6_in cl6_ty cl6_nm 3 (by decide) wf_Mo_70 rfl rfl rfl (Nat.le_of_ble_eq_true rfl) d_Mo_mark_17 (fun w1 H locs hU1 hP hD hS => ?_)
    have eB : xMo g w1 q h ad s0 s1 x s3 s4 s5 s6 f0 f1 f2 f3 f4 f5 f6 f7 f8 f9 f10 f11 f12 f13 f14 f15 f16 := eB.t2 hU1
    have hQ := hQ.up hU1 (by omega)
    exact x_rv E hr hS ⟨hQ, by rw [mo_mark, if_pos c6]; exact eB⟩ hP hD d_Mo_mark_20
set_option maxRecDepth 100000 in
set_option maxHeartbeats 4000000 in
theorem c_Mo_take (l : Launch) (g : xG) (b0 : Nat) (ws : va_W) {q h : Nat} {ad : Nat → Nat} {s2 s3 s4 s5 s6 : Int32} {f0 f1 f2 f3 f4 f5 f6 f7 f8 f9 f10 f11 f12 f13 f14 f16 : Nat → Int32} {f15 : Nat → Int64} {n t : Nat} (eB : xMo g ws q h ad (nI n) (nI t) s2 s3 s4 s5 s6 f0 f1 f2 f3 f4 f5 f6 f7 f8 f9 f10 f11 f12 f13 f14 f15 f16) (hn : n ≤ 300) (hp : t ≤ n) (x : Int32) (hx0 : ¬ x = 0) : xMv l g b0 y_Mo_take b_Mo_take 2 1 [.ref h, .int x] ws (fun u => xQ q (q + 18) ws u ∧ xMo g u q h ad (nI n) (nI (mo_take f0 n x t s2).1) ((mo_take f0 n x t s2).2) s3 s4 s5 s6 f0 f1 f2 f3 f4 f5 f6 f7 f8 f9 f10 f11 f12 f13 f14 f15 f16 ∧ (mo_take f0 n x t s2).1 ≤ n) := by
  unfold xMv
  refine x_in (by decide) (Nat.le_of_ble_eq_true rfl) ?_
  intro p e s m below meth c ls E hr hin hP hD hl
  obtain ⟨hx, hb, hml, hown, hts, hK, hZ, hb0, hlocks⟩ := id E
  have hS : va_S (xA b0) s.heap s.heap [] := va_S.rf
  have hl : lv_has ls 2 [(0, .ref h), (1, .int x)] := hl
  have hQ : xQ q (q + 18) ws ws := xQ.rf
  refine lv_aload_n hx hb d_Mo_take_0 rfl (lv_at hl 0 rfl) ?_
  refine x_get E hP eB.1 rfl cl6_in 3 (by decide) wf_Mo_70 rfl d_Mo_take_1 ?_
  refine lv_iconst (v := (-1)) hx hb d_Mo_take_4 (by decide) ?_
  refine lv_icmp_ne (tgt := 29) hx hb d_Mo_take_5 (by decide) (fun c5 => ?_) (fun c5 => ?_)
  · refine lv_aload_n hx hb d_Mo_take_29 rfl (lv_at hl 0 rfl) ?_
    refine lv_aload_n hx hb d_Mo_take_30 rfl (lv_at hl 0 rfl) ?_
    refine x_get E hP eB.1 rfl cl6_in 2 (by decide) wf_Mo_67 rfl d_Mo_take_31 ?_
    refine x_cVv (As := [.int (nI t)]) (rest := []) E (c_Mo_mark l g b0 _ eB (nI t)) wy_Mo_mark wl_Mo_77 hP hD hS eB.1 rfl hl.1 ⟨by decide, by decide⟩ ⟨Nat.le_refl _, Nat.le_refl _⟩ rfl (Nat.le_of_ble_eq_true rfl) d_Mo_take_34 (fun w1 H locs hr34 hP hD hS => ?_)
    obtain ⟨hq, eB⟩ := hr34
    have hQ := hQ.tr hq
    exact x_rv E hr hS ⟨hQ, by rw [mo_take, if_neg c5]; exact ⟨eB, hp⟩⟩ hP hD d_Mo_take_37
  · refine lv_aload_n hx hb d_Mo_take_8 rfl (lv_at hl 0 rfl) ?_
    refine x_cRi (As := []) (rest := []) E (c_Mo_look l g b0 _ eB (by omega) (by omega)) wy_Mo_look wl_Mo_73 hP hD hS eB.1 rfl hl.1 ⟨by decide, by decide⟩ ⟨Nat.le_refl _, Nat.le_refl _⟩ rfl (Nat.le_of_ble_eq_true rfl) d_Mo_take_9 (fun r9 hr9 => ?_)
    subst hr9
    refine lv_iload_n hx hb d_Mo_take_12 rfl (lv_at hl 1 rfl) ?_
    refine lv_icmp_ne (tgt := 29) hx hb d_Mo_take_13 (by decide) (fun c13 => ?_) (fun c13 => ?_)
    · refine lv_aload_n hx hb d_Mo_take_29 rfl (lv_at hl 0 rfl) ?_
      refine lv_aload_n hx hb d_Mo_take_30 rfl (lv_at hl 0 rfl) ?_
      refine x_get E hP eB.1 rfl cl6_in 2 (by decide) wf_Mo_67 rfl d_Mo_take_31 ?_
      refine x_cVv (As := [.int (nI t)]) (rest := []) E (c_Mo_mark l g b0 _ eB (nI t)) wy_Mo_mark wl_Mo_77 hP hD hS eB.1 rfl hl.1 ⟨by decide, by decide⟩ ⟨Nat.le_refl _, Nat.le_refl _⟩ rfl (Nat.le_of_ble_eq_true rfl) d_Mo_take_34 (fun w2 H locs hr34 hP hD hS => ?_)
      obtain ⟨hq, eB⟩ := hr34
      have hQ := hQ.tr hq
      exact x_rv E hr hS ⟨hQ, by rw [mo_take, if_pos c5, if_neg c13]; exact ⟨eB, hp⟩⟩ hP hD d_Mo_take_37
    · refine lv_aload_n hx hb d_Mo_take_16 rfl (lv_at hl 0 rfl) ?_
      refine lv_dup hx hb d_Mo_take_17 rfl ?_
      refine x_get E hP eB.1 rfl cl6_in 2 (by decide) wf_Mo_67 rfl d_Mo_take_18 ?_
      refine lv_iconst (v := 1) hx hb d_Mo_take_21 (by decide) ?_
      refine lv_iadd hx hb d_Mo_take_22 ?_
      refine x_top (y := nI (t + 1)) (nI_1 t) ?_
      refine x_put E hP hD hS eB.1 rfl cl6_in cl6_ty cl6_nm 2 (by decide) wf_Mo_67 rfl rfl rfl (Nat.le_of_ble_eq_true rfl) d_Mo_take_23 (fun w2 H locs hU2 hP hD hS => ?_)
      have eB : xMo g w2 q h ad (nI n) (nI (t + 1)) s2 s3 s4 s5 s6 f0 f1 f2 f3 f4 f5 f6 f7 f8 f9 f10 f11 f12 f13 f14 f15 f16 := eB.t1 hU2
      have hQ := hQ.up hU2 (by omega)
      refine lv_goto (tgt := 37) hx hb d_Mo_take_26 (by decide) ?_
      exact x_rv E hr hS ⟨hQ, by rw [mo_take, if_pos c5, if_pos c13]; exact ⟨eB, mo_look_lt (fun h => hx0 (c13.symm.trans h))⟩⟩ hP hD d_Mo_take_37
set_option maxRecDepth 100000 in
set_option maxHeartbeats 4000000 in
theorem c_Mo_number (l : Launch) (g : xG) (b0 : Nat) (ws : va_W) {q h : Nat} {ad : Nat → Nat} {s2 s3 s4 s5 s6 : Int32} {f0 f1 f2 f3 f4 f5 f6 f7 f8 f9 f10 f11 f12 f13 f14 f16 : Nat → Int32} {f15 : Nat → Int64} {n t : Nat} (eB : xMo g ws q h ad (nI n) (nI t) s2 s3 s4 s5 s6 f0 f1 f2 f3 f4 f5 f6 f7 f8 f9 f10 f11 f12 f13 f14 f15 f16) (hn : n ≤ 300) (hp : t ≤ n) (lo hi : Int32) : xMi l g b0 y_Mo_number b_Mo_number 5 (some .int) 1 [.ref h, .int lo, .int hi] ws (fun r u => r = (mo_num f0 n lo hi t s2).1 ∧ xQ q (q + 18) ws u ∧ xMo g u q h ad (nI n) (nI (mo_num f0 n lo hi t s2).2.1) ((mo_num f0 n lo hi t s2).2.2) s3 s4 s5 s6 f0 f1 f2 f3 f4 f5 f6 f7 f8 f9 f10 f11 f12 f13 f14 f15 f16 ∧ (mo_num f0 n lo hi t s2).2.1 ≤ n) := by
  unfold xMi
  refine x_in (by decide) (Nat.le_of_ble_eq_true rfl) ?_
  intro p e s m below meth c ls E hr hin hP hD hl
  obtain ⟨hx, hb, hml, hown, hts, hK, hZ, hb0, hlocks⟩ := id E
  have hS : va_S (xA b0) s.heap s.heap [] := va_S.rf
  have hl : lv_has ls 5 [(0, .ref h), (1, .int lo), (2, .int hi)] := hl
  have hQ : xQ q (q + 18) ws ws := xQ.rf
  refine lv_aload_n hx hb d_Mo_number_0 rfl (lv_at hl 0 rfl) ?_
  refine x_get E hP eB.1 rfl cl6_in 2 (by decide) wf_Mo_67 rfl d_Mo_number_1 ?_
  refine lv_istore_n (lv' := [(3, .int (nI t)), (0, .ref h), (1, .int lo), (2, .int hi)]) hx hb d_Mo_number_4 rfl hl (by decide) rfl (fun ls hl => ?_)
  refine lv_iconst (v := 0) hx hb d_Mo_number_5 (by decide) ?_
  refine lv_istore (lv' := [(4, .int 0), (3, .int (nI t)), (0, .ref h), (1, .int lo), (2, .int hi)]) hx hb d_Mo_number_6 hl (by decide) rfl (fun ls hl => ?_)
  have loop : ∀ (k i : Nat) (pp : Nat) (v : Int32) (v9 : va_W) (H : Heap) (locs : List Loc) (ls : Array Slot), (4 < i + k) → (i ≤ 4) → (pp = t + i) → (pp ≤ n) → (s2 = -1 → mo_dig f0 n 4 t 0 = mo_dig f0 n (4 - i) pp v) → (¬ s2 = -1 → pp = t ∧ v = 0) → (lv_has ls 5 [(4, .int v), (3, .int (nI t)), (0, .ref h), (1, .int lo), (2, .int hi)]) → (va_P (xD g) vwCl v9 H) → (va_D (xA b0) v9) → (va_S (xA b0) s.heap H locs) → (xQ q (q + 18) ws v9) → (xMo g v9 q h ad (nI n) (nI pp) s2 s3 s4 s5 s6 f0 f1 f2 f3 f4 f5 f6 f7 f8 f9 f10 f11 f12 f13 f14 f15 f16) → W p l e (rmL 1) s m ([.ref h, .int lo, .int hi] : List Value).toArray below meth c H locs 0 0 (MQ below (va_Qi (fun r u => r = (mo_num f0 n lo hi t s2).1 ∧ xQ q (q + 18) ws u ∧ xMo g u q h ad (nI n) (nI (mo_num f0 n lo hi t s2).2.1) ((mo_num f0 n lo hi t s2).2.2) s3 s4 s5 s6 f0 f1 f2 f3 f4 f5 f6 f7 f8 f9 f10 f11 f12 f13 f14 f15 f16 ∧ (mo_num f0 n lo hi t s2).2.1 ≤ n) (fun u t => va_P (xD g) vwCl u t.heap ∧ va_D (xA b0) u) (xA b0)) ([.ref h, .int lo, .int hi] : List Value).toArray s 0 0 (xA b0)) (F0 m 8 ls []) := by
    intro k
    induction k with
    | zero =>
      intro i pp v v9 H locs ls hk hi4 hpp hp9 hv hv2 hl hP hD hS hQ eB
      omega
    | succ k ih =>
      intro i pp v v9 H locs ls hk hi4 hpp hp9 hv hv2 hl hP hD hS hQ eB
      refine lv_aload_n hx hb d_Mo_number_8 rfl (lv_at hl 2 rfl) ?_
      refine x_get E hP eB.1 rfl cl6_in 3 (by decide) wf_Mo_70 rfl d_Mo_number_9 ?_
      refine lv_iconst (v := (-1)) hx hb d_Mo_number_12 (by decide) ?_
      refine lv_icmp_ne (tgt := 72) hx hb d_Mo_number_13 (by decide) (fun c13 => ?_) (fun c13 => ?_)
      · refine lv_aload_n hx hb d_Mo_number_72 rfl (lv_at hl 2 rfl) ?_
        refine x_get E hP eB.1 rfl cl6_in 3 (by decide) wf_Mo_70 rfl d_Mo_number_73 ?_
        refine lv_iconst (v := (-1)) hx hb d_Mo_number_76 (by decide) ?_
        refine lv_icmp_ne (tgt := 105) hx hb d_Mo_number_77 (by decide) (fun c77 => ?_) (fun c77 => absurd c77 c13)
        refine lv_iload hx hb d_Mo_number_105 (lv_at hl 0 rfl) ?_
        obtain ⟨hv3, hv4⟩ := hv2 c13
        exact x_ri E hr hS (by rw [mo_num, if_neg c13]; rw [hv3] at eB; exact ⟨hv4, hQ, eB, hp⟩) hP hD d_Mo_number_107
      · refine lv_aload_n hx hb d_Mo_number_16 rfl (lv_at hl 2 rfl) ?_
        refine x_get E hP eB.1 rfl cl6_in 2 (by decide) wf_Mo_67 rfl d_Mo_number_17 ?_
        refine lv_iload_n hx hb d_Mo_number_20 rfl (lv_at hl 1 rfl) ?_
        refine lv_iconst (v := 4) hx hb d_Mo_number_21 (by decide) ?_
        refine lv_iadd hx hb d_Mo_number_22 ?_
        refine x_top (y := nI (t + 4)) (nI_add t 4) ?_
        refine lv_icmp_ge (tgt := 72) hx hb d_Mo_number_23 (by decide) (fun c23 => ?_) (fun c23 => ?_)
        · have hd9 : mo_dig f0 n 4 t 0 = (pp, v) := by
            have h7 := (nI_leI (by omega) (by omega)).mp c23
            have h6 : i = 4 := by omega
            rw [hv c13, h6]; rfl
          refine lv_aload_n hx hb d_Mo_number_72 rfl (lv_at hl 2 rfl) ?_
          refine x_get E hP eB.1 rfl cl6_in 3 (by decide) wf_Mo_70 rfl d_Mo_number_73 ?_
          refine lv_iconst (v := (-1)) hx hb d_Mo_number_76 (by decide) ?_
          refine lv_icmp_ne (tgt := 105) hx hb d_Mo_number_77 (by decide) (fun c77 => absurd c13 c77) (fun c77 => ?_)
          refine lv_aload_n hx hb d_Mo_number_80 rfl (lv_at hl 2 rfl) ?_
          refine x_get E hP eB.1 rfl cl6_in 2 (by decide) wf_Mo_67 rfl d_Mo_number_81 ?_
          refine lv_iload_n hx hb d_Mo_number_84 rfl (lv_at hl 1 rfl) ?_
          refine lv_icmp_eq (tgt := 100) hx hb d_Mo_number_85 (by decide) (fun c85 => ?_) (fun c85 => ?_)
          · have h85 : pp = t := (nI_eq (by omega) (by omega)).mp c85
            refine lv_aload_n hx hb d_Mo_number_100 rfl (lv_at hl 2 rfl) ?_
            refine lv_iload_n hx hb d_Mo_number_101 rfl (lv_at hl 1 rfl) ?_
            refine x_cVv (As := [.int (nI t)]) (rest := []) E (c_Mo_mark l g b0 _ eB (nI t)) wy_Mo_mark wl_Mo_77 hP hD hS eB.1 rfl hl.1 ⟨by decide, by decide⟩ ⟨Nat.le_refl _, Nat.le_refl _⟩ rfl (Nat.le_of_ble_eq_true rfl) d_Mo_number_102 (fun w51 H locs hr102 hP hD hS => ?_)
            obtain ⟨hq, eB⟩ := hr102
            have hQ := hQ.tr hq
            refine lv_iload hx hb d_Mo_number_105 (lv_at hl 0 rfl) ?_
            have e9 : mo_num f0 n lo hi t s2 = (v, pp, mo_mark s2 (nI t)) := by rw [mo_num, if_pos c13, hd9, mo_nm2]; show (v, pp, _) = (v, pp, _); rw [if_pos h85]
            exact x_ri E hr hS (by rw [e9]; exact ⟨rfl, hQ, eB, hp9⟩) hP hD d_Mo_number_107
          · have h85 : ¬ pp = t := fun h => c85 (by rw [h])
            refine lv_iload hx hb d_Mo_number_88 (lv_at hl 0 rfl) ?_
            refine lv_iload_n hx hb d_Mo_number_90 rfl (lv_at hl 3 rfl) ?_
            refine lv_icmp_lt (tgt := 100) hx hb d_Mo_number_91 (by decide) (fun c91 => ?_) (fun c91 => ?_)
            · refine lv_aload_n hx hb d_Mo_number_100 rfl (lv_at hl 2 rfl) ?_
              refine lv_iload_n hx hb d_Mo_number_101 rfl (lv_at hl 1 rfl) ?_
              refine x_cVv (As := [.int (nI t)]) (rest := []) E (c_Mo_mark l g b0 _ eB (nI t)) wy_Mo_mark wl_Mo_77 hP hD hS eB.1 rfl hl.1 ⟨by decide, by decide⟩ ⟨Nat.le_refl _, Nat.le_refl _⟩ rfl (Nat.le_of_ble_eq_true rfl) d_Mo_number_102 (fun w51 H locs hr102 hP hD hS => ?_)
              obtain ⟨hq, eB⟩ := hr102
              have hQ := hQ.tr hq
              refine lv_iload hx hb d_Mo_number_105 (lv_at hl 0 rfl) ?_
              have e9 : mo_num f0 n lo hi t s2 = (v, pp, mo_mark s2 (nI t)) := by rw [mo_num, if_pos c13, hd9, mo_nm2]; show (v, pp, _) = (v, pp, _); rw [if_neg h85, if_pos c91]
              exact x_ri E hr hS (by rw [e9]; exact ⟨rfl, hQ, eB, hp9⟩) hP hD d_Mo_number_107
            · refine lv_iload hx hb d_Mo_number_94 (lv_at hl 0 rfl) ?_
              refine lv_iload_n hx hb d_Mo_number_96 rfl (lv_at hl 4 rfl) ?_
              refine lv_icmp_le (tgt := 105) hx hb d_Mo_number_97 (by decide) (fun c97 => ?_) (fun c97 => ?_)
              · refine lv_iload hx hb d_Mo_number_105 (lv_at hl 0 rfl) ?_
                have e9 : mo_num f0 n lo hi t s2 = (v, pp, s2) := by rw [mo_num, if_pos c13, hd9, mo_nm2]; show (v, pp, _) = (v, pp, _); rw [if_neg h85, if_neg c91, if_pos c97]
                exact x_ri E hr hS (by rw [e9]; exact ⟨rfl, hQ, eB, hp9⟩) hP hD d_Mo_number_107
              · refine lv_aload_n hx hb d_Mo_number_100 rfl (lv_at hl 2 rfl) ?_
                refine lv_iload_n hx hb d_Mo_number_101 rfl (lv_at hl 1 rfl) ?_
                refine x_cVv (As := [.int (nI t)]) (rest := []) E (c_Mo_mark l g b0 _ eB (nI t)) wy_Mo_mark wl_Mo_77 hP hD hS eB.1 rfl hl.1 ⟨by decide, by decide⟩ ⟨Nat.le_refl _, Nat.le_refl _⟩ rfl (Nat.le_of_ble_eq_true rfl) d_Mo_number_102 (fun w51 H locs hr102 hP hD hS => ?_)
                obtain ⟨hq, eB⟩ := hr102
                have hQ := hQ.tr hq
                refine lv_iload hx hb d_Mo_number_105 (lv_at hl 0 rfl) ?_
                have e9 : mo_num f0 n lo hi t s2 = (v, pp, mo_mark s2 (nI t)) := by rw [mo_num, if_pos c13, hd9, mo_nm2]; show (v, pp, _) = (v, pp, _); rw [if_neg h85, if_neg c91, if_neg c97]
                exact x_ri E hr hS (by rw [e9]; exact ⟨rfl, hQ, eB, hp9⟩) hP hD d_Mo_number_107
        · have hi9 : i < 4 := by
            have := Nat.not_le.mp fun h => c23 (nI_le h (by omega))
            omega
          have hs9 : 4 - i = (4 - (i + 1)) + 1 := by omega
          refine lv_aload_n hx hb d_Mo_number_26 rfl (lv_at hl 2 rfl) ?_
          refine x_cRi (As := []) (rest := []) E (c_Mo_look l g b0 _ eB (by omega) (by omega)) wy_Mo_look wl_Mo_73 hP hD hS eB.1 rfl hl.1 ⟨by decide, by decide⟩ ⟨Nat.le_refl _, Nat.le_refl _⟩ rfl (Nat.le_of_ble_eq_true rfl) d_Mo_number_27 (fun r27 hr27 => ?_)
          subst hr27
          refine lv_bipush (v := 48) hx hb d_Mo_number_30 (by decide) ?_
          refine lv_icmp_lt (tgt := 72) hx hb d_Mo_number_32 (by decide) (fun c32 => ?_) (fun c32 => ?_)
          · have hd9 : mo_dig f0 n 4 t 0 = (pp, v) := by rw [hv c13, hs9, mo_dig, if_pos c32]
            refine lv_aload_n hx hb d_Mo_number_72 rfl (lv_at hl 2 rfl) ?_
            refine x_get E hP eB.1 rfl cl6_in 3 (by decide) wf_Mo_70 rfl d_Mo_number_73 ?_
            refine lv_iconst (v := (-1)) hx hb d_Mo_number_76 (by decide) ?_
            refine lv_icmp_ne (tgt := 105) hx hb d_Mo_number_77 (by decide) (fun c77 => absurd c13 c77) (fun c77 => ?_)
            refine lv_aload_n hx hb d_Mo_number_80 rfl (lv_at hl 2 rfl) ?_
            refine x_get E hP eB.1 rfl cl6_in 2 (by decide) wf_Mo_67 rfl d_Mo_number_81 ?_
            refine lv_iload_n hx hb d_Mo_number_84 rfl (lv_at hl 1 rfl) ?_
            refine lv_icmp_eq (tgt := 100) hx hb d_Mo_number_85 (by decide) (fun c85 => ?_) (fun c85 => ?_)
            · have h85 : pp = t := (nI_eq (by omega) (by omega)).mp c85
              refine lv_aload_n hx hb d_Mo_number_100 rfl (lv_at hl 2 rfl) ?_
              refine lv_iload_n hx hb d_Mo_number_101 rfl (lv_at hl 1 rfl) ?_
              refine x_cVv (As := [.int (nI t)]) (rest := []) E (c_Mo_mark l g b0 _ eB (nI t)) wy_Mo_mark wl_Mo_77 hP hD hS eB.1 rfl hl.1 ⟨by decide, by decide⟩ ⟨Nat.le_refl _, Nat.le_refl _⟩ rfl (Nat.le_of_ble_eq_true rfl) d_Mo_number_102 (fun w52 H locs hr102 hP hD hS => ?_)
              obtain ⟨hq, eB⟩ := hr102
              have hQ := hQ.tr hq
              refine lv_iload hx hb d_Mo_number_105 (lv_at hl 0 rfl) ?_
              have e9 : mo_num f0 n lo hi t s2 = (v, pp, mo_mark s2 (nI t)) := by rw [mo_num, if_pos c13, hd9, mo_nm2]; show (v, pp, _) = (v, pp, _); rw [if_pos h85]
              exact x_ri E hr hS (by rw [e9]; exact ⟨rfl, hQ, eB, hp9⟩) hP hD d_Mo_number_107
            · have h85 : ¬ pp = t := fun h => c85 (by rw [h])
              refine lv_iload hx hb d_Mo_number_88 (lv_at hl 0 rfl) ?_
              refine lv_iload_n hx hb d_Mo_number_90 rfl (lv_at hl 3 rfl) ?_
              refine lv_icmp_lt (tgt := 100) hx hb d_Mo_number_91 (by decide) (fun c91 => ?_) (fun c91 => ?_)
              · refine lv_aload_n hx hb d_Mo_number_100 rfl (lv_at hl 2 rfl) ?_
                refine lv_iload_n hx hb d_Mo_number_101 rfl (lv_at hl 1 rfl) ?_
                refine x_cVv (As := [.int (nI t)]) (rest := []) E (c_Mo_mark l g b0 _ eB (nI t)) wy_Mo_mark wl_Mo_77 hP hD hS eB.1 rfl hl.1 ⟨by decide, by decide⟩ ⟨Nat.le_refl _, Nat.le_refl _⟩ rfl (Nat.le_of_ble_eq_true rfl) d_Mo_number_102 (fun w52 H locs hr102 hP hD hS => ?_)
                obtain ⟨hq, eB⟩ := hr102
                have hQ := hQ.tr hq
                refine lv_iload hx hb d_Mo_number_105 (lv_at hl 0 rfl) ?_
                have e9 : mo_num f0 n lo hi t s2 = (v, pp, mo_mark s2 (nI t)) := by rw [mo_num, if_pos c13, hd9, mo_nm2]; show (v, pp, _) = (v, pp, _); rw [if_neg h85, if_pos c91]
                exact x_ri E hr hS (by rw [e9]; exact ⟨rfl, hQ, eB, hp9⟩) hP hD d_Mo_number_107
              · refine lv_iload hx hb d_Mo_number_94 (lv_at hl 0 rfl) ?_
                refine lv_iload_n hx hb d_Mo_number_96 rfl (lv_at hl 4 rfl) ?_
                refine lv_icmp_le (tgt := 105) hx hb d_Mo_number_97 (by decide) (fun c97 => ?_) (fun c97 => ?_)
                · refine lv_iload hx hb d_Mo_number_105 (lv_at hl 0 rfl) ?_
                  have e9 : mo_num f0 n lo hi t s2 = (v, pp, s2) := by rw [mo_num, if_pos c13, hd9, mo_nm2]; show (v, pp, _) = (v, pp, _); rw [if_neg h85, if_neg c91, if_pos c97]
                  exact x_ri E hr hS (by rw [e9]; exact ⟨rfl, hQ, eB, hp9⟩) hP hD d_Mo_number_107
                · refine lv_aload_n hx hb d_Mo_number_100 rfl (lv_at hl 2 rfl) ?_
                  refine lv_iload_n hx hb d_Mo_number_101 rfl (lv_at hl 1 rfl) ?_
                  refine x_cVv (As := [.int (nI t)]) (rest := []) E (c_Mo_mark l g b0 _ eB (nI t)) wy_Mo_mark wl_Mo_77 hP hD hS eB.1 rfl hl.1 ⟨by decide, by decide⟩ ⟨Nat.le_refl _, Nat.le_refl _⟩ rfl (Nat.le_of_ble_eq_true rfl) d_Mo_number_102 (fun w52 H locs hr102 hP hD hS => ?_)
                  obtain ⟨hq, eB⟩ := hr102
                  have hQ := hQ.tr hq
                  refine lv_iload hx hb d_Mo_number_105 (lv_at hl 0 rfl) ?_
                  have e9 : mo_num f0 n lo hi t s2 = (v, pp, mo_mark s2 (nI t)) := by rw [mo_num, if_pos c13, hd9, mo_nm2]; show (v, pp, _) = (v, pp, _); rw [if_neg h85, if_neg c91, if_neg c97]
                  exact x_ri E hr hS (by rw [e9]; exact ⟨rfl, hQ, eB, hp9⟩) hP hD d_Mo_number_107
          · refine lv_aload_n hx hb d_Mo_number_35 rfl (lv_at hl 2 rfl) ?_
            refine x_cRi (As := []) (rest := []) E (c_Mo_look l g b0 _ eB (by omega) (by omega)) wy_Mo_look wl_Mo_73 hP hD hS eB.1 rfl hl.1 ⟨by decide, by decide⟩ ⟨Nat.le_refl _, Nat.le_refl _⟩ rfl (Nat.le_of_ble_eq_true rfl) d_Mo_number_36 (fun r36 hr36 => ?_)
            subst hr36
            refine lv_bipush (v := 57) hx hb d_Mo_number_39 (by decide) ?_
            refine lv_icmp_gt (tgt := 72) hx hb d_Mo_number_41 (by decide) (fun c41 => ?_) (fun c41 => ?_)
            · have hd9 : mo_dig f0 n 4 t 0 = (pp, v) := by rw [hv c13, hs9, mo_dig, if_neg c32, if_pos c41]
              refine lv_aload_n hx hb d_Mo_number_72 rfl (lv_at hl 2 rfl) ?_
              refine x_get E hP eB.1 rfl cl6_in 3 (by decide) wf_Mo_70 rfl d_Mo_number_73 ?_
              refine lv_iconst (v := (-1)) hx hb d_Mo_number_76 (by decide) ?_
              refine lv_icmp_ne (tgt := 105) hx hb d_Mo_number_77 (by decide) (fun c77 => absurd c13 c77) (fun c77 => ?_)
              refine lv_aload_n hx hb d_Mo_number_80 rfl (lv_at hl 2 rfl) ?_
              refine x_get E hP eB.1 rfl cl6_in 2 (by decide) wf_Mo_67 rfl d_Mo_number_81 ?_
              refine lv_iload_n hx hb d_Mo_number_84 rfl (lv_at hl 1 rfl) ?_
              refine lv_icmp_eq (tgt := 100) hx hb d_Mo_number_85 (by decide) (fun c85 => ?_) (fun c85 => ?_)
              · have h85 : pp = t := (nI_eq (by omega) (by omega)).mp c85
                refine lv_aload_n hx hb d_Mo_number_100 rfl (lv_at hl 2 rfl) ?_
                refine lv_iload_n hx hb d_Mo_number_101 rfl (lv_at hl 1 rfl) ?_
                refine x_cVv (As := [.int (nI t)]) (rest := []) E (c_Mo_mark l g b0 _ eB (nI t)) wy_Mo_mark wl_Mo_77 hP hD hS eB.1 rfl hl.1 ⟨by decide, by decide⟩ ⟨Nat.le_refl _, Nat.le_refl _⟩ rfl (Nat.le_of_ble_eq_true rfl) d_Mo_number_102 (fun w53 H locs hr102 hP hD hS => ?_)
                obtain ⟨hq, eB⟩ := hr102
                have hQ := hQ.tr hq
                refine lv_iload hx hb d_Mo_number_105 (lv_at hl 0 rfl) ?_
                have e9 : mo_num f0 n lo hi t s2 = (v, pp, mo_mark s2 (nI t)) := by rw [mo_num, if_pos c13, hd9, mo_nm2]; show (v, pp, _) = (v, pp, _); rw [if_pos h85]
                exact x_ri E hr hS (by rw [e9]; exact ⟨rfl, hQ, eB, hp9⟩) hP hD d_Mo_number_107
              · have h85 : ¬ pp = t := fun h => c85 (by rw [h])
                refine lv_iload hx hb d_Mo_number_88 (lv_at hl 0 rfl) ?_
                refine lv_iload_n hx hb d_Mo_number_90 rfl (lv_at hl 3 rfl) ?_
                refine lv_icmp_lt (tgt := 100) hx hb d_Mo_number_91 (by decide) (fun c91 => ?_) (fun c91 => ?_)
                · refine lv_aload_n hx hb d_Mo_number_100 rfl (lv_at hl 2 rfl) ?_
                  refine lv_iload_n hx hb d_Mo_number_101 rfl (lv_at hl 1 rfl) ?_
                  refine x_cVv (As := [.int (nI t)]) (rest := []) E (c_Mo_mark l g b0 _ eB (nI t)) wy_Mo_mark wl_Mo_77 hP hD hS eB.1 rfl hl.1 ⟨by decide, by decide⟩ ⟨Nat.le_refl _, Nat.le_refl _⟩ rfl (Nat.le_of_ble_eq_true rfl) d_Mo_number_102 (fun w53 H locs hr102 hP hD hS => ?_)
                  obtain ⟨hq, eB⟩ := hr102
                  have hQ := hQ.tr hq
                  refine lv_iload hx hb d_Mo_number_105 (lv_at hl 0 rfl) ?_
                  have e9 : mo_num f0 n lo hi t s2 = (v, pp, mo_mark s2 (nI t)) := by rw [mo_num, if_pos c13, hd9, mo_nm2]; show (v, pp, _) = (v, pp, _); rw [if_neg h85, if_pos c91]
                  exact x_ri E hr hS (by rw [e9]; exact ⟨rfl, hQ, eB, hp9⟩) hP hD d_Mo_number_107
                · refine lv_iload hx hb d_Mo_number_94 (lv_at hl 0 rfl) ?_
                  refine lv_iload_n hx hb d_Mo_number_96 rfl (lv_at hl 4 rfl) ?_
                  refine lv_icmp_le (tgt := 105) hx hb d_Mo_number_97 (by decide) (fun c97 => ?_) (fun c97 => ?_)
                  · refine lv_iload hx hb d_Mo_number_105 (lv_at hl 0 rfl) ?_
                    have e9 : mo_num f0 n lo hi t s2 = (v, pp, s2) := by rw [mo_num, if_pos c13, hd9, mo_nm2]; show (v, pp, _) = (v, pp, _); rw [if_neg h85, if_neg c91, if_pos c97]
                    exact x_ri E hr hS (by rw [e9]; exact ⟨rfl, hQ, eB, hp9⟩) hP hD d_Mo_number_107
                  · refine lv_aload_n hx hb d_Mo_number_100 rfl (lv_at hl 2 rfl) ?_
                    refine lv_iload_n hx hb d_Mo_number_101 rfl (lv_at hl 1 rfl) ?_
                    refine x_cVv (As := [.int (nI t)]) (rest := []) E (c_Mo_mark l g b0 _ eB (nI t)) wy_Mo_mark wl_Mo_77 hP hD hS eB.1 rfl hl.1 ⟨by decide, by decide⟩ ⟨Nat.le_refl _, Nat.le_refl _⟩ rfl (Nat.le_of_ble_eq_true rfl) d_Mo_number_102 (fun w53 H locs hr102 hP hD hS => ?_)
                    obtain ⟨hq, eB⟩ := hr102
                    have hQ := hQ.tr hq
                    refine lv_iload hx hb d_Mo_number_105 (lv_at hl 0 rfl) ?_
                    have e9 : mo_num f0 n lo hi t s2 = (v, pp, mo_mark s2 (nI t)) := by rw [mo_num, if_pos c13, hd9, mo_nm2]; show (v, pp, _) = (v, pp, _); rw [if_neg h85, if_neg c91, if_neg c97]
                    exact x_ri E hr hS (by rw [e9]; exact ⟨rfl, hQ, eB, hp9⟩) hP hD d_Mo_number_107
            · have hp8 : pp < n := mo_look_lt (fun h => c32 (by rw [h]; decide))
              refine lv_bipush (v := 10) hx hb d_Mo_number_44 (by decide) ?_
              refine lv_iload hx hb d_Mo_number_46 (lv_at hl 0 rfl) ?_
              refine lv_imul hx hb d_Mo_number_48 ?_
              refine lv_aload_n hx hb d_Mo_number_49 rfl (lv_at hl 2 rfl) ?_
              refine x_cRi (As := []) (rest := [.int (10 * v)]) E (c_Mo_look l g b0 _ eB (by omega) (by omega)) wy_Mo_look wl_Mo_73 hP hD hS eB.1 rfl hl.1 ⟨by decide, by decide⟩ ⟨Nat.le_refl _, Nat.le_refl _⟩ rfl (Nat.le_of_ble_eq_true rfl) d_Mo_number_50 (fun r50 hr50 => ?_)
              subst hr50
              refine lv_iadd hx hb d_Mo_number_53 ?_
              refine lv_bipush (v := 48) hx hb d_Mo_number_54 (by decide) ?_
              refine lv_isub hx hb d_Mo_number_56 ?_
              refine lv_istore (lv' := [(4, .int (((10 * v) + (mo_look f0 n pp)) - 48)), (3, .int (nI t)), (0, .ref h), (1, .int lo), (2, .int hi)]) hx hb d_Mo_number_57 hl (by decide) rfl (fun ls hl => ?_)
              refine lv_aload_n hx hb d_Mo_number_59 rfl (lv_at hl 2 rfl) ?_
              refine lv_dup hx hb d_Mo_number_60 rfl ?_
              refine x_get E hP eB.1 rfl cl6_in 2 (by decide) wf_Mo_67 rfl d_Mo_number_61 ?_
              refine lv_iconst (v := 1) hx hb d_Mo_number_64 (by decide) ?_
              refine lv_iadd hx hb d_Mo_number_65 ?_
              refine x_top (y := nI (pp + 1)) (nI_1 pp) ?_
              refine x_put E hP hD hS eB.1 rfl cl6_in cl6_ty cl6_nm 2 (by decide) wf_Mo_67 rfl rfl rfl (Nat.le_of_ble_eq_true rfl) d_Mo_number_66 (fun w54 H locs hU54 hP hD hS => ?_)
              have eB : xMo g w54 q h ad (nI n) (nI (pp + 1)) s2 s3 s4 s5 s6 f0 f1 f2 f3 f4 f5 f6 f7 f8 f9 f10 f11 f12 f13 f14 f15 f16 := eB.t1 hU54
              have hQ := hQ.up hU54 (by omega)
              refine lv_goto (tgt := 8) hx hb d_Mo_number_69 (by decide) ?_
              exact ih (i + 1) (pp + 1) (10 * v + mo_look f0 n pp - 48) _ _ _ _ (by omega) (by omega) (by omega) (by omega) (fun _ => by rw [hv c13, hs9, mo_dig, if_neg c32, if_neg c41]) (fun h => absurd c13 h) hl hP hD hS hQ eB
  exact loop 5 0 t 0 _ _ _ _ (by omega) (by omega) rfl hp (fun _ => rfl) (fun _ => ⟨rfl, rfl⟩) hl hP hD hS hQ eB
def mo_kind (x : Int32) : Int32 := if x = 70 then 0 else if x = 66 then 1 else if x = 82 then 2 else if x = 71 then 3 else if x = 83 then 4 else -1
set_option maxRecDepth 100000 in
set_option maxHeartbeats 4000000 in
theorem c_Mo_kindOf (l : Launch) (g : xG) (b0 : Nat) (ws : va_W) (x : Int32) : xRi l g b0 y_Mo_kindOf b_Mo_kindOf 1 (some .int) 0 [.int x] ws (fun r => r = mo_kind x) := by
  unfold xRi
  refine x_in (by decide) (Nat.le_of_ble_eq_true rfl) ?_
  intro p e s m below meth c ls E hr hin hP hD hl
  obtain ⟨hx, hb, hml, hown, hts, hK, hZ, hb0, hlocks⟩ := id E
  have hS : va_S (xA b0) s.heap s.heap [] := va_S.rf
  have hl : lv_has ls 1 [(0, .int x)] := hl
  refine lv_iload_n hx hb d_Mo_kindOf_0 rfl (lv_at hl 0 rfl) ?_
  refine lv_bipush (v := 70) hx hb d_Mo_kindOf_1 (by decide) ?_
  refine lv_icmp_ne (tgt := 10) hx hb d_Mo_kindOf_3 (by decide) (fun c3 => ?_) (fun c3 => ?_)
  · refine lv_iload_n hx hb d_Mo_kindOf_10 rfl (lv_at hl 0 rfl) ?_
    refine lv_bipush (v := 66) hx hb d_Mo_kindOf_11 (by decide) ?_
    refine lv_icmp_ne (tgt := 20) hx hb d_Mo_kindOf_13 (by decide) (fun c13 => ?_) (fun c13 => ?_)
    · refine lv_iload_n hx hb d_Mo_kindOf_20 rfl (lv_at hl 0 rfl) ?_
      refine lv_bipush (v := 82) hx hb d_Mo_kindOf_21 (by decide) ?_
      refine lv_icmp_ne (tgt := 30) hx hb d_Mo_kindOf_23 (by decide) (fun c23 => ?_) (fun c23 => ?_)
      · refine lv_iload_n hx hb d_Mo_kindOf_30 rfl (lv_at hl 0 rfl) ?_
        refine lv_bipush (v := 71) hx hb d_Mo_kindOf_31 (by decide) ?_
        refine lv_icmp_ne (tgt := 40) hx hb d_Mo_kindOf_33 (by decide) (fun c33 => ?_) (fun c33 => ?_)
        · refine lv_iload_n hx hb d_Mo_kindOf_40 rfl (lv_at hl 0 rfl) ?_
          refine lv_bipush (v := 83) hx hb d_Mo_kindOf_41 (by decide) ?_
          refine lv_icmp_ne (tgt := 50) hx hb d_Mo_kindOf_43 (by decide) (fun c43 => ?_) (fun c43 => ?_)
          · refine lv_iconst (v := (-1)) hx hb d_Mo_kindOf_50 (by decide) ?_
            exact x_pi E hr (by rw [mo_kind, if_neg c3, if_neg c13, if_neg c23, if_neg c33, if_neg c43]) d_Mo_kindOf_51
          · refine lv_iconst (v := 4) hx hb d_Mo_kindOf_46 (by decide) ?_
            refine lv_goto (tgt := 51) hx hb d_Mo_kindOf_47 (by decide) ?_
            exact x_pi E hr (by rw [mo_kind, if_neg c3, if_neg c13, if_neg c23, if_neg c33, if_pos c43]) d_Mo_kindOf_51
        · refine lv_iconst (v := 3) hx hb d_Mo_kindOf_36 (by decide) ?_
          refine lv_goto (tgt := 51) hx hb d_Mo_kindOf_37 (by decide) ?_
          exact x_pi E hr (by rw [mo_kind, if_neg c3, if_neg c13, if_neg c23, if_pos c33]) d_Mo_kindOf_51
      · refine lv_iconst (v := 2) hx hb d_Mo_kindOf_26 (by decide) ?_
        refine lv_goto (tgt := 51) hx hb d_Mo_kindOf_27 (by decide) ?_
        exact x_pi E hr (by rw [mo_kind, if_neg c3, if_neg c13, if_pos c23]) d_Mo_kindOf_51
    · refine lv_iconst (v := 1) hx hb d_Mo_kindOf_16 (by decide) ?_
      refine lv_goto (tgt := 51) hx hb d_Mo_kindOf_17 (by decide) ?_
      exact x_pi E hr (by rw [mo_kind, if_neg c3, if_pos c13]) d_Mo_kindOf_51
  · refine lv_iconst (v := 0) hx hb d_Mo_kindOf_6 (by decide) ?_
    refine lv_goto (tgt := 51) hx hb d_Mo_kindOf_7 (by decide) ?_
    exact x_pi E hr (by rw [mo_kind, if_pos c3]) d_Mo_kindOf_51
set_option maxRecDepth 100000 in
set_option maxHeartbeats 4000000 in
theorem c_Mo_way (l : Launch) (g : xG) (b0 : Nat) (ws : va_W) {q h : Nat} {ad : Nat → Nat} {s2 s4 s5 s6 : Int32} {f0 f1 f2 f3 f4 f5 f6 f7 f8 f9 f10 f11 f12 f13 f14 f16 : Nat → Int32} {f15 : Nat → Int64} {n t k : Nat} (eB : xMo g ws q h ad (nI n) (nI t) s2 (nI k) s4 s5 s6 f0 f1 f2 f3 f4 f5 f6 f7 f8 f9 f10 f11 f12 f13 f14 f15 f16) (hn : n ≤ 300) (hp : t ≤ n) (hk : k < 24) (x : Int32) (j : Nat) (hx0 : x = nI j) (hj : j < 2) : xMv l g b0 y_Mo_way b_Mo_way 2 2 [.ref h, .int x] ws (fun u => xQ q (q + 18) ws u ∧ xMo g u q h ad (nI n) (nI (mo_num f0 n 0 29 t s2).2.1) ((mo_num f0 n 0 29 t s2).2.2) (nI k) s4 s5 s6 f0 f1 f2 f3 f4 (upd f5 (2 * k + j) (mo_num f0 n 0 29 t s2).1) f6 f7 f8 f9 f10 f11 f12 f13 f14 f15 f16 ∧ (mo_num f0 n 0 29 t s2).2.1 ≤ n) := by
  unfold xMv
  refine x_in (by decide) (Nat.le_of_ble_eq_true rfl) ?_
  intro p e s m below meth c ls E hr hin hP hD hl
  obtain ⟨hx, hb, hml, hown, hts, hK, hZ, hb0, hlocks⟩ := id E
  have hS : va_S (xA b0) s.heap s.heap [] := va_S.rf
  have hl : lv_has ls 2 [(0, .ref h), (1, .int x)] := hl
  have hQ : xQ q (q + 18) ws ws := xQ.rf
  refine lv_aload_n hx hb d_Mo_way_0 rfl (lv_at hl 0 rfl) ?_
  refine x_get E hP eB.1 rfl cl6_in 9 (by decide) wf_Mo_25 rfl d_Mo_way_1 ?_
  refine lv_iconst (v := 2) hx hb d_Mo_way_4 (by decide) ?_
  refine lv_aload_n hx hb d_Mo_way_5 rfl (lv_at hl 0 rfl) ?_
  refine x_get E hP eB.1 rfl cl6_in 4 (by decide) wf_Mo_81 rfl d_Mo_way_6 ?_
  refine lv_imul hx hb d_Mo_way_9 ?_
  refine lv_iload_n hx hb d_Mo_way_10 rfl (lv_at hl 1 rfl) ?_
  refine lv_iadd hx hb d_Mo_way_11 ?_
  refine x_top (y := nI (2 * k + j)) (by rw [hx0]; exact (congrArg (· + nI j) (pk_mul 2 k)).trans (nI_add (2 * k) j)) ?_
  refine lv_aload_n hx hb d_Mo_way_12 rfl (lv_at hl 0 rfl) ?_
  refine lv_iconst (v := 0) hx hb d_Mo_way_13 (by decide) ?_
  refine lv_bipush (v := 29) hx hb d_Mo_way_14 (by decide) ?_
  refine x_cVi (As := [.int 0, .int 29]) (rest := [.int (nI (2 * k + j)), .ref (ad 5)]) E (c_Mo_number l g b0 _ eB hn hp 0 29) wy_Mo_number wl_Mo_84 hP hD hS eB.1 rfl hl.1 ⟨by decide, by decide⟩ ⟨Nat.le_refl _, Nat.le_refl _⟩ rfl (Nat.le_of_ble_eq_true rfl) d_Mo_way_16 (fun r16 w1 H locs hr16 hP hD hS => ?_)
  obtain ⟨rfl, hq, eB, hp⟩ := hr16
  have hQ := hQ.tr hq
  refine x_iast E hP hD hS eB.2.2.2.2.2.2.1 (j := 2 * k + j) rfl (by omega) (by decide) d_Mo_way_19 (fun w2 H locs hU2 hP hD hS => ?_)
  have eB : xMo g w2 q h ad (nI n) (nI (mo_num f0 n 0 29 t s2).2.1) ((mo_num f0 n 0 29 t s2).2.2) (nI k) s4 s5 s6 f0 f1 f2 f3 f4 (upd f5 (2 * k + j) ((mo_num f0 n 0 29 t s2).1)) f6 f7 f8 f9 f10 f11 f12 f13 f14 f15 f16 := eB.a5 hU2
  have hQ := hQ.up hU2 (by omega)
  exact x_rv E hr hS ⟨hQ, eB, hp⟩ hP hD d_Mo_way_20
