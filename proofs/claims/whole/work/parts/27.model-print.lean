def pn_put (s : tx_S) (x : Int32) : tx_S := (upd s.1 s.2 x, s.2 + 1)
def mo_e (x : Nat) : Nat := if x < 10 then 0 else if x < 100 then 1 else if x < 1000 then 2 else 3
def mo_pw : Nat → Nat
  | 0 => 0
  | j + 1 => 10 ^ j
def mo_dgs (x : Nat) : Nat → tx_S → tx_S
  | 0, s => s
  | j + 1, s => mo_dgs x j (pn_put s (nI (48 + x / 10 ^ j % 10)))
def mo_pn (v : Int32) (s : tx_S) : tx_S := mo_dgs v.toNatClampNeg (mo_e v.toNatClampNeg + 1) s
theorem mo_dgs_n {x : Nat} : ∀ (j : Nat) (s : tx_S), (mo_dgs x j s).2 = s.2 + j
  | 0, s => rfl
  | j + 1, s => by
    show (mo_dgs x j (pn_put s _)).2 = _
    rw [mo_dgs_n j]
    show s.2 + 1 + j = _
    omega
theorem mo_e_le {x : Nat} : mo_e x ≤ 3 := by
  unfold mo_e
  split
  · omega
  · split
    · omega
    · split <;> omega
theorem mo_pn_n {v : Int32} {s : tx_S} : (mo_pn v s).2 ≤ s.2 + 4 := by
  unfold mo_pn
  rw [mo_dgs_n]
  have := mo_e_le (x := v.toNatClampNeg)
  omega
theorem mo_p10 {j : Nat} (h : j ≤ 3) : 0 < 10 ^ j ∧ 10 ^ j ≤ 1000 := by
  obtain rfl | rfl | rfl | rfl : j = 0 ∨ j = 1 ∨ j = 2 ∨ j = 3 := by omega
  all_goals decide
theorem mo_pw_div {j : Nat} (h : j ≤ 3) : mo_pw (j + 1) / 10 = mo_pw j := by
  obtain rfl | rfl | rfl | rfl : j = 0 ∨ j = 1 ∨ j = 2 ∨ j = 3 := by omega
  all_goals decide
theorem mo_e_c (x : Nat) : (mo_e x = 0 ∧ x < 10) ∨ (mo_e x = 1 ∧ 10 ≤ x ∧ x < 100) ∨ (mo_e x = 2 ∧ 100 ≤ x ∧ x < 1000) ∨ (mo_e x = 3 ∧ 1000 ≤ x) := by
  unfold mo_e
  split
  · omega
  · split
    · omega
    · split <;> omega
theorem mo_e_is {x j : Nat} (hx : x ≤ 9999) (h3 : j ≤ 3) (hj : j ≤ mo_e x) (h : x / 10 ^ j ≤ 9) : j = mo_e x := by
  have hc := mo_e_c x
  obtain rfl | rfl | rfl | rfl : j = 0 ∨ j = 1 ∨ j = 2 ∨ j = 3 := by omega
  all_goals
    simp only [Nat.reducePow] at h
    omega
theorem mo_e_go {x j : Nat} (hx : x ≤ 9999) (h3 : j ≤ 3) (h : ¬ x / 10 ^ j ≤ 9) : j + 1 ≤ mo_e x ∧ j < 3 := by
  have hc := mo_e_c x
  obtain rfl | rfl | rfl | rfl : j = 0 ∨ j = 1 ∨ j = 2 ∨ j = 3 := by omega
  all_goals
    simp only [Nat.reducePow] at h
    omega
def mo_vo (v : Int32) : Prop := ∃ x : Nat, x ≤ 9999 ∧ v = nI x
def mo_c1 (f6 f9 : Nat → Int32) (i : Nat) (s : tx_S) : tx_S := if f6 i = 1 then mo_pn (f9 i) (pn_put s 44) else s
def mo_c2 (f6 f10 : Nat → Int32) (i : Nat) (s : tx_S) : tx_S := if 4 ≤ f6 i then s else mo_pn (f10 (2 * i)) (pn_put s 62)
def mo_c3 (f6 f10 : Nat → Int32) (i : Nat) (s : tx_S) : tx_S := if f6 i = 3 then mo_pn (f10 (2 * i + 1)) (pn_put s 44) else s
def mo_pp (f6 f7 f8 f9 f10 : Nat → Int32) (i : Nat) (s : tx_S) : tx_S := pn_put (mo_c3 f6 f10 i (mo_c2 f6 f10 i (mo_c1 f6 f9 i (mo_pn (f8 i) (pn_put (mo_pn (f7 i) (pn_put s (mo_letter (f6 i)))) 61))))) 59
def mo_pall (f6 f7 f8 f9 f10 : Nat → Int32) (m : Nat) (s : tx_S) : tx_S := it (mo_pp f6 f7 f8 f9 f10) m s
def mo_pok (f6 f7 f8 f9 f10 : Nat → Int32) (m : Nat) : Prop := ∀ i, i < m → mo_vo (f7 i) ∧ mo_vo (f8 i) ∧ (f6 i = 1 → mo_vo (f9 i)) ∧ (¬ 4 ≤ f6 i → mo_vo (f10 (2 * i))) ∧ (f6 i = 3 → mo_vo (f10 (2 * i + 1)))
theorem mo_c1_n {f6 f9 : Nat → Int32} {i : Nat} {s : tx_S} : (mo_c1 f6 f9 i s).2 ≤ s.2 + 5 := by
  unfold mo_c1
  split
  · have := mo_pn_n (v := f9 i) (s := pn_put s 44)
    have : (pn_put s 44).2 = s.2 + 1 := rfl
    omega
  · omega
theorem mo_c2_n {f6 f10 : Nat → Int32} {i : Nat} {s : tx_S} : (mo_c2 f6 f10 i s).2 ≤ s.2 + 5 := by
  unfold mo_c2
  split
  · omega
  · have := mo_pn_n (v := f10 (2 * i)) (s := pn_put s 62)
    have : (pn_put s 62).2 = s.2 + 1 := rfl
    omega
theorem mo_c3_n {f6 f10 : Nat → Int32} {i : Nat} {s : tx_S} : (mo_c3 f6 f10 i s).2 ≤ s.2 + 5 := by
  unfold mo_c3
  split
  · have := mo_pn_n (v := f10 (2 * i + 1)) (s := pn_put s 44)
    have : (pn_put s 44).2 = s.2 + 1 := rfl
    omega
  · omega
theorem pn_put_n {s : tx_S} {x : Int32} : (pn_put s x).2 = s.2 + 1 := rfl
theorem mo_pp_n {f6 f7 f8 f9 f10 : Nat → Int32} {i : Nat} {s : tx_S} : (mo_pp f6 f7 f8 f9 f10 i s).2 ≤ s.2 + 26 := by
  unfold mo_pp
  have h1 := mo_pn_n (v := f7 i) (s := pn_put s (mo_letter (f6 i)))
  have h2 := mo_pn_n (v := f8 i) (s := pn_put (mo_pn (f7 i) (pn_put s (mo_letter (f6 i)))) 61)
  rw [pn_put_n] at h1 h2 ⊢
  generalize mo_pn (f8 i) (pn_put (mo_pn (f7 i) (pn_put s (mo_letter (f6 i)))) 61) = s3 at *
  have h3 := mo_c1_n (f6 := f6) (f9 := f9) (i := i) (s := s3)
  have h4 := mo_c2_n (f6 := f6) (f10 := f10) (i := i) (s := mo_c1 f6 f9 i s3)
  have h5 := mo_c3_n (f6 := f6) (f10 := f10) (i := i) (s := mo_c2 f6 f10 i (mo_c1 f6 f9 i s3))
  omega
theorem mo_pall_n {f6 f7 f8 f9 f10 : Nat → Int32} {s : tx_S} : ∀ m : Nat, (mo_pall f6 f7 f8 f9 f10 m s).2 ≤ s.2 + 26 * m
  | 0 => Nat.le_refl _
  | m + 1 => by
    have h1 := mo_pall_n (f6 := f6) (f7 := f7) (f8 := f8) (f9 := f9) (f10 := f10) (s := s) m
    have h2 := mo_pp_n (f6 := f6) (f7 := f7) (f8 := f8) (f9 := f9) (f10 := f10) (i := m) (s := mo_pall f6 f7 f8 f9 f10 m s)
    show (mo_pp f6 f7 f8 f9 f10 m (mo_pall f6 f7 f8 f9 f10 m s)).2 ≤ _
    omega
set_option maxRecDepth 100000 in
set_option maxHeartbeats 4000000 in
theorem c_Mo_put (l : Launch) (g : xG) (b0 : Nat) (ws : va_W) {q h : Nat} {ad : Nat → Nat} {s0 s1 s2 s3 s4 s5 : Int32} {f0 f1 f2 f3 f4 f5 f6 f7 f8 f9 f10 f11 f12 f13 f14 : Nat → Int32} {f15 : Nat → Int64} {zs : tx_S} (eB : xMo g ws q h ad s0 s1 s2 s3 s4 s5 (nI zs.2) f0 f1 f2 f3 f4 f5 f6 f7 f8 f9 f10 f11 f12 f13 f14 f15 zs.1) (hs : zs.2 < 900) (x : Int32) : xMv l g b0 y_Mo_put b_Mo_put 2 0 [.ref h, .int x] ws (fun u => xQ q (q + 18) ws u ∧ xMo g u q h ad s0 s1 s2 s3 s4 s5 (nI (pn_put zs x).2) f0 f1 f2 f3 f4 f5 f6 f7 f8 f9 f10 f11 f12 f13 f14 f15 ((pn_put zs x).1)) := by
  unfold xMv
  refine x_in (by decide) (Nat.le_of_ble_eq_true rfl) ?_
  intro p e s m below meth c ls E hr hin hP hD hl
  obtain ⟨hx, hb, hml, hown, hts, hK, hZ, hb0, hlocks⟩ := id E
  have hS : va_S (xA b0) s.heap s.heap [] := va_S.rf
  have hl : lv_has ls 2 [(0, .ref h), (1, .int x)] := hl
  have hQ : xQ q (q + 18) ws ws := xQ.rf
  refine lv_aload_n hx hb d_Mo_put_0 rfl (lv_at hl 0 rfl) ?_
  refine x_get E hP eB.1 rfl cl6_in 23 (by decide) wf_Mo_60 rfl d_Mo_put_1 ?_
  refine lv_aload_n hx hb d_Mo_put_4 rfl (lv_at hl 0 rfl) ?_
  refine x_get E hP eB.1 rfl cl6_in 22 (by decide) wf_Mo_138 rfl d_Mo_put_5 ?_
  refine lv_iload_n hx hb d_Mo_put_8 rfl (lv_at hl 1 rfl) ?_
  refine x_iast E hP hD hS eB.2.2.2.2.2.2.2.2.2.2.2.2.2.2.2.2.2 (j := zs.2) rfl hs (by decide) d_Mo_put_9 (fun w1 H locs hU1 hP hD hS => ?_)
  have eB : xMo g w1 q h ad s0 s1 s2 s3 s4 s5 (nI zs.2) f0 f1 f2 f3 f4 f5 f6 f7 f8 f9 f10 f11 f12 f13 f14 f15 (upd zs.1 zs.2 x) := eB.a16 hU1
  have hQ := hQ.up hU1 (by omega)
  refine lv_aload_n hx hb d_Mo_put_10 rfl (lv_at hl 0 rfl) ?_
  refine lv_dup hx hb d_Mo_put_11 rfl ?_
  refine x_get E hP eB.1 rfl cl6_in 22 (by decide) wf_Mo_138 rfl d_Mo_put_12 ?_
  refine lv_iconst (v := 1) hx hb d_Mo_put_15 (by decide) ?_
  refine lv_iadd hx hb d_Mo_put_16 ?_
  refine x_top (y := nI (zs.2 + 1)) (nI_1 zs.2) ?_
  refine x_put E hP hD hS eB.1 rfl cl6_in cl6_ty cl6_nm 22 (by decide) wf_Mo_138 rfl rfl rfl (Nat.le_of_ble_eq_true rfl) d_Mo_put_17 (fun w2 H locs hU2 hP hD hS => ?_)
  have eB : xMo g w2 q h ad s0 s1 s2 s3 s4 s5 (nI (zs.2 + 1)) f0 f1 f2 f3 f4 f5 f6 f7 f8 f9 f10 f11 f12 f13 f14 f15 (upd zs.1 zs.2 x) := eB.t6 hU2
  have hQ := hQ.up hU2 (by omega)
  exact x_rv E hr hS ⟨hQ, eB⟩ hP hD d_Mo_put_20
set_option maxRecDepth 100000 in
set_option maxHeartbeats 4000000 in
theorem c_Mo_putNumber (l : Launch) (g : xG) (b0 : Nat) (ws : va_W) {q h : Nat} {ad : Nat → Nat} {s0 s1 s2 s3 s4 s5 : Int32} {f0 f1 f2 f3 f4 f5 f6 f7 f8 f9 f10 f11 f12 f13 f14 : Nat → Int32} {f15 : Nat → Int64} {zs : tx_S} (eB : xMo g ws q h ad s0 s1 s2 s3 s4 s5 (nI zs.2) f0 f1 f2 f3 f4 f5 f6 f7 f8 f9 f10 f11 f12 f13 f14 f15 zs.1) (hs : zs.2 + 4 ≤ 900) (v : Int32) (hv : mo_vo v) : xMv l g b0 y_Mo_putNumber b_Mo_putNumber 3 1 [.ref h, .int v] ws (fun u => xQ q (q + 18) ws u ∧ xMo g u q h ad s0 s1 s2 s3 s4 s5 (nI (mo_pn v zs).2) f0 f1 f2 f3 f4 f5 f6 f7 f8 f9 f10 f11 f12 f13 f14 f15 ((mo_pn v zs).1)) := by
  unfold xMv
  refine x_in (by decide) (Nat.le_of_ble_eq_true rfl) ?_
  intro p e s m below meth c ls E hr hin hP hD hl
  obtain ⟨hx, hb, hml, hown, hts, hK, hZ, hb0, hlocks⟩ := id E
  have hS : va_S (xA b0) s.heap s.heap [] := va_S.rf
  have hl : lv_has ls 3 [(0, .ref h), (1, .int v)] := hl
  have hQ : xQ q (q + 18) ws ws := xQ.rf
  obtain ⟨x, hx9, hvx⟩ := hv
  have hcl : v.toNatClampNeg = x := by rw [hvx]; exact nI_clamp (by omega)
  refine lv_iconst (v := 1) hx hb d_Mo_putNumber_0 (by decide) ?_
  refine lv_istore_n (lv' := [(2, .int 1), (0, .ref h), (1, .int v)]) hx hb d_Mo_putNumber_1 rfl hl (by decide) rfl (fun ls hl => ?_)
  have l1 : ∀ (fu i : Nat)  (v1 : va_W) (H : Heap) (locs : List Loc) (ls : Array Slot), (3 < i + fu) → (i ≤ 3) → (i ≤ mo_e x) → (lv_has ls 3 [(2, .int (nI (10 ^ i))), (0, .ref h), (1, .int v)]) → (va_P (xD g) vwCl v1 H) → (va_D (xA b0) v1) → (va_S (xA b0) s.heap H locs) → (xQ q (q + 18) ws v1) → (xMo g v1 q h ad s0 s1 s2 s3 s4 s5 (nI zs.2) f0 f1 f2 f3 f4 f5 f6 f7 f8 f9 f10 f11 f12 f13 f14 f15 zs.1) → W p l e (rmL 1) s m ([.ref h, .int v] : List Value).toArray below meth c H locs 0 0 (MQ below (va_Qv (fun u => xQ q (q + 18) ws u ∧ xMo g u q h ad s0 s1 s2 s3 s4 s5 (nI (mo_pn v zs).2) f0 f1 f2 f3 f4 f5 f6 f7 f8 f9 f10 f11 f12 f13 f14 f15 ((mo_pn v zs).1)) (fun u t => va_P (xD g) vwCl u t.heap ∧ va_D (xA b0) u) (xA b0)) ([.ref h, .int v] : List Value).toArray s 0 0 (xA b0)) (F0 m 2 ls []) := by
    intro fu
    induction fu with
    | zero =>
      intro i v1 H locs ls hk hi3 hie hl hP hD hS hQ eB
      omega
    | succ fu ih =>
      intro i v1 H locs ls hk hi3 hie hl hP hD hS hQ eB
      have hp := mo_p10 hi3
      refine lv_iload_n hx hb d_Mo_putNumber_2 rfl (lv_at hl 2 rfl) ?_
      refine lv_iload_n hx hb d_Mo_putNumber_3 rfl (lv_at hl 0 rfl) ?_
      refine lv_idiv hx hb d_Mo_putNumber_4 (nI_ne0 hp.1 (by omega)) ?_
      refine x_top (y := nI (x / 10 ^ i)) (by rw [hvx]; exact pk_div (by omega) hp.1 (by omega)) ?_
      refine lv_bipush (v := 9) hx hb d_Mo_putNumber_5 (by decide) ?_
      refine lv_icmp_le (tgt := 18) hx hb d_Mo_putNumber_7 (by decide) (fun c7 => ?_) (fun c7 => ?_)
      · have hi9 := mo_e_is hx9 hi3 hie ((nI_leI (b := 9) (Nat.lt_of_le_of_lt (Nat.div_le_self _ _) (by omega)) (by decide)).mp c7)
        have l2 : ∀ (fv i : Nat) (j : Nat) (zt : tx_S) (v2 : va_W) (H : Heap) (locs : List Loc) (ls : Array Slot), (mo_e x + 1 < i + fv) → (i + j = mo_e x + 1) → (zt.2 = zs.2 + i) → (mo_dgs x (mo_e x + 1) zs = mo_dgs x j zt) → (lv_has ls 3 [(2, .int (nI (mo_pw j))), (0, .ref h), (1, .int v)]) → (va_P (xD g) vwCl v2 H) → (va_D (xA b0) v2) → (va_S (xA b0) s.heap H locs) → (xQ q (q + 18) ws v2) → (xMo g v2 q h ad s0 s1 s2 s3 s4 s5 (nI zt.2) f0 f1 f2 f3 f4 f5 f6 f7 f8 f9 f10 f11 f12 f13 f14 f15 zt.1) → W p l e (rmL 1) s m ([.ref h, .int v] : List Value).toArray below meth c H locs 0 0 (MQ below (va_Qv (fun u => xQ q (q + 18) ws u ∧ xMo g u q h ad s0 s1 s2 s3 s4 s5 (nI (mo_pn v zs).2) f0 f1 f2 f3 f4 f5 f6 f7 f8 f9 f10 f11 f12 f13 f14 f15 ((mo_pn v zs).1)) (fun u t => va_P (xD g) vwCl u t.heap ∧ va_D (xA b0) u) (xA b0)) ([.ref h, .int v] : List Value).toArray s 0 0 (xA b0)) (F0 m 18 ls []) := by
          intro fv
          induction fv with
          | zero =>
            intro i j zt v2 H locs ls hk hij hzt hd hl hP hD hS hQ eB
            omega
          | succ fv ih2 =>
            intro i j zt v2 H locs ls hk hij hzt hd hl hP hD hS hQ eB
            rcases j with _ | j
            · refine lv_iload_n hx hb d_Mo_putNumber_18 rfl (lv_at hl 0 rfl) ?_
              refine lv_if_le (tgt := 43) hx hb d_Mo_putNumber_19 (by decide) (fun c19 => ?_) (fun c19 => absurd (show nI 0 ≤ 0 by decide) c19)
              refine x_rv E hr hS ⟨hQ, ?_⟩ hP hD d_Mo_putNumber_43
              rw [mo_pn, hcl, hd]
              exact eB
            · have he3 := mo_e_le (x := x)
              have hj3 : j ≤ 3 := by omega
              have hp := mo_p10 hj3
              refine lv_iload_n hx hb d_Mo_putNumber_18 rfl (lv_at hl 0 rfl) ?_
              refine lv_if_le (tgt := 43) hx hb d_Mo_putNumber_19 (by decide) (fun c19 => absurd c19 (nI_nle (show 0 < 10 ^ j from hp.1) (show 10 ^ j < 2 ^ 31 by omega))) (fun c19 => ?_)
              refine lv_aload_n hx hb d_Mo_putNumber_22 rfl (lv_at hl 1 rfl) ?_
              refine lv_bipush (v := 48) hx hb d_Mo_putNumber_23 (by decide) ?_
              refine lv_iload_n hx hb d_Mo_putNumber_25 rfl (lv_at hl 2 rfl) ?_
              refine lv_iload_n hx hb d_Mo_putNumber_26 rfl (lv_at hl 0 rfl) ?_
              refine lv_idiv hx hb d_Mo_putNumber_27 (nI_ne0 (show 0 < 10 ^ j from hp.1) (show 10 ^ j < 2 ^ 31 by omega)) ?_
              refine x_top (y := nI (x / 10 ^ j)) (by rw [hvx]; exact pk_div (by omega) (show 0 < 10 ^ j from hp.1) (show 10 ^ j < 2 ^ 31 by omega)) ?_
              refine lv_bipush (v := 10) hx hb d_Mo_putNumber_28 (by decide) ?_
              refine lv_irem hx hb d_Mo_putNumber_30 (by decide) ?_
              refine x_top (y := nI (x / 10 ^ j % 10)) (pk_rem (d := 10) (Nat.lt_of_le_of_lt (Nat.div_le_self _ _) (by omega)) (by decide) (by decide)) ?_
              refine lv_iadd hx hb d_Mo_putNumber_31 ?_
              refine x_top (y := nI (48 + x / 10 ^ j % 10)) (nI_add 48 _) ?_
              refine x_cVv (As := [.int (nI (48 + x / 10 ^ j % 10))]) (rest := []) E (c_Mo_put l g b0 _ eB (by omega) (nI (48 + x / 10 ^ j % 10))) wy_Mo_put wl_Mo_141 hP hD hS eB.1 rfl hl.1 ⟨by decide, by decide⟩ ⟨Nat.le_refl _, Nat.le_refl _⟩ rfl (Nat.le_of_ble_eq_true rfl) d_Mo_putNumber_32 (fun w101 H locs hr32 hP hD hS => ?_)
              obtain ⟨hq, eB⟩ := hr32
              have hQ := hQ.tr hq
              have eB : xMo g w101 q h ad s0 s1 s2 s3 s4 s5 (nI (pn_put zt (nI (48 + x / 10 ^ j % 10))).2) f0 f1 f2 f3 f4 f5 f6 f7 f8 f9 f10 f11 f12 f13 f14 f15 ((pn_put zt (nI (48 + x / 10 ^ j % 10))).1) := eB
              refine lv_iload_n hx hb d_Mo_putNumber_35 rfl (lv_at hl 0 rfl) ?_
              refine lv_bipush (v := 10) hx hb d_Mo_putNumber_36 (by decide) ?_
              refine lv_idiv hx hb d_Mo_putNumber_38 (by decide) ?_
              refine x_top (y := nI (mo_pw j)) ((pk_div (a := mo_pw (j + 1)) (d := 10) (show 10 ^ j < 2 ^ 31 by omega) (by decide) (by decide)).trans (congrArg nI (mo_pw_div hj3))) ?_
              refine lv_istore_n (lv' := [(2, .int (nI (mo_pw j))), (0, .ref h), (1, .int v)]) hx hb d_Mo_putNumber_39 rfl hl (by decide) rfl (fun ls hl => ?_)
              refine lv_goto (tgt := 18) hx hb d_Mo_putNumber_40 (by decide) ?_
              exact ih2 (i + 1) j (pn_put zt (nI (48 + x / 10 ^ j % 10))) _ _ _ _ (by omega) (by omega) (by show zt.2 + 1 = _; omega) hd hl hP hD hS hQ eB
        have eB : xMo g _ q h ad s0 s1 s2 s3 s4 s5 (nI zs.2) f0 f1 f2 f3 f4 f5 f6 f7 f8 f9 f10 f11 f12 f13 f14 f15 zs.1 := eB
        rw [hi9] at hl
        exact l2 (mo_e x + 2) 0 (mo_e x + 1) zs _ _ _ _ (by omega) (by omega) rfl rfl hl hP hD hS hQ eB
      · have hi9 := mo_e_go hx9 hi3 (fun h => c7 (nI_le (b := 9) h (by decide)))
        refine lv_iload_n hx hb d_Mo_putNumber_10 rfl (lv_at hl 0 rfl) ?_
        refine lv_bipush (v := 10) hx hb d_Mo_putNumber_11 (by decide) ?_
        refine lv_imul hx hb d_Mo_putNumber_13 ?_
        refine x_top (y := nI (10 ^ (i + 1))) ((pk_mul (10 ^ i) 10).trans (by rw [Nat.pow_succ])) ?_
        refine lv_istore_n (lv' := [(2, .int (nI (10 ^ (i + 1)))), (0, .ref h), (1, .int v)]) hx hb d_Mo_putNumber_14 rfl hl (by decide) rfl (fun ls hl => ?_)
        refine lv_goto (tgt := 2) hx hb d_Mo_putNumber_15 (by decide) ?_
        exact ih (i + 1) _ _ _ _ (by omega) (by omega) (by omega) hl hP hD hS hQ eB
  exact l1 4 0 _ _ _ _ (by omega) (by omega) (Nat.zero_le _) hl hP hD hS hQ eB
set_option maxRecDepth 100000 in
set_option maxHeartbeats 4000000 in
theorem c_Mo_print (l : Launch) (g : xG) (b0 : Nat) (ws : va_W) {q h : Nat} {ad : Nat → Nat} {s0 s1 s2 s3 s5 s6 : Int32} {f0 f1 f2 f3 f4 f5 f6 f7 f8 f9 f10 f11 f12 f13 f14 f16 : Nat → Int32} {f15 : Nat → Int64} {m9 : Nat} (eB : xMo g ws q h ad s0 s1 s2 s3 (nI m9) s5 s6 f0 f1 f2 f3 f4 f5 f6 f7 f8 f9 f10 f11 f12 f13 f14 f15 f16) (hm9 : m9 ≤ 24) (hok : mo_pok f6 f7 f8 f9 f10 m9) : xMi l g b0 y_Mo_print b_Mo_print 2 (some .int) 2 [.ref h] ws (fun r u => r = nI (mo_pall f6 f7 f8 f9 f10 m9 (f16, 0)).2 ∧ xQ q (q + 18) ws u ∧ xMo g u q h ad s0 s1 s2 s3 (nI m9) s5 (nI (mo_pall f6 f7 f8 f9 f10 m9 (f16, 0)).2) f0 f1 f2 f3 f4 f5 f6 f7 f8 f9 f10 f11 f12 f13 f14 f15 ((mo_pall f6 f7 f8 f9 f10 m9 (f16, 0)).1)) := by
  unfold xMi
  refine x_in (by decide) (Nat.le_of_ble_eq_true rfl) ?_
  intro p e s m below meth c ls E hr hin hP hD hl
  obtain ⟨hx, hb, hml, hown, hts, hK, hZ, hb0, hlocks⟩ := id E
  have hS : va_S (xA b0) s.heap s.heap [] := va_S.rf
  have hl : lv_has ls 2 [(0, .ref h)] := hl
  have hQ : xQ q (q + 18) ws ws := xQ.rf
  refine lv_aload_n hx hb d_Mo_print_0 rfl (lv_at hl 0 rfl) ?_
  refine lv_iconst (v := 0) hx hb d_Mo_print_1 (by decide) ?_
  refine x_put E hP hD hS eB.1 rfl cl6_in cl6_ty cl6_nm 22 (by decide) wf_Mo_138 rfl rfl rfl (Nat.le_of_ble_eq_true rfl) d_Mo_print_2 (fun w1 H locs hU1 hP hD hS => ?_)
  have eB : xMo g w1 q h ad s0 s1 s2 s3 (nI m9) s5 0 f0 f1 f2 f3 f4 f5 f6 f7 f8 f9 f10 f11 f12 f13 f14 f15 f16 := eB.t6 hU1
  have hQ := hQ.up hU1 (by omega)
  refine lv_iconst (v := 0) hx hb d_Mo_print_5 (by decide) ?_
  refine lv_istore_n (lv' := [(1, .int 0), (0, .ref h)]) hx hb d_Mo_print_6 rfl hl (by decide) rfl (fun ls hl => ?_)
  have l1 : ∀ (fu i : Nat)  (v1 : va_W) (H : Heap) (locs : List Loc) (ls : Array Slot), (m9 < i + fu) → (i ≤ m9) → (lv_has ls 2 [(1, .int (nI i)), (0, .ref h)]) → (va_P (xD g) vwCl v1 H) → (va_D (xA b0) v1) → (va_S (xA b0) s.heap H locs) → (xQ q (q + 18) ws v1) → (xMo g v1 q h ad s0 s1 s2 s3 (nI m9) s5 (nI (mo_pall f6 f7 f8 f9 f10 i (f16, 0)).2) f0 f1 f2 f3 f4 f5 f6 f7 f8 f9 f10 f11 f12 f13 f14 f15 ((mo_pall f6 f7 f8 f9 f10 i (f16, 0)).1)) → W p l e (rmL 2) s m ([.ref h] : List Value).toArray below meth c H locs 0 0 (MQ below (va_Qi (fun r u => r = nI (mo_pall f6 f7 f8 f9 f10 m9 (f16, 0)).2 ∧ xQ q (q + 18) ws u ∧ xMo g u q h ad s0 s1 s2 s3 (nI m9) s5 (nI (mo_pall f6 f7 f8 f9 f10 m9 (f16, 0)).2) f0 f1 f2 f3 f4 f5 f6 f7 f8 f9 f10 f11 f12 f13 f14 f15 ((mo_pall f6 f7 f8 f9 f10 m9 (f16, 0)).1)) (fun u t => va_P (xD g) vwCl u t.heap ∧ va_D (xA b0) u) (xA b0)) ([.ref h] : List Value).toArray s 0 0 (xA b0)) (F0 m 7 ls []) := by
    intro fu
    induction fu with
    | zero =>
      intro i v1 H locs ls hk hi hl hP hD hS hQ eB
      omega
    | succ fu ih =>
      intro i v1 H locs ls hk hi hl hP hD hS hQ eB
      have hb9 := mo_pall_n (f6 := f6) (f7 := f7) (f8 := f8) (f9 := f9) (f10 := f10) (s := (f16, 0)) i
      have hb8 : (f16, 0).2 + 26 * i ≤ 26 * 24 := by show 0 + 26 * i ≤ _; omega
      have eV : mo_pall f6 f7 f8 f9 f10 (i + 1) (f16, 0) = mo_pp f6 f7 f8 f9 f10 i (mo_pall f6 f7 f8 f9 f10 i (f16, 0)) := rfl
      generalize eV0 : mo_pall f6 f7 f8 f9 f10 i (f16, 0) = V at eB eV hb9
      refine lv_iload_n hx hb d_Mo_print_7 rfl (lv_at hl 0 rfl) ?_
      refine lv_aload_n hx hb d_Mo_print_8 rfl (lv_at hl 1 rfl) ?_
      refine x_get E hP eB.1 rfl cl6_in 10 (by decide) wf_Mo_101 rfl d_Mo_print_9 ?_
      refine lv_icmp_ge (tgt := 150) hx hb d_Mo_print_12 (by decide) (fun c12 => ?_) (fun c12 => ?_)
      · have hi9 : i = m9 := by
          have := (nI_leI (by omega) (by omega)).mp c12
          omega
        subst hi9
        rw [← eV0] at eB
        refine lv_aload_n hx hb d_Mo_print_150 rfl (lv_at hl 1 rfl) ?_
        refine x_get E hP eB.1 rfl cl6_in 22 (by decide) wf_Mo_138 rfl d_Mo_print_151 ?_
        exact x_ri E hr hS ⟨rfl, hQ, eB⟩ hP hD d_Mo_print_154
      · have hi9 : i < m9 := Nat.not_le.mp fun h => c12 (nI_le h (by omega))
        obtain ⟨o1, o2, o3, o4, o5⟩ := hok i hi9
        refine lv_aload_n hx hb d_Mo_print_15 rfl (lv_at hl 1 rfl) ?_
        refine lv_aload_n hx hb d_Mo_print_16 rfl (lv_at hl 1 rfl) ?_
        refine x_get E hP eB.1 rfl cl6_in 11 (by decide) wf_Mo_28 rfl d_Mo_print_17 ?_
        refine lv_iload_n hx hb d_Mo_print_20 rfl (lv_at hl 0 rfl) ?_
        refine x_iald E hP eB.2.2.2.2.2.2.2.1 (j := i) rfl (by omega) (by decide) d_Mo_print_21 ?_
        refine x_cSi (As := [.int (f6 i)]) (rest := [.ref h]) E (c_Mo_letterOf l g b0 _ (f6 i)) wy_Mo_letterOf wl_Mo_144 hP hD hS hl.1 ⟨by decide, by decide⟩ ⟨Nat.le_refl _, Nat.le_refl _⟩ rfl (Nat.le_of_ble_eq_true rfl) d_Mo_print_22 (fun r22 hr22 => ?_)
        subst hr22
        refine x_cVv (As := [.int (mo_letter (f6 i))]) (rest := []) E (c_Mo_put l g b0 _ eB (by omega) (mo_letter (f6 i))) wy_Mo_put wl_Mo_141 hP hD hS eB.1 rfl hl.1 ⟨by decide, by decide⟩ ⟨Nat.le_refl _, Nat.le_refl _⟩ rfl (Nat.le_of_ble_eq_true rfl) d_Mo_print_25 (fun w52 H locs hr25 hP hD hS => ?_)
        obtain ⟨hq, eB⟩ := hr25
        have hQ := hQ.tr hq
        have eB : xMo g w52 q h ad s0 s1 s2 s3 (nI m9) s5 (nI (pn_put V (mo_letter (f6 i))).2) f0 f1 f2 f3 f4 f5 f6 f7 f8 f9 f10 f11 f12 f13 f14 f15 ((pn_put V (mo_letter (f6 i))).1) := eB
        have hb9 : (pn_put V (mo_letter (f6 i))).2 ≤ _ := Nat.succ_le_succ hb9
        refine lv_aload_n hx hb d_Mo_print_28 rfl (lv_at hl 1 rfl) ?_
        refine lv_aload_n hx hb d_Mo_print_29 rfl (lv_at hl 1 rfl) ?_
        refine x_get E hP eB.1 rfl cl6_in 12 (by decide) wf_Mo_31 rfl d_Mo_print_30 ?_
        refine lv_iload_n hx hb d_Mo_print_33 rfl (lv_at hl 0 rfl) ?_
        refine x_iald E hP eB.2.2.2.2.2.2.2.2.1 (j := i) rfl (by omega) (by decide) d_Mo_print_34 ?_
        refine x_cVv (As := [.int (f7 i)]) (rest := []) E (c_Mo_putNumber l g b0 _ eB (by omega) (f7 i) o1) wy_Mo_putNumber wl_Mo_147 hP hD hS eB.1 rfl hl.1 ⟨by decide, by decide⟩ ⟨Nat.le_refl _, Nat.le_refl _⟩ rfl (Nat.le_of_ble_eq_true rfl) d_Mo_print_35 (fun w53 H locs hr35 hP hD hS => ?_)
        obtain ⟨hq, eB⟩ := hr35
        have hQ := hQ.tr hq
        have eB : xMo g w53 q h ad s0 s1 s2 s3 (nI m9) s5 (nI (mo_pn (f7 i) (pn_put V (mo_letter (f6 i)))).2) f0 f1 f2 f3 f4 f5 f6 f7 f8 f9 f10 f11 f12 f13 f14 f15 ((mo_pn (f7 i) (pn_put V (mo_letter (f6 i)))).1) := eB
        have hb9 : (mo_pn (f7 i) (pn_put V (mo_letter (f6 i)))).2 ≤ _ := Nat.le_trans mo_pn_n (Nat.add_le_add_right hb9 4)
        refine lv_aload_n hx hb d_Mo_print_38 rfl (lv_at hl 1 rfl) ?_
        refine lv_bipush (v := 61) hx hb d_Mo_print_39 (by decide) ?_
        refine x_cVv (As := [.int 61]) (rest := []) E (c_Mo_put l g b0 _ eB (by omega) 61) wy_Mo_put wl_Mo_141 hP hD hS eB.1 rfl hl.1 ⟨by decide, by decide⟩ ⟨Nat.le_refl _, Nat.le_refl _⟩ rfl (Nat.le_of_ble_eq_true rfl) d_Mo_print_41 (fun w54 H locs hr41 hP hD hS => ?_)
        obtain ⟨hq, eB⟩ := hr41
        have hQ := hQ.tr hq
        have eB : xMo g w54 q h ad s0 s1 s2 s3 (nI m9) s5 (nI (pn_put (mo_pn (f7 i) (pn_put V (mo_letter (f6 i)))) 61).2) f0 f1 f2 f3 f4 f5 f6 f7 f8 f9 f10 f11 f12 f13 f14 f15 ((pn_put (mo_pn (f7 i) (pn_put V (mo_letter (f6 i)))) 61).1) := eB
        have hb9 : (pn_put (mo_pn (f7 i) (pn_put V (mo_letter (f6 i)))) 61).2 ≤ _ := Nat.succ_le_succ hb9
        refine lv_aload_n hx hb d_Mo_print_44 rfl (lv_at hl 1 rfl) ?_
        refine lv_aload_n hx hb d_Mo_print_45 rfl (lv_at hl 1 rfl) ?_
        refine x_get E hP eB.1 rfl cl6_in 13 (by decide) wf_Mo_34 rfl d_Mo_print_46 ?_
        refine lv_iload_n hx hb d_Mo_print_49 rfl (lv_at hl 0 rfl) ?_
        refine x_iald E hP eB.2.2.2.2.2.2.2.2.2.1 (j := i) rfl (by omega) (by decide) d_Mo_print_50 ?_
        refine x_cVv (As := [.int (f8 i)]) (rest := []) E (c_Mo_putNumber l g b0 _ eB (by omega) (f8 i) o2) wy_Mo_putNumber wl_Mo_147 hP hD hS eB.1 rfl hl.1 ⟨by decide, by decide⟩ ⟨Nat.le_refl _, Nat.le_refl _⟩ rfl (Nat.le_of_ble_eq_true rfl) d_Mo_print_51 (fun w55 H locs hr51 hP hD hS => ?_)
        obtain ⟨hq, eB⟩ := hr51
        have hQ := hQ.tr hq
        have eB : xMo g w55 q h ad s0 s1 s2 s3 (nI m9) s5 (nI (mo_pn (f8 i) (pn_put (mo_pn (f7 i) (pn_put V (mo_letter (f6 i)))) 61)).2) f0 f1 f2 f3 f4 f5 f6 f7 f8 f9 f10 f11 f12 f13 f14 f15 ((mo_pn (f8 i) (pn_put (mo_pn (f7 i) (pn_put V (mo_letter (f6 i)))) 61)).1) := eB
        have hb9 : (mo_pn (f8 i) (pn_put (mo_pn (f7 i) (pn_put V (mo_letter (f6 i)))) 61)).2 ≤ _ := Nat.le_trans mo_pn_n (Nat.add_le_add_right hb9 4)
        refine lv_aload_n hx hb d_Mo_print_54 rfl (lv_at hl 1 rfl) ?_
        refine x_get E hP eB.1 rfl cl6_in 11 (by decide) wf_Mo_28 rfl d_Mo_print_55 ?_
        refine lv_iload_n hx hb d_Mo_print_58 rfl (lv_at hl 0 rfl) ?_
        refine x_iald E hP eB.2.2.2.2.2.2.2.1 (j := i) rfl (by omega) (by decide) d_Mo_print_59 ?_
        refine lv_iconst (v := 1) hx hb d_Mo_print_60 (by decide) ?_
        refine lv_icmp_ne (tgt := 80) hx hb d_Mo_print_61 (by decide) (fun c61 => ?_) (fun c61 => ?_)
        · refine lv_aload_n hx hb d_Mo_print_80 rfl (lv_at hl 1 rfl) ?_
          refine x_get E hP eB.1 rfl cl6_in 11 (by decide) wf_Mo_28 rfl d_Mo_print_81 ?_
          refine lv_iload_n hx hb d_Mo_print_84 rfl (lv_at hl 0 rfl) ?_
          refine x_iald E hP eB.2.2.2.2.2.2.2.1 (j := i) rfl (by omega) (by decide) d_Mo_print_85 ?_
          refine lv_iconst (v := 4) hx hb d_Mo_print_86 (by decide) ?_
          refine lv_icmp_ge (tgt := 108) hx hb d_Mo_print_87 (by decide) (fun c87 => ?_) (fun c87 => ?_)
          · refine lv_aload_n hx hb d_Mo_print_108 rfl (lv_at hl 1 rfl) ?_
            refine x_get E hP eB.1 rfl cl6_in 11 (by decide) wf_Mo_28 rfl d_Mo_print_109 ?_
            refine lv_iload_n hx hb d_Mo_print_112 rfl (lv_at hl 0 rfl) ?_
            refine x_iald E hP eB.2.2.2.2.2.2.2.1 (j := i) rfl (by omega) (by decide) d_Mo_print_113 ?_
            refine lv_iconst (v := 3) hx hb d_Mo_print_114 (by decide) ?_
            refine lv_icmp_ne (tgt := 138) hx hb d_Mo_print_115 (by decide) (fun c115 => ?_) (fun c115 => absurd c115 (fun h => absurd (h ▸ c87) (by decide)))
            refine lv_aload_n hx hb d_Mo_print_138 rfl (lv_at hl 1 rfl) ?_
            refine lv_bipush (v := 59) hx hb d_Mo_print_139 (by decide) ?_
            refine x_cVv (As := [.int 59]) (rest := []) E (c_Mo_put l g b0 _ eB (by omega) 59) wy_Mo_put wl_Mo_141 hP hD hS eB.1 rfl hl.1 ⟨by decide, by decide⟩ ⟨Nat.le_refl _, Nat.le_refl _⟩ rfl (Nat.le_of_ble_eq_true rfl) d_Mo_print_141 (fun w56 H locs hr141 hP hD hS => ?_)
            obtain ⟨hq, eB⟩ := hr141
            have hQ := hQ.tr hq
            have eB : xMo g w56 q h ad s0 s1 s2 s3 (nI m9) s5 (nI (pn_put (mo_pn (f8 i) (pn_put (mo_pn (f7 i) (pn_put V (mo_letter (f6 i)))) 61)) 59).2) f0 f1 f2 f3 f4 f5 f6 f7 f8 f9 f10 f11 f12 f13 f14 f15 ((pn_put (mo_pn (f8 i) (pn_put (mo_pn (f7 i) (pn_put V (mo_letter (f6 i)))) 61)) 59).1) := eB
            have hb9 : (pn_put (mo_pn (f8 i) (pn_put (mo_pn (f7 i) (pn_put V (mo_letter (f6 i)))) 61)) 59).2 ≤ _ := Nat.succ_le_succ hb9
            have e7 : mo_pall f6 f7 f8 f9 f10 (i + 1) (f16, 0) = pn_put (mo_pn (f8 i) (pn_put (mo_pn (f7 i) (pn_put V (mo_letter (f6 i)))) 61)) 59 := by rw [eV, mo_pp, mo_c1, if_neg c61, mo_c2, if_pos c87, mo_c3, if_neg c115]
            have eB : xMo g w56 q h ad s0 s1 s2 s3 (nI m9) s5 (nI (mo_pall f6 f7 f8 f9 f10 (i + 1) (f16, 0)).2) f0 f1 f2 f3 f4 f5 f6 f7 f8 f9 f10 f11 f12 f13 f14 f15 ((mo_pall f6 f7 f8 f9 f10 (i + 1) (f16, 0)).1) := by rw [e7]; exact eB
            refine lv_iinc (v := nI (i + 1)) (lv' := [(1, .int (nI (i + 1))), (0, .ref h)]) hx hb d_Mo_print_144 hl (k := 0) rfl (nI_1 i) (by decide) rfl (fun ls hl => ?_)
            refine lv_goto (tgt := 7) hx hb d_Mo_print_147 (by decide) ?_
            exact ih (i + 1) _ _ _ _ (by omega) (by omega) hl hP hD hS hQ eB
          · refine lv_aload_n hx hb d_Mo_print_90 rfl (lv_at hl 1 rfl) ?_
            refine lv_bipush (v := 62) hx hb d_Mo_print_91 (by decide) ?_
            refine x_cVv (As := [.int 62]) (rest := []) E (c_Mo_put l g b0 _ eB (by omega) 62) wy_Mo_put wl_Mo_141 hP hD hS eB.1 rfl hl.1 ⟨by decide, by decide⟩ ⟨Nat.le_refl _, Nat.le_refl _⟩ rfl (Nat.le_of_ble_eq_true rfl) d_Mo_print_93 (fun w56 H locs hr93 hP hD hS => ?_)
            obtain ⟨hq, eB⟩ := hr93
            have hQ := hQ.tr hq
            have eB : xMo g w56 q h ad s0 s1 s2 s3 (nI m9) s5 (nI (pn_put (mo_pn (f8 i) (pn_put (mo_pn (f7 i) (pn_put V (mo_letter (f6 i)))) 61)) 62).2) f0 f1 f2 f3 f4 f5 f6 f7 f8 f9 f10 f11 f12 f13 f14 f15 ((pn_put (mo_pn (f8 i) (pn_put (mo_pn (f7 i) (pn_put V (mo_letter (f6 i)))) 61)) 62).1) := eB
            have hb9 : (pn_put (mo_pn (f8 i) (pn_put (mo_pn (f7 i) (pn_put V (mo_letter (f6 i)))) 61)) 62).2 ≤ _ := Nat.succ_le_succ hb9
            refine lv_aload_n hx hb d_Mo_print_96 rfl (lv_at hl 1 rfl) ?_
            refine lv_aload_n hx hb d_Mo_print_97 rfl (lv_at hl 1 rfl) ?_
            refine x_get E hP eB.1 rfl cl6_in 15 (by decide) wf_Mo_40 rfl d_Mo_print_98 ?_
            refine lv_iconst (v := 2) hx hb d_Mo_print_101 (by decide) ?_
            refine lv_iload_n hx hb d_Mo_print_102 rfl (lv_at hl 0 rfl) ?_
            refine lv_imul hx hb d_Mo_print_103 ?_
            refine x_top (y := nI (2 * i)) (pk_mul 2 i) ?_
            refine x_iald E hP eB.2.2.2.2.2.2.2.2.2.2.2.1 (j := 2 * i) rfl (by omega) (by decide) d_Mo_print_104 ?_
            refine x_cVv (As := [.int (f10 (2 * i))]) (rest := []) E (c_Mo_putNumber l g b0 _ eB (by omega) (f10 (2 * i)) (o4 c87)) wy_Mo_putNumber wl_Mo_147 hP hD hS eB.1 rfl hl.1 ⟨by decide, by decide⟩ ⟨Nat.le_refl _, Nat.le_refl _⟩ rfl (Nat.le_of_ble_eq_true rfl) d_Mo_print_105 (fun w57 H locs hr105 hP hD hS => ?_)
            obtain ⟨hq, eB⟩ := hr105
            have hQ := hQ.tr hq
            have eB : xMo g w57 q h ad s0 s1 s2 s3 (nI m9) s5 (nI (mo_pn (f10 (2 * i)) (pn_put (mo_pn (f8 i) (pn_put (mo_pn (f7 i) (pn_put V (mo_letter (f6 i)))) 61)) 62)).2) f0 f1 f2 f3 f4 f5 f6 f7 f8 f9 f10 f11 f12 f13 f14 f15 ((mo_pn (f10 (2 * i)) (pn_put (mo_pn (f8 i) (pn_put (mo_pn (f7 i) (pn_put V (mo_letter (f6 i)))) 61)) 62)).1) := eB
            have hb9 : (mo_pn (f10 (2 * i)) (pn_put (mo_pn (f8 i) (pn_put (mo_pn (f7 i) (pn_put V (mo_letter (f6 i)))) 61)) 62)).2 ≤ _ := Nat.le_trans mo_pn_n (Nat.add_le_add_right hb9 4)
            refine lv_aload_n hx hb d_Mo_print_108 rfl (lv_at hl 1 rfl) ?_
            refine x_get E hP eB.1 rfl cl6_in 11 (by decide) wf_Mo_28 rfl d_Mo_print_109 ?_
            refine lv_iload_n hx hb d_Mo_print_112 rfl (lv_at hl 0 rfl) ?_
            refine x_iald E hP eB.2.2.2.2.2.2.2.1 (j := i) rfl (by omega) (by decide) d_Mo_print_113 ?_
            refine lv_iconst (v := 3) hx hb d_Mo_print_114 (by decide) ?_
            refine lv_icmp_ne (tgt := 138) hx hb d_Mo_print_115 (by decide) (fun c115 => ?_) (fun c115 => ?_)
            · refine lv_aload_n hx hb d_Mo_print_138 rfl (lv_at hl 1 rfl) ?_
              refine lv_bipush (v := 59) hx hb d_Mo_print_139 (by decide) ?_
              refine x_cVv (As := [.int 59]) (rest := []) E (c_Mo_put l g b0 _ eB (by omega) 59) wy_Mo_put wl_Mo_141 hP hD hS eB.1 rfl hl.1 ⟨by decide, by decide⟩ ⟨Nat.le_refl _, Nat.le_refl _⟩ rfl (Nat.le_of_ble_eq_true rfl) d_Mo_print_141 (fun w58 H locs hr141 hP hD hS => ?_)
              obtain ⟨hq, eB⟩ := hr141
              have hQ := hQ.tr hq
              have eB : xMo g w58 q h ad s0 s1 s2 s3 (nI m9) s5 (nI (pn_put (mo_pn (f10 (2 * i)) (pn_put (mo_pn (f8 i) (pn_put (mo_pn (f7 i) (pn_put V (mo_letter (f6 i)))) 61)) 62)) 59).2) f0 f1 f2 f3 f4 f5 f6 f7 f8 f9 f10 f11 f12 f13 f14 f15 ((pn_put (mo_pn (f10 (2 * i)) (pn_put (mo_pn (f8 i) (pn_put (mo_pn (f7 i) (pn_put V (mo_letter (f6 i)))) 61)) 62)) 59).1) := eB
              have hb9 : (pn_put (mo_pn (f10 (2 * i)) (pn_put (mo_pn (f8 i) (pn_put (mo_pn (f7 i) (pn_put V (mo_letter (f6 i)))) 61)) 62)) 59).2 ≤ _ := Nat.succ_le_succ hb9
              have e7 : mo_pall f6 f7 f8 f9 f10 (i + 1) (f16, 0) = pn_put (mo_pn (f10 (2 * i)) (pn_put (mo_pn (f8 i) (pn_put (mo_pn (f7 i) (pn_put V (mo_letter (f6 i)))) 61)) 62)) 59 := by rw [eV, mo_pp, mo_c1, if_neg c61, mo_c2, if_neg c87, mo_c3, if_neg c115]
              have eB : xMo g w58 q h ad s0 s1 s2 s3 (nI m9) s5 (nI (mo_pall f6 f7 f8 f9 f10 (i + 1) (f16, 0)).2) f0 f1 f2 f3 f4 f5 f6 f7 f8 f9 f10 f11 f12 f13 f14 f15 ((mo_pall f6 f7 f8 f9 f10 (i + 1) (f16, 0)).1) := by rw [e7]; exact eB
              refine lv_iinc (v := nI (i + 1)) (lv' := [(1, .int (nI (i + 1))), (0, .ref h)]) hx hb d_Mo_print_144 hl (k := 0) rfl (nI_1 i) (by decide) rfl (fun ls hl => ?_)
              refine lv_goto (tgt := 7) hx hb d_Mo_print_147 (by decide) ?_
              exact ih (i + 1) _ _ _ _ (by omega) (by omega) hl hP hD hS hQ eB
            · refine lv_aload_n hx hb d_Mo_print_118 rfl (lv_at hl 1 rfl) ?_
              refine lv_bipush (v := 44) hx hb d_Mo_print_119 (by decide) ?_
              refine x_cVv (As := [.int 44]) (rest := []) E (c_Mo_put l g b0 _ eB (by omega) 44) wy_Mo_put wl_Mo_141 hP hD hS eB.1 rfl hl.1 ⟨by decide, by decide⟩ ⟨Nat.le_refl _, Nat.le_refl _⟩ rfl (Nat.le_of_ble_eq_true rfl) d_Mo_print_121 (fun w58 H locs hr121 hP hD hS => ?_)
              obtain ⟨hq, eB⟩ := hr121
              have hQ := hQ.tr hq
              have eB : xMo g w58 q h ad s0 s1 s2 s3 (nI m9) s5 (nI (pn_put (mo_pn (f10 (2 * i)) (pn_put (mo_pn (f8 i) (pn_put (mo_pn (f7 i) (pn_put V (mo_letter (f6 i)))) 61)) 62)) 44).2) f0 f1 f2 f3 f4 f5 f6 f7 f8 f9 f10 f11 f12 f13 f14 f15 ((pn_put (mo_pn (f10 (2 * i)) (pn_put (mo_pn (f8 i) (pn_put (mo_pn (f7 i) (pn_put V (mo_letter (f6 i)))) 61)) 62)) 44).1) := eB
              have hb9 : (pn_put (mo_pn (f10 (2 * i)) (pn_put (mo_pn (f8 i) (pn_put (mo_pn (f7 i) (pn_put V (mo_letter (f6 i)))) 61)) 62)) 44).2 ≤ _ := Nat.succ_le_succ hb9
              refine lv_aload_n hx hb d_Mo_print_124 rfl (lv_at hl 1 rfl) ?_
              refine lv_aload_n hx hb d_Mo_print_125 rfl (lv_at hl 1 rfl) ?_
              refine x_get E hP eB.1 rfl cl6_in 15 (by decide) wf_Mo_40 rfl d_Mo_print_126 ?_
              refine lv_iconst (v := 2) hx hb d_Mo_print_129 (by decide) ?_
              refine lv_iload_n hx hb d_Mo_print_130 rfl (lv_at hl 0 rfl) ?_
              refine lv_imul hx hb d_Mo_print_131 ?_
              refine x_top (y := nI (2 * i)) (pk_mul 2 i) ?_
              refine lv_iconst (v := 1) hx hb d_Mo_print_132 (by decide) ?_
              refine lv_iadd hx hb d_Mo_print_133 ?_
              refine x_top (y := nI (2 * i + 1)) (nI_1 (2 * i)) ?_
              refine x_iald E hP eB.2.2.2.2.2.2.2.2.2.2.2.1 (j := 2 * i + 1) rfl (by omega) (by decide) d_Mo_print_134 ?_
              refine x_cVv (As := [.int (f10 (2 * i + 1))]) (rest := []) E (c_Mo_putNumber l g b0 _ eB (by omega) (f10 (2 * i + 1)) (o5 c115)) wy_Mo_putNumber wl_Mo_147 hP hD hS eB.1 rfl hl.1 ⟨by decide, by decide⟩ ⟨Nat.le_refl _, Nat.le_refl _⟩ rfl (Nat.le_of_ble_eq_true rfl) d_Mo_print_135 (fun w59 H locs hr135 hP hD hS => ?_)
              obtain ⟨hq, eB⟩ := hr135
              have hQ := hQ.tr hq
              have eB : xMo g w59 q h ad s0 s1 s2 s3 (nI m9) s5 (nI (mo_pn (f10 (2 * i + 1)) (pn_put (mo_pn (f10 (2 * i)) (pn_put (mo_pn (f8 i) (pn_put (mo_pn (f7 i) (pn_put V (mo_letter (f6 i)))) 61)) 62)) 44)).2) f0 f1 f2 f3 f4 f5 f6 f7 f8 f9 f10 f11 f12 f13 f14 f15 ((mo_pn (f10 (2 * i + 1)) (pn_put (mo_pn (f10 (2 * i)) (pn_put (mo_pn (f8 i) (pn_put (mo_pn (f7 i) (pn_put V (mo_letter (f6 i)))) 61)) 62)) 44)).1) := eB
              have hb9 : (mo_pn (f10 (2 * i + 1)) (pn_put (mo_pn (f10 (2 * i)) (pn_put (mo_pn (f8 i) (pn_put (mo_pn (f7 i) (pn_put V (mo_letter (f6 i)))) 61)) 62)) 44)).2 ≤ _ := Nat.le_trans mo_pn_n (Nat.add_le_add_right hb9 4)
              refine lv_aload_n hx hb d_Mo_print_138 rfl (lv_at hl 1 rfl) ?_
              refine lv_bipush (v := 59) hx hb d_Mo_print_139 (by decide) ?_
              refine x_cVv (As := [.int 59]) (rest := []) E (c_Mo_put l g b0 _ eB (by omega) 59) wy_Mo_put wl_Mo_141 hP hD hS eB.1 rfl hl.1 ⟨by decide, by decide⟩ ⟨Nat.le_refl _, Nat.le_refl _⟩ rfl (Nat.le_of_ble_eq_true rfl) d_Mo_print_141 (fun w60 H locs hr141 hP hD hS => ?_)
              obtain ⟨hq, eB⟩ := hr141
              have hQ := hQ.tr hq
              have eB : xMo g w60 q h ad s0 s1 s2 s3 (nI m9) s5 (nI (pn_put (mo_pn (f10 (2 * i + 1)) (pn_put (mo_pn (f10 (2 * i)) (pn_put (mo_pn (f8 i) (pn_put (mo_pn (f7 i) (pn_put V (mo_letter (f6 i)))) 61)) 62)) 44)) 59).2) f0 f1 f2 f3 f4 f5 f6 f7 f8 f9 f10 f11 f12 f13 f14 f15 ((pn_put (mo_pn (f10 (2 * i + 1)) (pn_put (mo_pn (f10 (2 * i)) (pn_put (mo_pn (f8 i) (pn_put (mo_pn (f7 i) (pn_put V (mo_letter (f6 i)))) 61)) 62)) 44)) 59).1) := eB
              have hb9 : (pn_put (mo_pn (f10 (2 * i + 1)) (pn_put (mo_pn (f10 (2 * i)) (pn_put (mo_pn (f8 i) (pn_put (mo_pn (f7 i) (pn_put V (mo_letter (f6 i)))) 61)) 62)) 44)) 59).2 ≤ _ := Nat.succ_le_succ hb9
              have e7 : mo_pall f6 f7 f8 f9 f10 (i + 1) (f16, 0) = pn_put (mo_pn (f10 (2 * i + 1)) (pn_put (mo_pn (f10 (2 * i)) (pn_put (mo_pn (f8 i) (pn_put (mo_pn (f7 i) (pn_put V (mo_letter (f6 i)))) 61)) 62)) 44)) 59 := by rw [eV, mo_pp, mo_c1, if_neg c61, mo_c2, if_neg c87, mo_c3, if_pos c115]
              have eB : xMo g w60 q h ad s0 s1 s2 s3 (nI m9) s5 (nI (mo_pall f6 f7 f8 f9 f10 (i + 1) (f16, 0)).2) f0 f1 f2 f3 f4 f5 f6 f7 f8 f9 f10 f11 f12 f13 f14 f15 ((mo_pall f6 f7 f8 f9 f10 (i + 1) (f16, 0)).1) := by rw [e7]; exact eB
              refine lv_iinc (v := nI (i + 1)) (lv' := [(1, .int (nI (i + 1))), (0, .ref h)]) hx hb d_Mo_print_144 hl (k := 0) rfl (nI_1 i) (by decide) rfl (fun ls hl => ?_)
              refine lv_goto (tgt := 7) hx hb d_Mo_print_147 (by decide) ?_
              exact ih (i + 1) _ _ _ _ (by omega) (by omega) hl hP hD hS hQ eB
        · refine lv_aload_n hx hb d_Mo_print_64 rfl (lv_at hl 1 rfl) ?_
          refine lv_bipush (v := 44) hx hb d_Mo_print_65 (by decide) ?_
          refine x_cVv (As := [.int 44]) (rest := []) E (c_Mo_put l g b0 _ eB (by omega) 44) wy_Mo_put wl_Mo_141 hP hD hS eB.1 rfl hl.1 ⟨by decide, by decide⟩ ⟨Nat.le_refl _, Nat.le_refl _⟩ rfl (Nat.le_of_ble_eq_true rfl) d_Mo_print_67 (fun w56 H locs hr67 hP hD hS => ?_)
          obtain ⟨hq, eB⟩ := hr67
          have hQ := hQ.tr hq
          have eB : xMo g w56 q h ad s0 s1 s2 s3 (nI m9) s5 (nI (pn_put (mo_pn (f8 i) (pn_put (mo_pn (f7 i) (pn_put V (mo_letter (f6 i)))) 61)) 44).2) f0 f1 f2 f3 f4 f5 f6 f7 f8 f9 f10 f11 f12 f13 f14 f15 ((pn_put (mo_pn (f8 i) (pn_put (mo_pn (f7 i) (pn_put V (mo_letter (f6 i)))) 61)) 44).1) := eB
          have hb9 : (pn_put (mo_pn (f8 i) (pn_put (mo_pn (f7 i) (pn_put V (mo_letter (f6 i)))) 61)) 44).2 ≤ _ := Nat.succ_le_succ hb9
          refine lv_aload_n hx hb d_Mo_print_70 rfl (lv_at hl 1 rfl) ?_
          refine lv_aload_n hx hb d_Mo_print_71 rfl (lv_at hl 1 rfl) ?_
          refine x_get E hP eB.1 rfl cl6_in 14 (by decide) wf_Mo_37 rfl d_Mo_print_72 ?_
          refine lv_iload_n hx hb d_Mo_print_75 rfl (lv_at hl 0 rfl) ?_
          refine x_iald E hP eB.2.2.2.2.2.2.2.2.2.2.1 (j := i) rfl (by omega) (by decide) d_Mo_print_76 ?_
          refine x_cVv (As := [.int (f9 i)]) (rest := []) E (c_Mo_putNumber l g b0 _ eB (by omega) (f9 i) (o3 c61)) wy_Mo_putNumber wl_Mo_147 hP hD hS eB.1 rfl hl.1 ⟨by decide, by decide⟩ ⟨Nat.le_refl _, Nat.le_refl _⟩ rfl (Nat.le_of_ble_eq_true rfl) d_Mo_print_77 (fun w57 H locs hr77 hP hD hS => ?_)
          obtain ⟨hq, eB⟩ := hr77
          have hQ := hQ.tr hq
          have eB : xMo g w57 q h ad s0 s1 s2 s3 (nI m9) s5 (nI (mo_pn (f9 i) (pn_put (mo_pn (f8 i) (pn_put (mo_pn (f7 i) (pn_put V (mo_letter (f6 i)))) 61)) 44)).2) f0 f1 f2 f3 f4 f5 f6 f7 f8 f9 f10 f11 f12 f13 f14 f15 ((mo_pn (f9 i) (pn_put (mo_pn (f8 i) (pn_put (mo_pn (f7 i) (pn_put V (mo_letter (f6 i)))) 61)) 44)).1) := eB
          have hb9 : (mo_pn (f9 i) (pn_put (mo_pn (f8 i) (pn_put (mo_pn (f7 i) (pn_put V (mo_letter (f6 i)))) 61)) 44)).2 ≤ _ := Nat.le_trans mo_pn_n (Nat.add_le_add_right hb9 4)
          refine lv_aload_n hx hb d_Mo_print_80 rfl (lv_at hl 1 rfl) ?_
          refine x_get E hP eB.1 rfl cl6_in 11 (by decide) wf_Mo_28 rfl d_Mo_print_81 ?_
          refine lv_iload_n hx hb d_Mo_print_84 rfl (lv_at hl 0 rfl) ?_
          refine x_iald E hP eB.2.2.2.2.2.2.2.1 (j := i) rfl (by omega) (by decide) d_Mo_print_85 ?_
          refine lv_iconst (v := 4) hx hb d_Mo_print_86 (by decide) ?_
          refine lv_icmp_ge (tgt := 108) hx hb d_Mo_print_87 (by decide) (fun c87 => absurd c87 (by rw [c61]; decide)) (fun c87 => ?_)
          refine lv_aload_n hx hb d_Mo_print_90 rfl (lv_at hl 1 rfl) ?_
          refine lv_bipush (v := 62) hx hb d_Mo_print_91 (by decide) ?_
          refine x_cVv (As := [.int 62]) (rest := []) E (c_Mo_put l g b0 _ eB (by omega) 62) wy_Mo_put wl_Mo_141 hP hD hS eB.1 rfl hl.1 ⟨by decide, by decide⟩ ⟨Nat.le_refl _, Nat.le_refl _⟩ rfl (Nat.le_of_ble_eq_true rfl) d_Mo_print_93 (fun w58 H locs hr93 hP hD hS => ?_)
          obtain ⟨hq, eB⟩ := hr93
          have hQ := hQ.tr hq
          have eB : xMo g w58 q h ad s0 s1 s2 s3 (nI m9) s5 (nI (pn_put (mo_pn (f9 i) (pn_put (mo_pn (f8 i) (pn_put (mo_pn (f7 i) (pn_put V (mo_letter (f6 i)))) 61)) 44)) 62).2) f0 f1 f2 f3 f4 f5 f6 f7 f8 f9 f10 f11 f12 f13 f14 f15 ((pn_put (mo_pn (f9 i) (pn_put (mo_pn (f8 i) (pn_put (mo_pn (f7 i) (pn_put V (mo_letter (f6 i)))) 61)) 44)) 62).1) := eB
          have hb9 : (pn_put (mo_pn (f9 i) (pn_put (mo_pn (f8 i) (pn_put (mo_pn (f7 i) (pn_put V (mo_letter (f6 i)))) 61)) 44)) 62).2 ≤ _ := Nat.succ_le_succ hb9
          refine lv_aload_n hx hb d_Mo_print_96 rfl (lv_at hl 1 rfl) ?_
          refine lv_aload_n hx hb d_Mo_print_97 rfl (lv_at hl 1 rfl) ?_
          refine x_get E hP eB.1 rfl cl6_in 15 (by decide) wf_Mo_40 rfl d_Mo_print_98 ?_
          refine lv_iconst (v := 2) hx hb d_Mo_print_101 (by decide) ?_
          refine lv_iload_n hx hb d_Mo_print_102 rfl (lv_at hl 0 rfl) ?_
          refine lv_imul hx hb d_Mo_print_103 ?_
          refine x_top (y := nI (2 * i)) (pk_mul 2 i) ?_
          refine x_iald E hP eB.2.2.2.2.2.2.2.2.2.2.2.1 (j := 2 * i) rfl (by omega) (by decide) d_Mo_print_104 ?_
          refine x_cVv (As := [.int (f10 (2 * i))]) (rest := []) E (c_Mo_putNumber l g b0 _ eB (by omega) (f10 (2 * i)) (o4 c87)) wy_Mo_putNumber wl_Mo_147 hP hD hS eB.1 rfl hl.1 ⟨by decide, by decide⟩ ⟨Nat.le_refl _, Nat.le_refl _⟩ rfl (Nat.le_of_ble_eq_true rfl) d_Mo_print_105 (fun w59 H locs hr105 hP hD hS => ?_)
          obtain ⟨hq, eB⟩ := hr105
          have hQ := hQ.tr hq
          have eB : xMo g w59 q h ad s0 s1 s2 s3 (nI m9) s5 (nI (mo_pn (f10 (2 * i)) (pn_put (mo_pn (f9 i) (pn_put (mo_pn (f8 i) (pn_put (mo_pn (f7 i) (pn_put V (mo_letter (f6 i)))) 61)) 44)) 62)).2) f0 f1 f2 f3 f4 f5 f6 f7 f8 f9 f10 f11 f12 f13 f14 f15 ((mo_pn (f10 (2 * i)) (pn_put (mo_pn (f9 i) (pn_put (mo_pn (f8 i) (pn_put (mo_pn (f7 i) (pn_put V (mo_letter (f6 i)))) 61)) 44)) 62)).1) := eB
          have hb9 : (mo_pn (f10 (2 * i)) (pn_put (mo_pn (f9 i) (pn_put (mo_pn (f8 i) (pn_put (mo_pn (f7 i) (pn_put V (mo_letter (f6 i)))) 61)) 44)) 62)).2 ≤ _ := Nat.le_trans mo_pn_n (Nat.add_le_add_right hb9 4)
          refine lv_aload_n hx hb d_Mo_print_108 rfl (lv_at hl 1 rfl) ?_
          refine x_get E hP eB.1 rfl cl6_in 11 (by decide) wf_Mo_28 rfl d_Mo_print_109 ?_
          refine lv_iload_n hx hb d_Mo_print_112 rfl (lv_at hl 0 rfl) ?_
          refine x_iald E hP eB.2.2.2.2.2.2.2.1 (j := i) rfl (by omega) (by decide) d_Mo_print_113 ?_
          refine lv_iconst (v := 3) hx hb d_Mo_print_114 (by decide) ?_
          refine lv_icmp_ne (tgt := 138) hx hb d_Mo_print_115 (by decide) (fun c115 => ?_) (fun c115 => absurd c115 (by rw [c61]; decide))
          refine lv_aload_n hx hb d_Mo_print_138 rfl (lv_at hl 1 rfl) ?_
          refine lv_bipush (v := 59) hx hb d_Mo_print_139 (by decide) ?_
          refine x_cVv (As := [.int 59]) (rest := []) E (c_Mo_put l g b0 _ eB (by omega) 59) wy_Mo_put wl_Mo_141 hP hD hS eB.1 rfl hl.1 ⟨by decide, by decide⟩ ⟨Nat.le_refl _, Nat.le_refl _⟩ rfl (Nat.le_of_ble_eq_true rfl) d_Mo_print_141 (fun w60 H locs hr141 hP hD hS => ?_)
          obtain ⟨hq, eB⟩ := hr141
          have hQ := hQ.tr hq
          have eB : xMo g w60 q h ad s0 s1 s2 s3 (nI m9) s5 (nI (pn_put (mo_pn (f10 (2 * i)) (pn_put (mo_pn (f9 i) (pn_put (mo_pn (f8 i) (pn_put (mo_pn (f7 i) (pn_put V (mo_letter (f6 i)))) 61)) 44)) 62)) 59).2) f0 f1 f2 f3 f4 f5 f6 f7 f8 f9 f10 f11 f12 f13 f14 f15 ((pn_put (mo_pn (f10 (2 * i)) (pn_put (mo_pn (f9 i) (pn_put (mo_pn (f8 i) (pn_put (mo_pn (f7 i) (pn_put V (mo_letter (f6 i)))) 61)) 44)) 62)) 59).1) := eB
          have hb9 : (pn_put (mo_pn (f10 (2 * i)) (pn_put (mo_pn (f9 i) (pn_put (mo_pn (f8 i) (pn_put (mo_pn (f7 i) (pn_put V (mo_letter (f6 i)))) 61)) 44)) 62)) 59).2 ≤ _ := Nat.succ_le_succ hb9
          have e7 : mo_pall f6 f7 f8 f9 f10 (i + 1) (f16, 0) = pn_put (mo_pn (f10 (2 * i)) (pn_put (mo_pn (f9 i) (pn_put (mo_pn (f8 i) (pn_put (mo_pn (f7 i) (pn_put V (mo_letter (f6 i)))) 61)) 44)) 62)) 59 := by rw [eV, mo_pp, mo_c1, if_pos c61, mo_c2, if_neg c87, mo_c3, if_neg c115]
          have eB : xMo g w60 q h ad s0 s1 s2 s3 (nI m9) s5 (nI (mo_pall f6 f7 f8 f9 f10 (i + 1) (f16, 0)).2) f0 f1 f2 f3 f4 f5 f6 f7 f8 f9 f10 f11 f12 f13 f14 f15 ((mo_pall f6 f7 f8 f9 f10 (i + 1) (f16, 0)).1) := by rw [e7]; exact eB
          refine lv_iinc (v := nI (i + 1)) (lv' := [(1, .int (nI (i + 1))), (0, .ref h)]) hx hb d_Mo_print_144 hl (k := 0) rfl (nI_1 i) (by decide) rfl (fun ls hl => ?_)
          refine lv_goto (tgt := 7) hx hb d_Mo_print_147 (by decide) ?_
          exact ih (i + 1) _ _ _ _ (by omega) (by omega) hl hP hD hS hQ eB
  have eB : xMo g _ q h ad s0 s1 s2 s3 (nI m9) s5 (nI (mo_pall f6 f7 f8 f9 f10 0 (f16, 0)).2) f0 f1 f2 f3 f4 f5 f6 f7 f8 f9 f10 f11 f12 f13 f14 f15 ((mo_pall f6 f7 f8 f9 f10 0 (f16, 0)).1) := eB
  exact l1 (m9 + 1) 0 _ _ _ _ (by omega) (by omega) hl hP hD hS hQ eB
