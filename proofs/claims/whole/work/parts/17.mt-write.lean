theorem xTs.kp {g : xG} {ws w1 : va_W} {q h a : Nat} {s : tx_S} (H : xTs g ws q h a s) (k : ∀ i, q ≤ i → i < q + 2 → w1[i]? = ws[i]?) : xTs g w1 q h a s := xText.kp H k
theorem xFs.kp {g : xG} {ws w1 : va_W} {q h o : Nat} {r : Nat → Nat} {f : fl_S} (H : xFs g ws q h o r f) (k : ∀ i, q ≤ i → i < q + 5 → w1[i]? = ws[i]?) : xFs g w1 q h o r f := xFlt.kp H k
theorem x_chr {c : Int32} (h1 : ¬ c < 32) (h2 : ¬ 126 < c) : ∃ w : Nat, 32 ≤ w ∧ w ≤ 126 ∧ c = nI w := by
  have a1 : ¬ c.toInt < (32 : Int32).toInt := fun h => h1 (Int32.lt_iff_toInt_lt.mpr h)
  have a2 : ¬ (126 : Int32).toInt < c.toInt := fun h => h2 (Int32.lt_iff_toInt_lt.mpr h)
  have e1 : (32 : Int32).toInt = 32 := by decide
  have e2 : (126 : Int32).toInt = 126 := by decide
  rw [e1] at a1
  rw [e2] at a2
  obtain ⟨j, hj, e⟩ := nI_of2 (x := c) (M := 126) (n := 126) (by decide) (fun h => h1 (Int32.lt_of_lt_of_le h (by decide))) (Int32.not_lt.mp h2)
  refine ⟨j, ?_, hj, e⟩
  rw [e, nI_toInt (by omega)] at a1
  omega
def cl_sign (σ : cl_S) (c : Int32) : Int32 × cl_S := if c < 32 then (0, σ) else if 126 < c then (0, σ) else (if σ.1.2 < 300 then 1 else 0, (tx_psh σ.1 c, σ.2))
def pr_val (M : Nat → Nat → Int32) (n : Nat) (x i col : Int32) (s : tx_S) : tx_S := if mc_val M n i col = -1 then s else it (tx_dg (mc_val M n i col)) 4 (tx_psh s x)
def pr_body (M : Nat → Nat → Int32) (n : Nat) (i : Int32) (s : tx_S) : tx_S := tx_psh (pr_val M n 44 i 5 (pr_val M n 62 i 4 (pr_val M n 44 i 3 (pr_val M n 61 i 2 (it (tx_dg (mc_val M n i 1)) 4 (tx_psh s (xL (mc_val M n i 0).toNatClampNeg))))))) 59
def pr_part (M : Nat → Nat → Int32) (n : Nat) (i : Int32) (s : tx_S) : tx_S := if mc_val M n i 0 < 0 then s else if mc_val M n i 0 < 5 then pr_body M n i s else s
theorem pr_val_le {M : Nat → Nat → Int32} {n : Nat} {x i col : Int32} {s : tx_S} (h : s.2 ≤ 300) : (pr_val M n x i col s).2 ≤ 300 := by
  unfold pr_val
  split
  · exact h
  · exact tx_it_le (tx_psh_le h) 4
theorem xL_nar {j : Nat} (h : j < 5) : vp_nar .char (xL j) = xL j := by
  obtain rfl | rfl | rfl | rfl | rfl : j = 0 ∨ j = 1 ∨ j = 2 ∨ j = 3 ∨ j = 4 := by omega
  all_goals decide
theorem pr_part_le {M : Nat → Nat → Int32} {n : Nat} {i : Int32} {s : tx_S} (h : s.2 ≤ 300) : (pr_part M n i s).2 ≤ 300 := by
  unfold pr_part
  split
  · exact h
  · split
    · exact tx_psh_le (pr_val_le (pr_val_le (pr_val_le (pr_val_le (tx_it_le (tx_psh_le h) 4)))))
    · exact h
def pr_all (M : Nat → Nat → Int32) (n : Nat) (s : tx_S) : tx_S := it (fun i => pr_part M n (nI i)) n s
theorem pr_it_le {M : Nat → Nat → Int32} {n : Nat} {s : tx_S} (h : s.2 ≤ 300) : ∀ k, (it (fun i => pr_part M n (nI i)) k s).2 ≤ 300
  | 0 => h
  | k + 1 => pr_part_le (pr_it_le h k)
set_option maxRecDepth 100000 in
set_option maxHeartbeats 4000000 in
theorem c_MT_sign (l : Launch) (g : xG) (b0 : Nat) (ws : va_W) {h0 : Nat} {σ : cl_S} (eC : xCl g ws h0 σ) (ho : cl_ok σ) (x : Int32) : xMi l g b0 y_MT_sign b_MT_sign 2 (some .boolean) 1 [.ref h0, .int x] ws (fun r u => r = (cl_sign σ x).1 ∧ xQ 0 55 ws u ∧ xCl g u h0 (cl_sign σ x).2 ∧ cl_ok (cl_sign σ x).2) := by
  unfold xMi
  refine x_in (by decide) (Nat.le_of_ble_eq_true rfl) ?_
  intro p e s m below meth c ls E hr hin hP hD hl
  obtain ⟨hx, hb, hml, hown, hts, hK, hZ, hb0, hlocks⟩ := id E
  have hS : va_S (xA b0) s.heap s.heap [] := va_S.rf
  have hl : lv_has ls 2 [(0, .ref h0), (1, .int x)] := hl
  obtain ⟨ht, tt, hp, tp, hs, ha, oa, hf, of, qa, h1, o1, d1, qb, h2, o2, d2, ra, rf, r1, r2, hqq, m0, eT, eR, eS, eA, eF, eM, eN⟩ := id eC
  obtain ⟨k1, k2, k3, k4, k5, k6⟩ := id ho
  have hQ : xQ 0 55 ws ws := xQ.rf
  refine lv_iload_n hx hb d_MT_sign_0 rfl (lv_at hl 1 rfl) ?_
  refine lv_bipush (v := 32) hx hb d_MT_sign_1 (by decide) ?_
  refine lv_icmp_lt (tgt := 31) hx hb d_MT_sign_3 (by decide) (fun c3 => ?_) (fun c3 => ?_)
  · refine lv_iconst (v := 0) hx hb d_MT_sign_31 (by decide) ?_
    exact x_rz E hr hS rfl (by rw [cl_sign, if_pos c3]; exact ⟨rfl, hQ, eC, ho⟩) hP hD d_MT_sign_32
  · refine lv_iload_n hx hb d_MT_sign_6 rfl (lv_at hl 1 rfl) ?_
    refine lv_bipush (v := 126) hx hb d_MT_sign_7 (by decide) ?_
    refine lv_icmp_gt (tgt := 31) hx hb d_MT_sign_9 (by decide) (fun c9 => ?_) (fun c9 => ?_)
    · refine lv_iconst (v := 0) hx hb d_MT_sign_31 (by decide) ?_
      exact x_rz E hr hS rfl (by rw [cl_sign, if_neg c3, if_pos c9]; exact ⟨rfl, hQ, eC, ho⟩) hP hD d_MT_sign_32
    · obtain ⟨w9, hw1, hw2, hw3⟩ := x_chr c3 c9
      refine lv_aload_n hx hb d_MT_sign_12 rfl (lv_at hl 0 rfl) ?_
      refine x_get E hP m0 rfl cl0_in 0 (by decide) wf_MT_12 rfl d_MT_sign_13 ?_
      refine x_get E hP eS rfl cl3_in 0 (by decide) wf_MT_47 rfl d_MT_sign_16 ?_
      refine lv_iload_n hx hb d_MT_sign_19 rfl (lv_at hl 1 rfl) ?_
      refine lv_i2c (v := x) hx hb d_MT_sign_20 (by rw [hw3]; exact tx_char (by omega)) ?_
      refine x_cVi (As := [.int x]) (rest := []) E (c_Tx_append l g b0 _ eT k1 x (by rw [hw3]; exact tx_nar (by omega))) wy_Tx_append wl_MT_50 hP hD hS eT.1 rfl hl.1 ⟨by decide, by decide⟩ ⟨Nat.le_refl _, Nat.le_refl _⟩ rfl (Nat.le_of_ble_eq_true rfl) d_MT_sign_21 (fun r21 w1 H locs hr21 hP hD hS => ?_)
      obtain ⟨rfl, hq, eT⟩ := hr21
      have hQ := hQ.tr (hq.wide (by omega))
      have m0 := (hq _ (by omega)).trans m0
      have eS := (hq _ (by omega)).trans eS
      have eR := eR.keep hq (by omega)
      have eA := eA.keep hq (by omega)
      have eF := eF.keep hq (by omega)
      have eM := eM.keep hq (by omega)
      have eN := eN.keep hq (by omega)
      refine lv_if_eq (tgt := 31) hx hb d_MT_sign_24 (by decide) (fun c24 => ?_) (fun c24 => ?_)
      · refine lv_iconst (v := 0) hx hb d_MT_sign_31 (by decide) ?_
        exact x_rz E hr hS rfl (by rw [cl_sign, if_neg c3, if_neg c9]; exact ⟨c24.symm, hQ, ⟨ht, tt, hp, tp, hs, ha, oa, hf, of, qa, h1, o1, d1, qb, h2, o2, d2, ra, rf, r1, r2, hqq, m0, eT, eR, eS, eA, eF, eM, eN⟩, ⟨tx_psh_le k1, k2, k3, k4, k5, k6⟩⟩) hP hD d_MT_sign_32
      · refine lv_iconst (v := 1) hx hb d_MT_sign_27 (by decide) ?_
        refine lv_goto (tgt := 32) hx hb d_MT_sign_28 (by decide) ?_
        have hv9 : (1 : Int32) = if σ.1.2 < 300 then 1 else 0 := by
          by_cases h9 : σ.1.2 < 300
          · rw [if_pos h9]
          · rw [if_neg h9] at c24; exact absurd rfl c24
        exact x_rz E hr hS rfl (by rw [cl_sign, if_neg c3, if_neg c9]; exact ⟨hv9, hQ, ⟨ht, tt, hp, tp, hs, ha, oa, hf, of, qa, h1, o1, d1, qb, h2, o2, d2, ra, rf, r1, r2, hqq, m0, eT, eR, eS, eA, eF, eM, eN⟩, ⟨tx_psh_le k1, k2, k3, k4, k5, k6⟩⟩) hP hD d_MT_sign_32
set_option maxRecDepth 100000 in
set_option maxHeartbeats 4000000 in
theorem c_MT_printValue (l : Launch) (g : xG) (b0 : Nat) (ws : va_W) {h0 : Nat} {x3 x4 x5 x7 : Nat} {hp tp qa h1 o1 d1 n : Nat} {r1 : Nat → Nat} {M : Nat → Nat → Int32} {ix : Nat → Int32} {s0 : tx_S} (m0 : ws[0]? = some (h0, .inr (0, [.ref x3, .ref hp, .ref x4, .ref x5, .ref h1, .ref x7]))) (eR : xTs g ws 4 hp tp s0) (k2 : s0.2 ≤ 300) (eM : xMach g ws qa h1 o1 d1 r1 M ix n) (k5 : n ≤ 24) (hqa : 6 ≤ qa) (x i col : Int32) (hx0 : vp_nar .char x = x) : xMv l g b0 y_MT_printValue b_MT_printValue 5 2 [.ref h0, .int x, .int i, .int col] ws (fun u => xQ 4 6 ws u ∧ xTs g u 4 hp tp (pr_val M n x i col s0)) := by
  unfold xMv
  refine x_in (by decide) (Nat.le_of_ble_eq_true rfl) ?_
  intro p e s m below meth c ls E hr hin hP hD hl
  obtain ⟨hx, hb, hml, hown, hts, hK, hZ, hb0, hlocks⟩ := id E
  have hS : va_S (xA b0) s.heap s.heap [] := va_S.rf
  have hl : lv_has ls 5 [(0, .ref h0), (1, .int x), (2, .int i), (3, .int col)] := hl
  have hQ : xQ 4 6 ws ws := xQ.rf
  refine lv_aload_n hx hb d_MT_printValue_0 rfl (lv_at hl 0 rfl) ?_
  refine x_get E hP m0 rfl cl0_in 4 (by decide) wf_MT_40 rfl d_MT_printValue_1 ?_
  refine lv_iload_n hx hb d_MT_printValue_4 rfl (lv_at hl 2 rfl) ?_
  refine lv_iload_n hx hb d_MT_printValue_5 rfl (lv_at hl 3 rfl) ?_
  refine x_cRi (As := [.int i, .int col]) (rest := []) E (c_Mc_value l g b0 _ eM k5 i col) wy_Mc_value wl_MT_76 hP hD hS eM.1 rfl hl.1 ⟨by decide, by decide⟩ ⟨Nat.le_refl _, Nat.le_refl _⟩ rfl (Nat.le_of_ble_eq_true rfl) d_MT_printValue_6 (fun r6 hr6 => ?_)
  subst hr6
  refine lv_istore (lv' := [(4, .int (mc_val M n i col)), (0, .ref h0), (1, .int x), (2, .int i), (3, .int col)]) hx hb d_MT_printValue_9 hl (by decide) rfl (fun ls hl => ?_)
  refine lv_iload hx hb d_MT_printValue_11 (lv_at hl 0 rfl) ?_
  refine lv_iconst (v := (-1)) hx hb d_MT_printValue_13 (by decide) ?_
  refine lv_icmp_eq (tgt := 35) hx hb d_MT_printValue_14 (by decide) (fun c14 => ?_) (fun c14 => ?_)
  · exact x_rv E hr hS ⟨hQ, by rw [pr_val, if_pos c14]; exact eR⟩ hP hD d_MT_printValue_35
  · refine lv_aload_n hx hb d_MT_printValue_17 rfl (lv_at hl 1 rfl) ?_
    refine x_get E hP m0 rfl cl0_in 1 (by decide) wf_MT_19 rfl d_MT_printValue_18 ?_
    refine lv_iload_n hx hb d_MT_printValue_21 rfl (lv_at hl 2 rfl) ?_
    refine x_cVi (As := [.int x]) (rest := []) E (c_Tx_append l g b0 _ eR k2 x hx0) wy_Tx_append wl_MT_50 hP hD hS eR.1 rfl hl.1 ⟨by decide, by decide⟩ ⟨Nat.le_refl _, Nat.le_refl _⟩ rfl (Nat.le_of_ble_eq_true rfl) d_MT_printValue_22 (fun r22 w2 H locs hr22 hP hD hS => ?_)
    obtain ⟨-, hq, eR⟩ := hr22
    have hQ := hQ.tr hq
    have m0 := (hq _ (by omega)).trans m0
    have eM := eM.keep hq (by omega)
    have eR : xTs g _ 4 hp tp (tx_psh s0 x) := eR
    have k2 : (tx_psh s0 x).2 ≤ 300 := tx_psh_le k2
    refine lv_pop hx hb d_MT_printValue_25 rfl ?_
    refine lv_aload_n hx hb d_MT_printValue_26 rfl (lv_at hl 1 rfl) ?_
    refine x_get E hP m0 rfl cl0_in 1 (by decide) wf_MT_19 rfl d_MT_printValue_27 ?_
    refine lv_iload hx hb d_MT_printValue_30 (lv_at hl 0 rfl) ?_
    refine x_cVv (As := [.int (mc_val M n i col)]) (rest := []) E (c_Tx_appendNumber l g b0 _ eR k2 (mc_val M n i col)) wy_Tx_appendNumber wl_MT_109 hP hD hS eR.1 rfl hl.1 ⟨by decide, by decide⟩ ⟨Nat.le_refl _, Nat.le_refl _⟩ rfl (Nat.le_of_ble_eq_true rfl) d_MT_printValue_32 (fun w3 H locs hr32 hP hD hS => ?_)
    obtain ⟨hq, eR⟩ := hr32
    have hQ := hQ.tr hq
    have m0 := (hq _ (by omega)).trans m0
    have eM := eM.keep hq (by omega)
    have eR : xTs g _ 4 hp tp (it (tx_dg (mc_val M n i col)) 4 (tx_psh s0 x)) := eR
    have k2 : (it (tx_dg (mc_val M n i col)) 4 (tx_psh s0 x)).2 ≤ 300 := tx_it_le k2 4
    exact x_rv E hr hS ⟨hQ, by rw [pr_val, if_neg c14]; exact eR⟩ hP hD d_MT_printValue_35
set_option maxRecDepth 100000 in
set_option maxHeartbeats 4000000 in
theorem c_MT_printPart (l : Launch) (g : xG) (b0 : Nat) (ws : va_W) {h0 : Nat} {x3 x4 x5 x7 : Nat} {hp tp qa h1 o1 d1 n : Nat} {r1 : Nat → Nat} {M : Nat → Nat → Int32} {ix : Nat → Int32} {s0 : tx_S} (m0 : ws[0]? = some (h0, .inr (0, [.ref x3, .ref hp, .ref x4, .ref x5, .ref h1, .ref x7]))) (eR : xTs g ws 4 hp tp s0) (k2 : s0.2 ≤ 300) (eM : xMach g ws qa h1 o1 d1 r1 M ix n) (k5 : n ≤ 24) (hqa : 6 ≤ qa) (i : Int32) : xMv l g b0 y_MT_printPart b_MT_printPart 3 3 [.ref h0, .int i] ws (fun u => xQ 4 6 ws u ∧ xTs g u 4 hp tp (pr_part M n i s0)) := by
  unfold xMv
  refine x_in (by decide) (Nat.le_of_ble_eq_true rfl) ?_
  intro p e s m below meth c ls E hr hin hP hD hl
  obtain ⟨hx, hb, hml, hown, hts, hK, hZ, hb0, hlocks⟩ := id E
  have hS : va_S (xA b0) s.heap s.heap [] := va_S.rf
  have hl : lv_has ls 3 [(0, .ref h0), (1, .int i)] := hl
  have hQ : xQ 4 6 ws ws := xQ.rf
  refine lv_aload_n hx hb d_MT_printPart_0 rfl (lv_at hl 0 rfl) ?_
  refine x_get E hP m0 rfl cl0_in 4 (by decide) wf_MT_40 rfl d_MT_printPart_1 ?_
  refine lv_iload_n hx hb d_MT_printPart_4 rfl (lv_at hl 1 rfl) ?_
  refine lv_iconst (v := 0) hx hb d_MT_printPart_5 (by decide) ?_
  refine x_cRi (As := [.int i, .int 0]) (rest := []) E (c_Mc_value l g b0 _ eM k5 i 0) wy_Mc_value wl_MT_76 hP hD hS eM.1 rfl hl.1 ⟨by decide, by decide⟩ ⟨Nat.le_refl _, Nat.le_refl _⟩ rfl (Nat.le_of_ble_eq_true rfl) d_MT_printPart_6 (fun r6 hr6 => ?_)
  subst hr6
  refine lv_istore_n (lv' := [(2, .int (mc_val M n i 0)), (0, .ref h0), (1, .int i)]) hx hb d_MT_printPart_9 rfl hl (by decide) rfl (fun ls hl => ?_)
  refine lv_iload_n hx hb d_MT_printPart_10 rfl (lv_at hl 0 rfl) ?_
  refine lv_if_lt (tgt := 22) hx hb d_MT_printPart_11 (by decide) (fun c11 => ?_) (fun c11 => ?_)
  · exact x_rv E hr hS ⟨hQ, by rw [pr_part, if_pos c11]; exact eR⟩ hP hD d_MT_printPart_22
  · refine lv_iload_n hx hb d_MT_printPart_14 rfl (lv_at hl 0 rfl) ?_
    refine x_gets_L_MT E hS d_MT_printPart_15 ?_
    refine x_len_L E hS d_MT_printPart_18 ?_
    refine lv_icmp_lt (tgt := 23) hx hb d_MT_printPart_19 (by decide) (fun c19 => ?_) (fun c19 => ?_)
    · obtain ⟨k0, hk0, hk⟩ := x_ixl (n := 5) (by decide) c11 c19
      refine lv_aload_n hx hb d_MT_printPart_23 rfl (lv_at hl 1 rfl) ?_
      refine x_get E hP m0 rfl cl0_in 1 (by decide) wf_MT_19 rfl d_MT_printPart_24 ?_
      refine x_gets_L_MT E hS d_MT_printPart_27 ?_
      refine lv_iload_n hx hb d_MT_printPart_30 rfl (lv_at hl 0 rfl) ?_
      refine x_tab_L E hS hk hk0 d_MT_printPart_31 ?_
      refine x_top (y := xL (mc_val M n i 0).toNatClampNeg) (by rw [hk, nI_clamp (by omega)]) ?_
      refine x_cVi (As := [.int (xL (mc_val M n i 0).toNatClampNeg)]) (rest := []) E (c_Tx_append l g b0 _ eR k2 (xL (mc_val M n i 0).toNatClampNeg) (by rw [hk, nI_clamp (by omega)]; exact xL_nar hk0)) wy_Tx_append wl_MT_50 hP hD hS eR.1 rfl hl.1 ⟨by decide, by decide⟩ ⟨Nat.le_refl _, Nat.le_refl _⟩ rfl (Nat.le_of_ble_eq_true rfl) d_MT_printPart_32 (fun r32 w2 H locs hr32 hP hD hS => ?_)
      obtain ⟨-, hq, eR⟩ := hr32
      have hQ := hQ.tr hq
      have m0 := (hq _ (by omega)).trans m0
      have eM := eM.keep hq (by omega)
      have eR : xTs g _ 4 hp tp (tx_psh s0 (xL (mc_val M n i 0).toNatClampNeg)) := eR
      have k2 : (tx_psh s0 (xL (mc_val M n i 0).toNatClampNeg)).2 ≤ 300 := tx_psh_le k2
      refine lv_pop hx hb d_MT_printPart_35 rfl ?_
      refine lv_aload_n hx hb d_MT_printPart_36 rfl (lv_at hl 1 rfl) ?_
      refine x_get E hP m0 rfl cl0_in 1 (by decide) wf_MT_19 rfl d_MT_printPart_37 ?_
      refine lv_aload_n hx hb d_MT_printPart_40 rfl (lv_at hl 1 rfl) ?_
      refine x_get E hP m0 rfl cl0_in 4 (by decide) wf_MT_40 rfl d_MT_printPart_41 ?_
      refine lv_iload_n hx hb d_MT_printPart_44 rfl (lv_at hl 2 rfl) ?_
      refine lv_iconst (v := 1) hx hb d_MT_printPart_45 (by decide) ?_
      refine x_cRi (As := [.int i, .int 1]) (rest := [.ref hp]) E (c_Mc_value l g b0 _ eM k5 i 1) wy_Mc_value wl_MT_76 hP hD hS eM.1 rfl hl.1 ⟨by decide, by decide⟩ ⟨Nat.le_refl _, Nat.le_refl _⟩ rfl (Nat.le_of_ble_eq_true rfl) d_MT_printPart_46 (fun r46 hr46 => ?_)
      subst hr46
      refine x_cVv (As := [.int (mc_val M n i 1)]) (rest := []) E (c_Tx_appendNumber l g b0 _ eR k2 (mc_val M n i 1)) wy_Tx_appendNumber wl_MT_109 hP hD hS eR.1 rfl hl.1 ⟨by decide, by decide⟩ ⟨Nat.le_refl _, Nat.le_refl _⟩ rfl (Nat.le_of_ble_eq_true rfl) d_MT_printPart_49 (fun w4 H locs hr49 hP hD hS => ?_)
      obtain ⟨hq, eR⟩ := hr49
      have hQ := hQ.tr hq
      have m0 := (hq _ (by omega)).trans m0
      have eM := eM.keep hq (by omega)
      have eR : xTs g _ 4 hp tp (it (tx_dg (mc_val M n i 1)) 4 (tx_psh s0 (xL (mc_val M n i 0).toNatClampNeg))) := eR
      have k2 : (it (tx_dg (mc_val M n i 1)) 4 (tx_psh s0 (xL (mc_val M n i 0).toNatClampNeg))).2 ≤ 300 := tx_it_le k2 4
      refine lv_aload_n hx hb d_MT_printPart_52 rfl (lv_at hl 1 rfl) ?_
      refine lv_bipush (v := 61) hx hb d_MT_printPart_53 (by decide) ?_
      refine lv_iload_n hx hb d_MT_printPart_55 rfl (lv_at hl 2 rfl) ?_
      refine lv_iconst (v := 2) hx hb d_MT_printPart_56 (by decide) ?_
      refine x_cVv (As := [.int 61, .int i, .int 2]) (rest := []) E (c_MT_printValue l g b0 _ m0 eR k2 eM k5 hqa 61 i 2 (by decide)) wy_MT_printValue wl_MT_112 hP hD hS m0 rfl hl.1 ⟨by decide, by decide⟩ ⟨Nat.le_refl _, Nat.le_refl _⟩ rfl (Nat.le_of_ble_eq_true rfl) d_MT_printPart_57 (fun w5 H locs hr57 hP hD hS => ?_)
      obtain ⟨hq, eR⟩ := hr57
      have hQ := hQ.tr hq
      have m0 := (hq _ (by omega)).trans m0
      have eM := eM.keep hq (by omega)
      have eR : xTs g _ 4 hp tp (pr_val M n 61 i 2 (it (tx_dg (mc_val M n i 1)) 4 (tx_psh s0 (xL (mc_val M n i 0).toNatClampNeg)))) := eR
      have k2 : (pr_val M n 61 i 2 (it (tx_dg (mc_val M n i 1)) 4 (tx_psh s0 (xL (mc_val M n i 0).toNatClampNeg)))).2 ≤ 300 := pr_val_le k2
      refine lv_aload_n hx hb d_MT_printPart_60 rfl (lv_at hl 1 rfl) ?_
      refine lv_bipush (v := 44) hx hb d_MT_printPart_61 (by decide) ?_
      refine lv_iload_n hx hb d_MT_printPart_63 rfl (lv_at hl 2 rfl) ?_
      refine lv_iconst (v := 3) hx hb d_MT_printPart_64 (by decide) ?_
      refine x_cVv (As := [.int 44, .int i, .int 3]) (rest := []) E (c_MT_printValue l g b0 _ m0 eR k2 eM k5 hqa 44 i 3 (by decide)) wy_MT_printValue wl_MT_112 hP hD hS m0 rfl hl.1 ⟨by decide, by decide⟩ ⟨Nat.le_refl _, Nat.le_refl _⟩ rfl (Nat.le_of_ble_eq_true rfl) d_MT_printPart_65 (fun w6 H locs hr65 hP hD hS => ?_)
      obtain ⟨hq, eR⟩ := hr65
      have hQ := hQ.tr hq
      have m0 := (hq _ (by omega)).trans m0
      have eM := eM.keep hq (by omega)
      have eR : xTs g _ 4 hp tp (pr_val M n 44 i 3 (pr_val M n 61 i 2 (it (tx_dg (mc_val M n i 1)) 4 (tx_psh s0 (xL (mc_val M n i 0).toNatClampNeg))))) := eR
      have k2 : (pr_val M n 44 i 3 (pr_val M n 61 i 2 (it (tx_dg (mc_val M n i 1)) 4 (tx_psh s0 (xL (mc_val M n i 0).toNatClampNeg))))).2 ≤ 300 := pr_val_le k2
      refine lv_aload_n hx hb d_MT_printPart_68 rfl (lv_at hl 1 rfl) ?_
      refine lv_bipush (v := 62) hx hb d_MT_printPart_69 (by decide) ?_
      refine lv_iload_n hx hb d_MT_printPart_71 rfl (lv_at hl 2 rfl) ?_
      refine lv_iconst (v := 4) hx hb d_MT_printPart_72 (by decide) ?_
      refine x_cVv (As := [.int 62, .int i, .int 4]) (rest := []) E (c_MT_printValue l g b0 _ m0 eR k2 eM k5 hqa 62 i 4 (by decide)) wy_MT_printValue wl_MT_112 hP hD hS m0 rfl hl.1 ⟨by decide, by decide⟩ ⟨Nat.le_refl _, Nat.le_refl _⟩ rfl (Nat.le_of_ble_eq_true rfl) d_MT_printPart_73 (fun w7 H locs hr73 hP hD hS => ?_)
      obtain ⟨hq, eR⟩ := hr73
      have hQ := hQ.tr hq
      have m0 := (hq _ (by omega)).trans m0
      have eM := eM.keep hq (by omega)
      have eR : xTs g _ 4 hp tp (pr_val M n 62 i 4 (pr_val M n 44 i 3 (pr_val M n 61 i 2 (it (tx_dg (mc_val M n i 1)) 4 (tx_psh s0 (xL (mc_val M n i 0).toNatClampNeg)))))) := eR
      have k2 : (pr_val M n 62 i 4 (pr_val M n 44 i 3 (pr_val M n 61 i 2 (it (tx_dg (mc_val M n i 1)) 4 (tx_psh s0 (xL (mc_val M n i 0).toNatClampNeg)))))).2 ≤ 300 := pr_val_le k2
      refine lv_aload_n hx hb d_MT_printPart_76 rfl (lv_at hl 1 rfl) ?_
      refine lv_bipush (v := 44) hx hb d_MT_printPart_77 (by decide) ?_
      refine lv_iload_n hx hb d_MT_printPart_79 rfl (lv_at hl 2 rfl) ?_
      refine lv_iconst (v := 5) hx hb d_MT_printPart_80 (by decide) ?_
      refine x_cVv (As := [.int 44, .int i, .int 5]) (rest := []) E (c_MT_printValue l g b0 _ m0 eR k2 eM k5 hqa 44 i 5 (by decide)) wy_MT_printValue wl_MT_112 hP hD hS m0 rfl hl.1 ⟨by decide, by decide⟩ ⟨Nat.le_refl _, Nat.le_refl _⟩ rfl (Nat.le_of_ble_eq_true rfl) d_MT_printPart_81 (fun w8 H locs hr81 hP hD hS => ?_)
      obtain ⟨hq, eR⟩ := hr81
      have hQ := hQ.tr hq
      have m0 := (hq _ (by omega)).trans m0
      have eM := eM.keep hq (by omega)
      have eR : xTs g _ 4 hp tp (pr_val M n 44 i 5 (pr_val M n 62 i 4 (pr_val M n 44 i 3 (pr_val M n 61 i 2 (it (tx_dg (mc_val M n i 1)) 4 (tx_psh s0 (xL (mc_val M n i 0).toNatClampNeg))))))) := eR
      have k2 : (pr_val M n 44 i 5 (pr_val M n 62 i 4 (pr_val M n 44 i 3 (pr_val M n 61 i 2 (it (tx_dg (mc_val M n i 1)) 4 (tx_psh s0 (xL (mc_val M n i 0).toNatClampNeg))))))).2 ≤ 300 := pr_val_le k2
      refine lv_aload_n hx hb d_MT_printPart_84 rfl (lv_at hl 1 rfl) ?_
      refine x_get E hP m0 rfl cl0_in 1 (by decide) wf_MT_19 rfl d_MT_printPart_85 ?_
      refine lv_bipush (v := 59) hx hb d_MT_printPart_88 (by decide) ?_
      refine x_cVi (As := [.int 59]) (rest := []) E (c_Tx_append l g b0 _ eR k2 59 (by decide)) wy_Tx_append wl_MT_50 hP hD hS eR.1 rfl hl.1 ⟨by decide, by decide⟩ ⟨Nat.le_refl _, Nat.le_refl _⟩ rfl (Nat.le_of_ble_eq_true rfl) d_MT_printPart_90 (fun r90 w9 H locs hr90 hP hD hS => ?_)
      obtain ⟨-, hq, eR⟩ := hr90
      have hQ := hQ.tr hq
      have m0 := (hq _ (by omega)).trans m0
      have eM := eM.keep hq (by omega)
      have eR : xTs g _ 4 hp tp (tx_psh (pr_val M n 44 i 5 (pr_val M n 62 i 4 (pr_val M n 44 i 3 (pr_val M n 61 i 2 (it (tx_dg (mc_val M n i 1)) 4 (tx_psh s0 (xL (mc_val M n i 0).toNatClampNeg))))))) 59) := eR
      have k2 : (tx_psh (pr_val M n 44 i 5 (pr_val M n 62 i 4 (pr_val M n 44 i 3 (pr_val M n 61 i 2 (it (tx_dg (mc_val M n i 1)) 4 (tx_psh s0 (xL (mc_val M n i 0).toNatClampNeg))))))) 59).2 ≤ 300 := tx_psh_le k2
      refine lv_pop hx hb d_MT_printPart_93 rfl ?_
      exact x_rv E hr hS ⟨hQ, by rw [pr_part, if_neg c11, if_pos c19]; exact eR⟩ hP hD d_MT_printPart_94
    · exact x_rv E hr hS ⟨hQ, by rw [pr_part, if_neg c11, if_neg c19]; exact eR⟩ hP hD d_MT_printPart_22
def cl_print (σ : cl_S) : Int32 × cl_S := (nI (pr_all σ.2.2.2.2.2.1.1 σ.2.2.2.2.2.1.2.2 (σ.2.1.1, 0)).2, (σ.1, pr_all σ.2.2.2.2.2.1.1 σ.2.2.2.2.2.1.2.2 (σ.2.1.1, 0), σ.2.2))
set_option maxRecDepth 100000 in
set_option maxHeartbeats 4000000 in
theorem c_MT_print (l : Launch) (g : xG) (b0 : Nat) (ws : va_W) {h0 : Nat} {σ : cl_S} (eC : xCl g ws h0 σ) (ho : cl_ok σ) : xMi l g b0 y_MT_print b_MT_print 2 (some .int) 4 [.ref h0] ws (fun r u => r = (cl_print σ).1 ∧ xQ 0 55 ws u ∧ xCl g u h0 (cl_print σ).2 ∧ cl_ok (cl_print σ).2) := by
  unfold xMi
  refine x_in (by decide) (Nat.le_of_ble_eq_true rfl) ?_
  intro p e s m below meth c ls E hr hin hP hD hl
  obtain ⟨hx, hb, hml, hown, hts, hK, hZ, hb0, hlocks⟩ := id E
  have hS : va_S (xA b0) s.heap s.heap [] := va_S.rf
  have hl : lv_has ls 2 [(0, .ref h0)] := hl
  obtain ⟨ht, tt, hp, tp, hs, ha, oa, hf, of, qa, h1, o1, d1, qb, h2, o2, d2, ra, rf, r1, r2, hqq, m0, eT, eR, eS, eA, eF, eM, eN⟩ := id eC
  obtain ⟨k1, k2, k3, k4, k5, k6⟩ := id ho
  have hQ : xQ 0 55 ws ws := xQ.rf
  refine lv_aload_n hx hb d_MT_print_0 rfl (lv_at hl 0 rfl) ?_
  refine x_get E hP m0 rfl cl0_in 1 (by decide) wf_MT_19 rfl d_MT_print_1 ?_
  refine x_cVv (As := []) (rest := []) E (c_Tx_clear l g b0 _ eR k2) wy_Tx_clear wl_MT_58 hP hD hS eR.1 rfl hl.1 ⟨by decide, by decide⟩ ⟨Nat.le_refl _, Nat.le_refl _⟩ rfl (Nat.le_of_ble_eq_true rfl) d_MT_print_4 (fun w1 H locs hr4 hP hD hS => ?_)
  obtain ⟨hq, eR⟩ := hr4
  have hQ := hQ.tr (hq.wide (by omega))
  have m0 := (hq _ (by omega)).trans m0
  have eS := (hq _ (by omega)).trans eS
  have eT := eT.keep hq (by omega)
  have eA := eA.keep hq (by omega)
  have eF := eF.keep hq (by omega)
  have eM := eM.keep hq (by omega)
  have eN := eN.keep hq (by omega)
  have eR : xTs g _ 4 hp tp (σ.2.1.1, 0) := eR
  refine lv_iconst (v := 0) hx hb d_MT_print_7 (by decide) ?_
  refine lv_istore_n (lv' := [(1, .int 0), (0, .ref h0)]) hx hb d_MT_print_8 rfl hl (by decide) rfl (fun ls hl => ?_)
  have loop : ∀ (k i : Nat)  (v : va_W) (H : Heap) (locs : List Loc) (ls : Array Slot), (σ.2.2.2.2.2.1.2.2 < i + k) → (i ≤ σ.2.2.2.2.2.1.2.2) → (lv_has ls 2 [(1, .int (nI i)), (0, .ref h0)]) → (va_P (xD g) vwCl v H) → (va_D (xA b0) v) → (va_S (xA b0) s.heap H locs) → (xQ 0 55 ws v) → (v[0]? = some (h0, .inr (0, [.ref hs, .ref hp, .ref ha, .ref hf, .ref h1, .ref h2]))) → (xTs g v 2 ht tt σ.1) → (xTs g v 4 hp tp (it (fun i => pr_part σ.2.2.2.2.2.1.1 σ.2.2.2.2.2.1.2.2 (nI i)) i (σ.2.1.1, 0))) → (v[1]? = some (hs, .inr (3, [.ref ht, .int (nI σ.2.2.1)]))) → (xPath g v 6 ha oa ra σ.2.2.2.1) → (xFs g v 32 hf of rf σ.2.2.2.2.1) → (xMach g v qa h1 o1 d1 r1 σ.2.2.2.2.2.1.1 σ.2.2.2.2.2.1.2.1 σ.2.2.2.2.2.1.2.2) → (xMach g v qb h2 o2 d2 r2 σ.2.2.2.2.2.2.1 σ.2.2.2.2.2.2.2.1 σ.2.2.2.2.2.2.2.2) → W p l e (rmL 4) s m ([.ref h0] : List Value).toArray below meth c H locs 0 0 (MQ below (va_Qi (fun r u => r = (cl_print σ).1 ∧ xQ 0 55 ws u ∧ xCl g u h0 (cl_print σ).2 ∧ cl_ok (cl_print σ).2) (fun u t => va_P (xD g) vwCl u t.heap ∧ va_D (xA b0) u) (xA b0)) ([.ref h0] : List Value).toArray s 0 0 (xA b0)) (F0 m 9 ls []) := by
    intro k
    induction k with
    | zero =>
      intro i v H locs ls hk hi hl hP hD hS hQ m0 eT eR eS eA eF eM eN
      omega
    | succ k ih =>
      intro i v H locs ls hk hi hl hP hD hS hQ m0 eT eR eS eA eF eM eN
      have k9 : (it (fun i => pr_part σ.2.2.2.2.2.1.1 σ.2.2.2.2.2.1.2.2 (nI i)) i (σ.2.1.1, 0)).2 ≤ 300 := pr_it_le (s := (σ.2.1.1, 0)) (Nat.zero_le _) i
      refine lv_iload_n hx hb d_MT_print_9 rfl (lv_at hl 0 rfl) ?_
      refine lv_aload_n hx hb d_MT_print_10 rfl (lv_at hl 1 rfl) ?_
      refine x_get E hP m0 rfl cl0_in 4 (by decide) wf_MT_40 rfl d_MT_print_11 ?_
      refine x_get E hP eM.1 rfl cl2_in 2 (by decide) wf_MT_73 rfl d_MT_print_14 ?_
      refine lv_icmp_ge (tgt := 31) hx hb d_MT_print_17 (by decide) (fun c17 => ?_) (fun c17 => ?_)
      · have hi9 : i = σ.2.2.2.2.2.1.2.2 := by
          have := (nI_leI (by omega) (by omega)).mp c17
          omega
        refine lv_aload_n hx hb d_MT_print_31 rfl (lv_at hl 1 rfl) ?_
        refine x_get E hP m0 rfl cl0_in 1 (by decide) wf_MT_19 rfl d_MT_print_32 ?_
        refine x_get E hP eR.1 rfl cl1_in 1 (by decide) wf_MT_99 rfl d_MT_print_35 ?_
        rw [hi9] at eR k9 ⊢
        exact x_ri E hr hS ⟨rfl, hQ, ⟨ht, tt, hp, tp, hs, ha, oa, hf, of, qa, h1, o1, d1, qb, h2, o2, d2, ra, rf, r1, r2, hqq, m0, eT, eR, eS, eA, eF, eM, eN⟩, ⟨k1, k9, k3, k4, k5, k6⟩⟩ hP hD d_MT_print_38
      · have hi9 : i < σ.2.2.2.2.2.1.2.2 := Nat.not_le.mp fun h => c17 (nI_le h (by omega))
        refine lv_aload_n hx hb d_MT_print_20 rfl (lv_at hl 1 rfl) ?_
        refine lv_iload_n hx hb d_MT_print_21 rfl (lv_at hl 0 rfl) ?_
        refine x_cVv (As := [.int (nI i)]) (rest := []) E (c_MT_printPart l g b0 _ m0 eR k9 eM k5 (by omega) (nI i)) wy_MT_printPart wl_MT_95 hP hD hS m0 rfl hl.1 ⟨by decide, by decide⟩ ⟨Nat.le_refl _, Nat.le_refl _⟩ rfl (Nat.le_of_ble_eq_true rfl) d_MT_print_22 (fun w52 H locs hr22 hP hD hS => ?_)
        obtain ⟨hq, eR⟩ := hr22
        have hQ := hQ.tr (hq.wide (by omega))
        have m0 := (hq _ (by omega)).trans m0
        have eS := (hq _ (by omega)).trans eS
        have eT := eT.keep hq (by omega)
        have eA := eA.keep hq (by omega)
        have eF := eF.keep hq (by omega)
        have eM := eM.keep hq (by omega)
        have eN := eN.keep hq (by omega)
        have eR : xTs g _ 4 hp tp (it (fun i => pr_part σ.2.2.2.2.2.1.1 σ.2.2.2.2.2.1.2.2 (nI i)) (i + 1) (σ.2.1.1, 0)) := eR
        refine lv_iinc (v := nI (i + 1)) (lv' := [(1, .int (nI (i + 1))), (0, .ref h0)]) hx hb d_MT_print_25 hl (k := 0) rfl (nI_1 i) (by decide) rfl (fun ls hl => ?_)
        refine lv_goto (tgt := 9) hx hb d_MT_print_28 (by decide) ?_
        exact ih (i + 1) _ _ _ _ (by omega) (by omega) hl hP hD hS hQ m0 eT eR eS eA eF eM eN
  have eR : xTs g _ 4 hp tp (it (fun i => pr_part σ.2.2.2.2.2.1.1 σ.2.2.2.2.2.1.2.2 (nI i)) 0 (σ.2.1.1, 0)) := eR
  exact loop (σ.2.2.2.2.2.1.2.2 + 1) 0 _ _ _ _ (by omega) (by omega) hl hP hD hS hQ m0 eT eR eS eA eF eM eN
/-- what reading leaves: ix0 is the spare's row of names as it was cleared, T0 the cleared times -/
noncomputable def cl_read (σ : cl_S) (ix0 : Nat → Int32) (T0 : Nat → Nat → Int32) : Int32 × cl_S :=
  if (ps_parts σ.1.1 σ.1.2 (0, σ.2.2.2.2.2.2.1, ix0, 0)).1 = 0 then (-1 - nI (ps_parts σ.1.1 σ.1.2 (0, σ.2.2.2.2.2.2.1, ix0, 0)).2.1, ((σ.1.1, 0), σ.2.1, (ps_parts σ.1.1 σ.1.2 (0, σ.2.2.2.2.2.2.1, ix0, 0)).2.1, σ.2.2.2.1, σ.2.2.2.2.1, σ.2.2.2.2.2.1, (ps_parts σ.1.1 σ.1.2 (0, σ.2.2.2.2.2.2.1, ix0, 0)).2.2))
  else (nI (ps_parts σ.1.1 σ.1.2 (0, σ.2.2.2.2.2.2.1, ix0, 0)).2.2.2.2, ((σ.1.1, 0), σ.2.1, (ps_parts σ.1.1 σ.1.2 (0, σ.2.2.2.2.2.2.1, ix0, 0)).2.1, pa_all (ps_parts σ.1.1 σ.1.2 (0, σ.2.2.2.2.2.2.1, ix0, 0)).2.2.1 (ps_parts σ.1.1 σ.1.2 (0, σ.2.2.2.2.2.2.1, ix0, 0)).2.2.2.1 (ps_parts σ.1.1 σ.1.2 (0, σ.2.2.2.2.2.2.1, ix0, 0)).2.2.2.2 T0,
    fl_all (ps_parts σ.1.1 σ.1.2 (0, σ.2.2.2.2.2.2.1, ix0, 0)).2.2.1 (ps_parts σ.1.1 σ.1.2 (0, σ.2.2.2.2.2.2.1, ix0, 0)).2.2.2.1 (ps_parts σ.1.1 σ.1.2 (0, σ.2.2.2.2.2.2.1, ix0, 0)).2.2.2.2 (pa_all (ps_parts σ.1.1 σ.1.2 (0, σ.2.2.2.2.2.2.1, ix0, 0)).2.2.1 (ps_parts σ.1.1 σ.1.2 (0, σ.2.2.2.2.2.2.1, ix0, 0)).2.2.2.1 (ps_parts σ.1.1 σ.1.2 (0, σ.2.2.2.2.2.2.1, ix0, 0)).2.2.2.2 T0) σ.2.2.2.2.1.1,
    (ps_parts σ.1.1 σ.1.2 (0, σ.2.2.2.2.2.2.1, ix0, 0)).2.2, σ.2.2.2.2.2.1))
theorem fl_all_le {M : Nat → Nat → Int32} {ix : Nat → Int32} {n : Nat} {T F : Nat → Nat → Int32} (hn : n ≤ 24) : (fl_all M ix n T F).2 ≤ 168 := by
  have hb0 := it_le (c := 2) (fl_w1_le (M := M) (ix := ix) (n := n)) n (F, 0)
  have hb1 := it_le (c := 24) (fl_k1_le (M := M) (ix := ix) (n := n) (T := T) hn) 5 (it (fl_w1 M ix n) n (F, 0))
  show (it (fl_k1 M ix n T) 5 (it (fl_w1 M ix n) n (F, 0))).2 ≤ 168
  have h0 : (F, 0).2 = 0 := rfl
  omega
set_option maxRecDepth 100000 in
set_option maxHeartbeats 4000000 in
theorem c_MT_read (l : Launch) (g : xG) (b0 : Nat) (ws : va_W) {h0 : Nat} {σ : cl_S} (eC : xCl g ws h0 σ) (ho : cl_ok σ) : xMi l g b0 y_MT_read b_MT_read 3 (some .int) 6 [.ref h0] ws (fun r u => ∃ ix0 T0, (∀ j, j < 30 → ix0 j = -1) ∧ (∀ i j, i < 24 → j < 24 → T0 i j = -1) ∧ r = (cl_read σ ix0 T0).1 ∧ xQ 0 55 ws u ∧ xCl g u h0 (cl_read σ ix0 T0).2 ∧ cl_ok (cl_read σ ix0 T0).2) := by
  unfold xMi
  refine x_in (by decide) (Nat.le_of_ble_eq_true rfl) ?_
  intro p e s m below meth c ls E hr hin hP hD hl
  obtain ⟨hx, hb, hml, hown, hts, hK, hZ, hb0, hlocks⟩ := id E
  have hS : va_S (xA b0) s.heap s.heap [] := va_S.rf
  have hl : lv_has ls 3 [(0, .ref h0)] := hl
  obtain ⟨ht, tt, hp, tp, hs, ha, oa, hf, of, qa, h1, o1, d1, qb, h2, o2, d2, ra, rf, r1, r2, hqq, m0, eT, eR, eS, eA, eF, eM, eN⟩ := id eC
  obtain ⟨k1, k2, k3, k4, k5, k6⟩ := id ho
  have hQ : xQ 0 55 ws ws := xQ.rf
  refine lv_aload_n hx hb d_MT_read_0 rfl (lv_at hl 0 rfl) ?_
  refine x_get E hP m0 rfl cl0_in 0 (by decide) wf_MT_12 rfl d_MT_read_1 ?_
  refine lv_aload_n hx hb d_MT_read_4 rfl (lv_at hl 0 rfl) ?_
  refine x_get E hP m0 rfl cl0_in 5 (by decide) wf_MT_44 rfl d_MT_read_5 ?_
  refine x_cVi (As := [.ref h2]) (rest := []) E (c_Ps_readParts l g b0 _ (qp := 1) (qt := 2) (qm := qb) (f := σ.1.1) (n := σ.1.2) (z := (σ.2.2.1, σ.2.2.2.2.2.2)) ⟨by omega, by omega, by omega⟩ k1 ⟨eS, eT, eN⟩ k6) wy_Ps_readParts wl_MT_54 hP hD hS eS rfl hl.1 ⟨by decide, by decide⟩ ⟨Nat.le_refl _, Nat.le_refl _⟩ rfl (Nat.le_of_ble_eq_true rfl) d_MT_read_8 (fun r8 w1 H locs hr8 hP hD hS => ?_)
  obtain ⟨ix0, hix0, rfl, hq, eZ, hpl, hcn⟩ := hr8
  have hQ : xQ 0 55 ws w1 := fun k9 hk9 => hq k9 (by omega) (by omega)
  have m0 := (hq 0 (by omega) (by omega)).trans m0
  have eR := eR.kp (fun i _ _ => hq i (by omega) (by omega))
  have eA := eA.kp (fun i _ _ => hq i (by omega) (by omega))
  have eF := eF.kp (fun i _ _ => hq i (by omega) (by omega))
  have eM := eM.kp (fun i _ _ => hq i (by omega) (by omega))
  generalize hX : ps_parts σ.1.1 σ.1.2 (0, σ.2.2.2.2.2.2.1, ix0, 0) = X at eZ hpl hcn ⊢
  obtain ⟨eS, eT, eN⟩ := eZ
  refine lv_istore_n (lv' := [(1, .int X.1), (0, .ref h0)]) hx hb d_MT_read_11 rfl hl (by decide) rfl (fun ls hl => ?_)
  refine lv_aload_n hx hb d_MT_read_12 rfl (lv_at hl 1 rfl) ?_
  refine x_get E hP m0 rfl cl0_in 0 (by decide) wf_MT_12 rfl d_MT_read_13 ?_
  refine x_get E hP eS rfl cl3_in 0 (by decide) wf_MT_47 rfl d_MT_read_16 ?_
  refine x_cVv (As := []) (rest := []) E (c_Tx_clear l g b0 _ eT k1) wy_Tx_clear wl_MT_58 hP hD hS eT.1 rfl hl.1 ⟨by decide, by decide⟩ ⟨Nat.le_refl _, Nat.le_refl _⟩ rfl (Nat.le_of_ble_eq_true rfl) d_MT_read_19 (fun w2 H locs hr19 hP hD hS => ?_)
  obtain ⟨hq, eT⟩ := hr19
  have hQ := hQ.tr (hq.wide (by omega))
  have m0 := (hq _ (by omega)).trans m0
  have eS := (hq _ (by omega)).trans eS
  have eR := eR.keep hq (by omega)
  have eA := eA.keep hq (by omega)
  have eF := eF.keep hq (by omega)
  have eM := eM.keep hq (by omega)
  have eN := eN.keep hq (by omega)
  refine lv_iload_n hx hb d_MT_read_22 rfl (lv_at hl 0 rfl) ?_
  refine lv_if_ne (tgt := 36) hx hb d_MT_read_23 (by decide) (fun c23 => ?_) (fun c23 => ?_)
  · refine lv_aload_n hx hb d_MT_read_36 rfl (lv_at hl 1 rfl) ?_
    refine x_get E hP m0 rfl cl0_in 4 (by decide) wf_MT_40 rfl d_MT_read_37 ?_
    refine lv_astore_n (lv' := [(2, .ref h1), (1, .int X.1), (0, .ref h0)]) hx hb d_MT_read_40 rfl hl (by decide) rfl (fun ls hl => ?_)
    refine lv_aload_n hx hb d_MT_read_41 rfl (lv_at hl 2 rfl) ?_
    refine lv_aload_n hx hb d_MT_read_42 rfl (lv_at hl 2 rfl) ?_
    refine x_get E hP m0 rfl cl0_in 5 (by decide) wf_MT_44 rfl d_MT_read_43 ?_
    refine x_put E hP hD hS m0 rfl cl0_in cl0_ty cl0_nm 4 (by decide) wf_MT_40 rfl rfl rfl (Nat.le_of_ble_eq_true rfl) d_MT_read_46 (fun w3 H locs hU3 hP hD hS => ?_)
    have m0 : w3[0]? = some (h0, .inr (0, [.ref hs, .ref hp, .ref ha, .ref hf, .ref h2, .ref h2])) := hU3.1
    have eT : xText g w3 2 ht tt σ.1.1 0 := eT.kp (fun i _ _ => hU3.2 i (by omega))
    have eR : xTs g w3 4 hp tp σ.2.1 := eR.kp (fun i _ _ => hU3.2 i (by omega))
    have eS : w3[1]? = some (hs, .inr (3, [.ref ht, .int (nI X.2.1)])) := (hU3.2 _ (by omega)).trans eS
    have eA : xPath g w3 6 ha oa ra σ.2.2.2.1 := eA.kp (fun i _ _ => hU3.2 i (by omega))
    have eF : xFs g w3 32 hf of rf σ.2.2.2.2.1 := eF.kp (fun i _ _ => hU3.2 i (by omega))
    have eM : xMach g w3 qa h1 o1 d1 r1 σ.2.2.2.2.2.1.1 σ.2.2.2.2.2.1.2.1 σ.2.2.2.2.2.1.2.2 := eM.kp (fun i _ _ => hU3.2 i (by omega))
    have eN : xMach g w3 qb h2 o2 d2 r2 X.2.2.1 X.2.2.2.1 X.2.2.2.2 := eN.kp (fun i _ _ => hU3.2 i (by omega))
    have hQ := hQ.up hU3 (by omega)
    refine lv_aload_n hx hb d_MT_read_49 rfl (lv_at hl 2 rfl) ?_
    refine lv_aload_n hx hb d_MT_read_50 rfl (lv_at hl 0 rfl) ?_
    refine x_put E hP hD hS m0 rfl cl0_in cl0_ty cl0_nm 5 (by decide) wf_MT_44 rfl rfl rfl (Nat.le_of_ble_eq_true rfl) d_MT_read_51 (fun w4 H locs hU4 hP hD hS => ?_)
    have m0 : w4[0]? = some (h0, .inr (0, [.ref hs, .ref hp, .ref ha, .ref hf, .ref h2, .ref h1])) := hU4.1
    have eT : xText g w4 2 ht tt σ.1.1 0 := eT.kp (fun i _ _ => hU4.2 i (by omega))
    have eR : xTs g w4 4 hp tp σ.2.1 := eR.kp (fun i _ _ => hU4.2 i (by omega))
    have eS : w4[1]? = some (hs, .inr (3, [.ref ht, .int (nI X.2.1)])) := (hU4.2 _ (by omega)).trans eS
    have eA : xPath g w4 6 ha oa ra σ.2.2.2.1 := eA.kp (fun i _ _ => hU4.2 i (by omega))
    have eF : xFs g w4 32 hf of rf σ.2.2.2.2.1 := eF.kp (fun i _ _ => hU4.2 i (by omega))
    have eM : xMach g w4 qa h1 o1 d1 r1 σ.2.2.2.2.2.1.1 σ.2.2.2.2.2.1.2.1 σ.2.2.2.2.2.1.2.2 := eM.kp (fun i _ _ => hU4.2 i (by omega))
    have eN : xMach g w4 qb h2 o2 d2 r2 X.2.2.1 X.2.2.2.1 X.2.2.2.2 := eN.kp (fun i _ _ => hU4.2 i (by omega))
    have hQ := hQ.up hU4 (by omega)
    refine lv_aload_n hx hb d_MT_read_54 rfl (lv_at hl 2 rfl) ?_
    refine x_get E hP m0 rfl cl0_in 2 (by decide) wf_MT_26 rfl d_MT_read_55 ?_
    refine lv_aload_n hx hb d_MT_read_58 rfl (lv_at hl 2 rfl) ?_
    refine x_get E hP m0 rfl cl0_in 4 (by decide) wf_MT_40 rfl d_MT_read_59 ?_
    refine x_cVv (As := [.ref h2]) (rest := []) E (c_Pa_follow l g b0 _ eA eN hcn (by omega)) wy_Pa_follow wl_MT_65 hP hD hS eA.1 rfl hl.1 ⟨by decide, by decide⟩ ⟨Nat.le_refl _, Nat.le_refl _⟩ rfl (Nat.le_of_ble_eq_true rfl) d_MT_read_62 (fun w5 H locs hr62 hP hD hS => ?_)
    obtain ⟨hq, T0, eA, hT0⟩ := hr62
    have hQ := hQ.tr (hq.wide (by omega))
    have m0 := (hq _ (by omega)).trans m0
    have eS := (hq _ (by omega)).trans eS
    have eT := eT.keep hq (by omega)
    have eR := eR.keep hq (by omega)
    have eF := eF.keep hq (by omega)
    have eM := eM.keep hq (by omega)
    have eN := eN.keep hq (by omega)
    refine lv_aload_n hx hb d_MT_read_65 rfl (lv_at hl 2 rfl) ?_
    refine x_get E hP m0 rfl cl0_in 3 (by decide) wf_MT_33 rfl d_MT_read_66 ?_
    refine lv_aload_n hx hb d_MT_read_69 rfl (lv_at hl 2 rfl) ?_
    refine x_get E hP m0 rfl cl0_in 4 (by decide) wf_MT_40 rfl d_MT_read_70 ?_
    refine lv_aload_n hx hb d_MT_read_73 rfl (lv_at hl 2 rfl) ?_
    refine x_get E hP m0 rfl cl0_in 2 (by decide) wf_MT_26 rfl d_MT_read_74 ?_
    refine x_cVv (As := [.ref h2, .ref ha]) (rest := []) E (c_Fl_find l g b0 _ eF eN hcn eA (by omega)) wy_Fl_find wl_MT_69 hP hD hS eF.1 rfl hl.1 ⟨by decide, by decide⟩ ⟨Nat.le_refl _, Nat.le_refl _⟩ rfl (Nat.le_of_ble_eq_true rfl) d_MT_read_77 (fun w6 H locs hr77 hP hD hS => ?_)
    obtain ⟨hq, eF⟩ := hr77
    have hQ := hQ.tr (hq.wide (by omega))
    have m0 := (hq _ (by omega)).trans m0
    have eS := (hq _ (by omega)).trans eS
    have eT := eT.keep hq (by omega)
    have eR := eR.keep hq (by omega)
    have eA := eA.keep hq (by omega)
    have eM := eM.keep hq (by omega)
    have eN := eN.keep hq (by omega)
    refine lv_aload_n hx hb d_MT_read_80 rfl (lv_at hl 2 rfl) ?_
    refine x_get E hP m0 rfl cl0_in 4 (by decide) wf_MT_40 rfl d_MT_read_81 ?_
    refine x_get E hP eN.1 rfl cl2_in 2 (by decide) wf_MT_73 rfl d_MT_read_84 ?_
    exact x_ri E hr hS ⟨ix0, T0, hix0, hT0, by rw [cl_read, hX, if_neg c23]; exact ⟨rfl, hQ, ⟨ht, tt, hp, tp, hs, ha, oa, hf, of, qb, h2, o2, d2, qa, h1, o1, d1, ra, rf, r2, r1, by omega, m0, eT, eR, eS, eA, eF, eN, eM⟩, ⟨Nat.zero_le _, k2, Nat.le_trans hpl k1, fl_all_le hcn, hcn, k5⟩⟩⟩ hP hD d_MT_read_87
  · refine lv_iconst (v := (-1)) hx hb d_MT_read_26 (by decide) ?_
    refine lv_aload_n hx hb d_MT_read_27 rfl (lv_at hl 1 rfl) ?_
    refine x_get E hP m0 rfl cl0_in 0 (by decide) wf_MT_12 rfl d_MT_read_28 ?_
    refine x_get E hP eS rfl cl3_in 1 (by decide) wf_MT_61 rfl d_MT_read_31 ?_
    refine lv_isub hx hb d_MT_read_34 ?_
    exact x_ri E hr hS ⟨ix0, fun _ _ => -1, hix0, fun _ _ _ _ => rfl, by rw [cl_read, hX, if_pos c23]; exact ⟨rfl, hQ, ⟨ht, tt, hp, tp, hs, ha, oa, hf, of, qa, h1, o1, d1, qb, h2, o2, d2, ra, rf, r1, r2, hqq, m0, eT, eR, eS, eA, eF, eM, eN⟩, ⟨Nat.zero_le _, k2, Nat.le_trans hpl k1, k4, k5, hcn⟩⟩⟩ hP hD d_MT_read_35
