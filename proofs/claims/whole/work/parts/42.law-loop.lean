theorem xCl.at0 {g : xG} {ws : va_W} {h0 : Nat} {σ : cl_S} (h : xCl g ws h0 σ) : ∃ fs, ws[0]? = some (h0, .inr (0, fs)) := by
  obtain ⟨ht, tt, hp, tp, hs, ha, oa, hf, of, qa, h1, o1, d1, qb, h2, o2, d2, ra, rf, r1, r2, hqq, m0, -⟩ := h
  exact ⟨_, m0⟩
theorem xCl.kp {g : xG} {ws w1 : va_W} {h0 : Nat} {σ : cl_S} (h : xCl g ws h0 σ) (k : ∀ i, i < 55 → w1[i]? = ws[i]?) : xCl g w1 h0 σ := by
  obtain ⟨ht, tt, hp, tp, hs, ha, oa, hf, of, qa, h1, o1, d1, qb, h2, o2, d2, ra, rf, r1, r2, hqq, m0, eT, eR, eS, eA, eF, eM, eN⟩ := h
  exact ⟨ht, tt, hp, tp, hs, ha, oa, hf, of, qa, h1, o1, d1, qb, h2, o2, d2, ra, rf, r1, r2, hqq, (k _ (by omega)).trans m0, eT.kp (fun i _ _ => k i (by omega)), eR.kp (fun i _ _ => k i (by omega)), (k _ (by omega)).trans eS, eA.kp (fun i _ _ => k i (by omega)), eF.kp (fun i _ _ => k i (by omega)), eM.kp (fun i _ _ => k i (by omega)), eN.kp (fun i _ _ => k i (by omega))⟩
theorem lw_go {i L : Nat} (hi : i < 2 ^ 30) (hL : L < 2 ^ 30) (h : ¬ nI L - 4 < nI i) : i + 4 ≤ L := by
  have h1 : ¬ (nI L - nI 4).toInt < (nI i).toInt := fun q => h (Int32.lt_iff_toInt_lt.mpr q)
  rw [pk_sub_toInt hL (by omega), nI_toInt (by omega)] at h1
  omega
theorem lg_self (v : Int64) : lg_cmp v v = 0 := by
  rw [lg_cmp, if_neg (fun q => Int64.lt_irrefl q), if_pos rfl]
theorem lw_key (x : Int32) : x &&& 15 = 0 ∨ x &&& 15 = 1 ∨ x &&& 15 = 2 ∨ x &&& 15 = 3 ∨ x &&& 15 = 4 ∨ x &&& 15 = 5 ∨ x &&& 15 = 6 ∨ x &&& 15 = 7 ∨ x &&& 15 = 8 ∨ x &&& 15 = 9 ∨ x &&& 15 = 10 ∨ x &&& 15 = 11 ∨ x &&& 15 = 12 ∨ x &&& 15 = 13 ∨ x &&& 15 = 14 ∨ x &&& 15 = 15 := by
  obtain ⟨j, hj, e⟩ := pk_andE x (m := 15) 4 (by decide)
  have hj : j < 16 := hj
  rw [e]
  obtain rfl | rfl | rfl | rfl | rfl | rfl | rfl | rfl | rfl | rfl | rfl | rfl | rfl | rfl | rfl | rfl : j = 0 ∨ j = 1 ∨ j = 2 ∨ j = 3 ∨ j = 4 ∨ j = 5 ∨ j = 6 ∨ j = 7 ∨ j = 8 ∨ j = 9 ∨ j = 10 ∨ j = 11 ∨ j = 12 ∨ j = 13 ∨ j = 14 ∨ j = 15 := by omega
  all_goals decide
set_option maxRecDepth 100000 in
set_option maxHeartbeats 4000000 in
theorem law_loop {p : Program} {e : Env} {s : State} {m : MethodId} {below : List Frame} {meth : Method} {c : Code} (l : Launch) {b L b0 h0 hm : Nat} {ad : Nat → Nat} {xs : Nat → Int32} {g : xG} (hL : L ≤ 2048) (C0 : lw_At p s m meth c b L xs) (E : xE g b0 code 4 R_Lw p s m #[Value.ref b] meth c) (hb1 : s.heap.size ≤ b0) : ∀ (fu i : Nat) (σ : cl_S) (n : Nat) (m9 : Nat) (k9 : Nat) (np : Nat) (s1 : Int32) (s2 : Int32) (s3 : Int32) (f0 : Nat → Int32) (f1 : Nat → Int32) (f2 : Nat → Int32) (f3 : Nat → Int32) (f4 : Nat → Int32) (f5 : Nat → Int32) (f6 : Nat → Int32) (f7 : Nat → Int32) (f8 : Nat → Int32) (f9 : Nat → Int32) (f10 : Nat → Int32) (f11 : Nat → Int32) (f12 : Nat → Int32) (f13 : Nat → Int32) (f14 : Nat → Int32) (f15 : Nat → Int64) (f16 : Nat → Int32) (ws : va_W) (H : Heap) (locs : List Loc) (ls : Array Slot), (L < i + fu) → (i ≤ L) → (cl_ok σ) → (Inv σ n m9 k9 np f0 f6 f7 f8 f9 f10 f11 f12 f13 f14 f16) → (lv_has ls 4 [(3, .int (nI i)), (2, .ref hm), (1, .ref h0), (0, .ref b)]) → (va_P (xD g) vwCl ws H) → (va_D (xA b0) ws) → (va_S (xA b0) s.heap H locs) → (xCl g ws h0 σ) → (xMo g ws 55 hm ad (nI n) s1 s2 s3 (nI m9) (nI k9) (nI np) f0 f1 f2 f3 f4 f5 f6 f7 f8 f9 f10 f11 f12 f13 f14 f15 f16) → W p l e room_1 s m #[Value.ref b] below meth c H locs 73 5100 (lw_Z below #[Value.ref b] s) (F0 m 18 ls []) := by
  obtain ⟨hx, hb, hr, hml, hown0, hts0, hX, hbl, hlocks, hgv⟩ := id C0
  obtain ⟨-, -, -, hown, hts, hK, hZ, hb0, -⟩ := id E
  have hbA : ¬ xA b0 b := fun q => absurd (show b0 ≤ b from q) (by omega)
  intro fu
  induction fu with
  | zero =>
    intro i σ n m9 k9 np s1 s2 s3 f0 f1 f2 f3 f4 f5 f6 f7 f8 f9 f10 f11 f12 f13 f14 f15 f16 ws H locs ls hk hi ho hI hl hP hD hS eC eB
    omega
  | succ fu ih =>
    intro i σ n m9 k9 np s1 s2 s3 f0 f1 f2 f3 f4 f5 f6 f7 f8 f9 f10 f11 f12 f13 f14 f15 f16 ws H locs ls hk hi ho hI hl hP hD hS eC eB
    obtain ⟨fs0, e0⟩ := eC.at0
    have hn : n ≤ 300 := hI.1.2.1
    have hm9 : m9 ≤ 24 := hI.2.2.1.2.1
    have hk9 : k9 ≤ 300 := Nat.le_trans hI.2.2.2.2.2.1 (by decide)
    have hnp : np ≤ 900 := Nat.le_trans hI.2.1.2 (by decide)
    have hpk := iv_pok hI
    refine lv_iload_n hx hb d_Lw_law_18 rfl (lv_at hl 0 rfl) ?_
    refine lv_aload_n hx hb d_Lw_law_19 rfl (lv_at hl 3 rfl) ?_
    refine va_slen hx hb hX hbl hbA hS d_Lw_law_20 ?_
    refine lv_iconst (v := 4) hx hb d_Lw_law_21 (by decide) ?_
    refine lv_isub hx hb d_Lw_law_22 ?_
    refine lv_icmp_gt (tgt := 392) hx hb d_Lw_law_23 (by decide) (fun c23 => ?_) (fun c23 => ?_)
    · refine lv_iconst (v := 1) hx hb d_Lw_law_392 (by decide) ?_
      refine va_forget (fun q hq => Nat.le_trans hb1 (hS.2.2 q hq)) ?_
      refine W.widen (k := 600000) (n := 7302250) (by decide) (by decide) ?_
      exact lw_ret hx hb hr hlocks d_Lw_law_393
    · have hgo : i + 4 ≤ L := lw_go (by omega) (by omega) c23
      refine lv_aload_n hx hb d_Lw_law_26 rfl (lv_at hl 3 rfl) ?_
      refine lv_iload_n hx hb d_Lw_law_27 rfl (lv_at hl 0 rfl) ?_
      refine va_sld hx hb hX hbl hbA hS (vp_in_nI (by omega) (by omega)) d_Lw_law_28 ?_
      refine x_top (y := xs (i)) (by rw [nI_clamp (by omega)]) ?_
      refine lv_bipush (v := 15) hx hb d_Lw_law_29 (by decide) ?_
      refine lv_iand hx hb d_Lw_law_31 ?_
      rcases lw_key (xs i) with hkey | hkey | hkey | hkey | hkey | hkey | hkey | hkey | hkey | hkey | hkey | hkey | hkey | hkey | hkey | hkey
      · refine x_top (y := 0) hkey ?_
        refine lv_tableIn (off := 60) (tgt := 92) hx hb d_Lw_law_32 (by decide) (by decide) (by decide) (by decide) ?_
        refine lv_aload_n hx hb d_Lw_law_92 rfl (lv_at hl 2 rfl) ?_
        refine lv_aload_n hx hb d_Lw_law_93 rfl (lv_at hl 3 rfl) ?_
        refine lv_iload_n hx hb d_Lw_law_94 rfl (lv_at hl 0 rfl) ?_
        refine lv_iconst (v := 1) hx hb d_Lw_law_95 (by decide) ?_
        refine lv_iadd hx hb d_Lw_law_96 ?_
        refine x_top (y := nI (i + 1)) (nI_1 i) ?_
        refine va_sld hx hb hX hbl hbA hS (vp_in_nI (by omega : i + 1 < L) (by omega)) d_Lw_law_97 ?_
        refine x_top (y := xs (i + 1)) (by rw [nI_clamp (by omega)]) ?_
        refine x_cVi (As := [.int (xs (i + 1))]) (rest := []) E (c_MT_sign l g b0 _ eC ho (xs (i + 1))) wy_MT_sign wl_Lw_13 hP hD hS e0 rfl hl.1 ⟨by decide, by decide⟩ ⟨by decide, by decide⟩ rfl (Nat.le_of_ble_eq_true rfl) d_Lw_law_98 (fun r98 w51 H locs hr98 hP hD hS => ?_)
        obtain ⟨hre, hq, eC, ho⟩ := hr98
        have hre := hre.symm
        subst hre
        have eB := eB.kp (fun k h1 h2 => hq k (by omega))
        refine lv_aload_n hx hb d_Lw_law_101 rfl (lv_at hl 1 rfl) ?_
        refine lv_aload_n hx hb d_Lw_law_102 rfl (lv_at hl 3 rfl) ?_
        refine lv_iload_n hx hb d_Lw_law_103 rfl (lv_at hl 0 rfl) ?_
        refine lv_iconst (v := 1) hx hb d_Lw_law_104 (by decide) ?_
        refine lv_iadd hx hb d_Lw_law_105 ?_
        refine x_top (y := nI (i + 1)) (nI_1 i) ?_
        refine va_sld hx hb hX hbl hbA hS (vp_in_nI (by omega : i + 1 < L) (by omega)) d_Lw_law_106 ?_
        refine x_top (y := xs (i + 1)) (by rw [nI_clamp (by omega)]) ?_
        refine x_cVi (As := [.int (xs (i + 1))]) (rest := [.int ((cl_sign σ (xs (i + 1))).1)]) E (c_Mo_sign l g b0 _ eB hn (xs (i + 1))) wy_Mo_sign wl_Lw_17 hP hD hS eB.1 rfl hl.1 ⟨by decide, by decide⟩ ⟨by decide, by decide⟩ rfl (Nat.le_of_ble_eq_true rfl) d_Lw_law_107 (fun r107 w52 H locs hr107 hP hD hS => ?_)
        obtain ⟨hre, hq, eB⟩ := hr107
        have hre := hre.symm
        subst hre
        have eC := eC.kp (fun k hk => hq k (by omega))
        refine lv_icmp_eq (tgt := 386) hx hb d_Lw_law_110 (by decide) (fun c110 => ?_) (fun c110 => absurd (iv_sign hI (xs (i + 1))).1 c110)
        refine lv_iinc (v := nI (i + 4)) (lv' := [(3, .int (nI (i + 4))), (2, .ref hm), (1, .ref h0), (0, .ref b)]) hx hb d_Lw_law_386 hl (k := 0) rfl (nI_add i 4) (by decide) rfl (fun ls hl => ?_)
        refine lv_goto (tgt := 18) hx hb d_Lw_law_389 (by decide) ?_
        exact ih (i + 4) ((cl_sign σ (xs (i + 1))).2) (if mo_sign n (xs (i + 1)) = 0 then n else n + 1) m9 k9 np s1 s2 s3 (if mo_sign n (xs (i + 1)) = 0 then f0 else upd f0 n (xs (i + 1))) f1 f2 f3 f4 f5 f6 f7 f8 f9 f10 f11 f12 f13 f14 f15 f16 _ _ _ _ (by omega) (by omega) ho ((iv_sign hI (xs (i + 1))).2) hl hP hD hS eC eB
      · refine x_top (y := 1) hkey ?_
        refine lv_tableIn (off := 83) (tgt := 115) hx hb d_Lw_law_32 (by decide) (by decide) (by decide) (by decide) ?_
        refine lv_aload_n hx hb d_Lw_law_115 rfl (lv_at hl 2 rfl) ?_
        refine x_cVi (As := []) (rest := []) E (c_MT_read l g b0 _ eC ho) wy_MT_read wl_Lw_18 hP hD hS e0 rfl hl.1 ⟨by decide, by decide⟩ ⟨by decide, by decide⟩ rfl (Nat.le_of_ble_eq_true rfl) d_Lw_law_116 (fun r116 w51 H locs hr116 hP hD hS => ?_)
        obtain ⟨ix0, T0, hix0, hT0, hre, hq, eC, ho⟩ := hr116
        have hre := hre.symm
        subst hre
        have eB := eB.kp (fun k h1 h2 => hq k (by omega))
        refine lv_aload_n hx hb d_Lw_law_119 rfl (lv_at hl 1 rfl) ?_
        refine x_cVi (As := []) (rest := [.int ((cl_read σ ix0 T0).1)]) E (c_Mo_read l g b0 _ eB hn) wy_Mo_read wl_Lw_22 hP hD hS eB.1 rfl hl.1 ⟨by decide, by decide⟩ ⟨by decide, by decide⟩ rfl (Nat.le_of_ble_eq_true rfl) d_Lw_law_120 (fun r120 w52 H locs hr120 hP hD hS => ?_)
        have hq := hr120.1
        have h24 := hr120.2.2.1
        have hAB := hr120.2.2.2
        have eC := eC.kp (fun k hk => hq k (by omega))
        rcases hAB with ⟨hc1, hre, eB⟩ | ⟨hc1, hre, g6, g7, g8, g9, g10, Lz, hcp, hLz, eB⟩
        · have hre := hre.symm
          subst hre
          refine lv_icmp_eq (tgt := 386) hx hb d_Lw_law_123 (by decide) (fun c123 => ?_) (fun c123 => absurd ((iv_read hI hix0 hT0 (f1, f2, f3, f4, f5) h24).1 hc1).1 c123)
          refine lv_iinc (v := nI (i + 4)) (lv' := [(3, .int (nI (i + 4))), (2, .ref hm), (1, .ref h0), (0, .ref b)]) hx hb d_Lw_law_386 hl (k := 0) rfl (nI_add i 4) (by decide) rfl (fun ls hl => ?_)
          refine lv_goto (tgt := 18) hx hb d_Lw_law_389 (by decide) ?_
          exact ih (i + 4) ((cl_read σ ix0 T0).2) 0 m9 k9 np (nI (md_run f0 n 25 (0, -1, 0, f1, f2, f3, f4, f5)).1) ((md_run f0 n 25 (0, -1, 0, f1, f2, f3, f4, f5)).2.1) (nI (md_run f0 n 25 (0, -1, 0, f1, f2, f3, f4, f5)).2.2.1) f0 ((md_run f0 n 25 (0, -1, 0, f1, f2, f3, f4, f5)).2.2.2.1) ((md_run f0 n 25 (0, -1, 0, f1, f2, f3, f4, f5)).2.2.2.2.1) ((md_run f0 n 25 (0, -1, 0, f1, f2, f3, f4, f5)).2.2.2.2.2.1) ((md_run f0 n 25 (0, -1, 0, f1, f2, f3, f4, f5)).2.2.2.2.2.2.1) ((md_run f0 n 25 (0, -1, 0, f1, f2, f3, f4, f5)).2.2.2.2.2.2.2) f6 f7 f8 f9 f10 f11 f12 f13 f14 f15 f16 _ _ _ _ (by omega) (by omega) ho (((iv_read hI hix0 hT0 (f1, f2, f3, f4, f5) h24).1 hc1).2) hl hP hD hS eC eB
        · have hre := hre.symm
          subst hre
          refine lv_icmp_eq (tgt := 386) hx hb d_Lw_law_123 (by decide) (fun c123 => ?_) (fun c123 => absurd ((iv_read hI hix0 hT0 (f1, f2, f3, f4, f5) h24).2 hc1).1 c123)
          refine lv_iinc (v := nI (i + 4)) (lv' := [(3, .int (nI (i + 4))), (2, .ref hm), (1, .ref h0), (0, .ref b)]) hx hb d_Lw_law_386 hl (k := 0) rfl (nI_add i 4) (by decide) rfl (fun ls hl => ?_)
          refine lv_goto (tgt := 18) hx hb d_Lw_law_389 (by decide) ?_
          exact ih (i + 4) ((cl_read σ ix0 T0).2) 0 ((md_run f0 n 25 (0, -1, 0, f1, f2, f3, f4, f5)).2.2.1) ((mj_all g6 g7 g8 g10 (mo_lay g7 g10 (md_run f0 n 25 (0, -1, 0, f1, f2, f3, f4, f5)).2.2.1 Lz) (md_run f0 n 25 (0, -1, 0, f1, f2, f3, f4, f5)).2.2.1 (0, f12, f13, f14)).1) np (nI (md_run f0 n 25 (0, -1, 0, f1, f2, f3, f4, f5)).1) ((md_run f0 n 25 (0, -1, 0, f1, f2, f3, f4, f5)).2.1) (nI (md_run f0 n 25 (0, -1, 0, f1, f2, f3, f4, f5)).2.2.1) f0 ((md_run f0 n 25 (0, -1, 0, f1, f2, f3, f4, f5)).2.2.2.1) ((md_run f0 n 25 (0, -1, 0, f1, f2, f3, f4, f5)).2.2.2.2.1) ((md_run f0 n 25 (0, -1, 0, f1, f2, f3, f4, f5)).2.2.2.2.2.1) ((md_run f0 n 25 (0, -1, 0, f1, f2, f3, f4, f5)).2.2.2.2.2.2.1) ((md_run f0 n 25 (0, -1, 0, f1, f2, f3, f4, f5)).2.2.2.2.2.2.2) g6 g7 g8 g9 g10 (mo_lay g7 g10 (md_run f0 n 25 (0, -1, 0, f1, f2, f3, f4, f5)).2.2.1 Lz) ((mj_all g6 g7 g8 g10 (mo_lay g7 g10 (md_run f0 n 25 (0, -1, 0, f1, f2, f3, f4, f5)).2.2.1 Lz) (md_run f0 n 25 (0, -1, 0, f1, f2, f3, f4, f5)).2.2.1 (0, f12, f13, f14)).2.1) ((mj_all g6 g7 g8 g10 (mo_lay g7 g10 (md_run f0 n 25 (0, -1, 0, f1, f2, f3, f4, f5)).2.2.1 Lz) (md_run f0 n 25 (0, -1, 0, f1, f2, f3, f4, f5)).2.2.1 (0, f12, f13, f14)).2.2.1) ((mj_all g6 g7 g8 g10 (mo_lay g7 g10 (md_run f0 n 25 (0, -1, 0, f1, f2, f3, f4, f5)).2.2.1 Lz) (md_run f0 n 25 (0, -1, 0, f1, f2, f3, f4, f5)).2.2.1 (0, f12, f13, f14)).2.2.2) f15 f16 _ _ _ _ (by omega) (by omega) ho (((iv_read hI hix0 hT0 (f1, f2, f3, f4, f5) h24).2 hc1).2 g6 g7 g8 g9 g10 Lz f12 f13 f14 hcp hLz) hl hP hD hS eC eB
      · refine x_top (y := 2) hkey ?_
        refine lv_tableIn (off := 96) (tgt := 128) hx hb d_Lw_law_32 (by decide) (by decide) (by decide) (by decide) ?_
        refine lv_aload_n hx hb d_Lw_law_128 rfl (lv_at hl 2 rfl) ?_
        refine lv_aload_n hx hb d_Lw_law_129 rfl (lv_at hl 3 rfl) ?_
        refine lv_iload_n hx hb d_Lw_law_130 rfl (lv_at hl 0 rfl) ?_
        refine lv_iconst (v := 1) hx hb d_Lw_law_131 (by decide) ?_
        refine lv_iadd hx hb d_Lw_law_132 ?_
        refine x_top (y := nI (i + 1)) (nI_1 i) ?_
        refine va_sld hx hb hX hbl hbA hS (vp_in_nI (by omega : i + 1 < L) (by omega)) d_Lw_law_133 ?_
        refine x_top (y := xs (i + 1)) (by rw [nI_clamp (by omega)]) ?_
        refine lv_aload_n hx hb d_Lw_law_134 rfl (lv_at hl 3 rfl) ?_
        refine lv_iload_n hx hb d_Lw_law_135 rfl (lv_at hl 0 rfl) ?_
        refine lv_iconst (v := 2) hx hb d_Lw_law_136 (by decide) ?_
        refine lv_iadd hx hb d_Lw_law_137 ?_
        refine x_top (y := nI (i + 2)) (nI_add i 2) ?_
        refine va_sld hx hb hX hbl hbA hS (vp_in_nI (by omega : i + 2 < L) (by omega)) d_Lw_law_138 ?_
        refine x_top (y := xs (i + 2)) (by rw [nI_clamp (by omega)]) ?_
        refine x_cRi (As := [.int (xs (i + 1)), .int (xs (i + 2))]) (rest := []) E (c_MT_part l g b0 _ eC ho (xs (i + 1)) (xs (i + 2))) wy_MT_part wl_Lw_23 hP hD hS e0 rfl hl.1 ⟨by decide, by decide⟩ ⟨by decide, by decide⟩ rfl (Nat.le_of_ble_eq_true rfl) d_Lw_law_139 (fun r139 hr139 => ?_)
        subst hr139
        refine lv_aload_n hx hb d_Lw_law_142 rfl (lv_at hl 1 rfl) ?_
        refine lv_aload_n hx hb d_Lw_law_143 rfl (lv_at hl 3 rfl) ?_
        refine lv_iload_n hx hb d_Lw_law_144 rfl (lv_at hl 0 rfl) ?_
        refine lv_iconst (v := 1) hx hb d_Lw_law_145 (by decide) ?_
        refine lv_iadd hx hb d_Lw_law_146 ?_
        refine x_top (y := nI (i + 1)) (nI_1 i) ?_
        refine va_sld hx hb hX hbl hbA hS (vp_in_nI (by omega : i + 1 < L) (by omega)) d_Lw_law_147 ?_
        refine x_top (y := xs (i + 1)) (by rw [nI_clamp (by omega)]) ?_
        refine lv_aload_n hx hb d_Lw_law_148 rfl (lv_at hl 3 rfl) ?_
        refine lv_iload_n hx hb d_Lw_law_149 rfl (lv_at hl 0 rfl) ?_
        refine lv_iconst (v := 2) hx hb d_Lw_law_150 (by decide) ?_
        refine lv_iadd hx hb d_Lw_law_151 ?_
        refine x_top (y := nI (i + 2)) (nI_add i 2) ?_
        refine va_sld hx hb hX hbl hbA hS (vp_in_nI (by omega : i + 2 < L) (by omega)) d_Lw_law_152 ?_
        refine x_top (y := xs (i + 2)) (by rw [nI_clamp (by omega)]) ?_
        refine x_cRi (As := [.int (xs (i + 1)), .int (xs (i + 2))]) (rest := [.int (cl_part σ (xs (i + 1)) (xs (i + 2)))]) E (c_Mo_part l g b0 _ eB hm9 (xs (i + 1)) (xs (i + 2))) wy_Mo_part wl_Lw_27 hP hD hS eB.1 rfl hl.1 ⟨by decide, by decide⟩ ⟨by decide, by decide⟩ rfl (Nat.le_of_ble_eq_true rfl) d_Lw_law_153 (fun r153 hr153 => ?_)
        subst hr153
        refine lv_icmp_eq (tgt := 386) hx hb d_Lw_law_156 (by decide) (fun c156 => ?_) (fun c156 => absurd (iv_part hI _ _) c156)
        refine lv_iinc (v := nI (i + 4)) (lv' := [(3, .int (nI (i + 4))), (2, .ref hm), (1, .ref h0), (0, .ref b)]) hx hb d_Lw_law_386 hl (k := 0) rfl (nI_add i 4) (by decide) rfl (fun ls hl => ?_)
        refine lv_goto (tgt := 18) hx hb d_Lw_law_389 (by decide) ?_
        exact ih (i + 4) σ n m9 k9 np s1 s2 s3 f0 f1 f2 f3 f4 f5 f6 f7 f8 f9 f10 f11 f12 f13 f14 f15 f16 _ _ _ _ (by omega) (by omega) ho hI hl hP hD hS eC eB
      · refine x_top (y := 3) hkey ?_
        refine lv_tableIn (off := 129) (tgt := 161) hx hb d_Lw_law_32 (by decide) (by decide) (by decide) (by decide) ?_
        refine lv_aload_n hx hb d_Lw_law_161 rfl (lv_at hl 2 rfl) ?_
        refine x_cRi (As := []) (rest := []) E (c_MT_check l g b0 _ eC ho) wy_MT_check wl_Lw_28 hP hD hS e0 rfl hl.1 ⟨by decide, by decide⟩ ⟨by decide, by decide⟩ rfl (Nat.le_of_ble_eq_true rfl) d_Lw_law_162 (fun r162 hr162 => ?_)
        subst hr162
        refine lv_aload_n hx hb d_Lw_law_165 rfl (lv_at hl 1 rfl) ?_
        refine x_cRi (As := []) (rest := [.int (cl_check σ)]) E (c_Mo_check l g b0 _ eB) wy_Mo_check wl_Lw_31 hP hD hS eB.1 rfl hl.1 ⟨by decide, by decide⟩ ⟨by decide, by decide⟩ rfl (Nat.le_of_ble_eq_true rfl) d_Lw_law_166 (fun r166 hr166 => ?_)
        subst hr166
        refine lv_icmp_eq (tgt := 386) hx hb d_Lw_law_169 (by decide) (fun c169 => ?_) (fun c169 => absurd (iv_check hI) c169)
        refine lv_iinc (v := nI (i + 4)) (lv' := [(3, .int (nI (i + 4))), (2, .ref hm), (1, .ref h0), (0, .ref b)]) hx hb d_Lw_law_386 hl (k := 0) rfl (nI_add i 4) (by decide) rfl (fun ls hl => ?_)
        refine lv_goto (tgt := 18) hx hb d_Lw_law_389 (by decide) ?_
        exact ih (i + 4) σ n m9 k9 np s1 s2 s3 f0 f1 f2 f3 f4 f5 f6 f7 f8 f9 f10 f11 f12 f13 f14 f15 f16 _ _ _ _ (by omega) (by omega) ho hI hl hP hD hS eC eB
      · refine x_top (y := 4) hkey ?_
        refine lv_tableIn (off := 142) (tgt := 174) hx hb d_Lw_law_32 (by decide) (by decide) (by decide) (by decide) ?_
        refine lv_aload_n hx hb d_Lw_law_174 rfl (lv_at hl 2 rfl) ?_
        refine lv_aload_n hx hb d_Lw_law_175 rfl (lv_at hl 3 rfl) ?_
        refine lv_iload_n hx hb d_Lw_law_176 rfl (lv_at hl 0 rfl) ?_
        refine lv_iconst (v := 1) hx hb d_Lw_law_177 (by decide) ?_
        refine lv_iadd hx hb d_Lw_law_178 ?_
        refine x_top (y := nI (i + 1)) (nI_1 i) ?_
        refine va_sld hx hb hX hbl hbA hS (vp_in_nI (by omega : i + 1 < L) (by omega)) d_Lw_law_179 ?_
        refine x_top (y := xs (i + 1)) (by rw [nI_clamp (by omega)]) ?_
        refine lv_aload_n hx hb d_Lw_law_180 rfl (lv_at hl 3 rfl) ?_
        refine lv_iload_n hx hb d_Lw_law_181 rfl (lv_at hl 0 rfl) ?_
        refine lv_iconst (v := 2) hx hb d_Lw_law_182 (by decide) ?_
        refine lv_iadd hx hb d_Lw_law_183 ?_
        refine x_top (y := nI (i + 2)) (nI_add i 2) ?_
        refine va_sld hx hb hX hbl hbA hS (vp_in_nI (by omega : i + 2 < L) (by omega)) d_Lw_law_184 ?_
        refine x_top (y := xs (i + 2)) (by rw [nI_clamp (by omega)]) ?_
        refine x_cRi (As := [.int (xs (i + 1)), .int (xs (i + 2))]) (rest := []) E (c_MT_fault l g b0 _ eC ho (xs (i + 1)) (xs (i + 2))) wy_MT_fault wl_Lw_32 hP hD hS e0 rfl hl.1 ⟨by decide, by decide⟩ ⟨by decide, by decide⟩ rfl (Nat.le_of_ble_eq_true rfl) d_Lw_law_185 (fun r185 hr185 => ?_)
        subst hr185
        refine lv_aload_n hx hb d_Lw_law_188 rfl (lv_at hl 1 rfl) ?_
        refine lv_aload_n hx hb d_Lw_law_189 rfl (lv_at hl 3 rfl) ?_
        refine lv_iload_n hx hb d_Lw_law_190 rfl (lv_at hl 0 rfl) ?_
        refine lv_iconst (v := 1) hx hb d_Lw_law_191 (by decide) ?_
        refine lv_iadd hx hb d_Lw_law_192 ?_
        refine x_top (y := nI (i + 1)) (nI_1 i) ?_
        refine va_sld hx hb hX hbl hbA hS (vp_in_nI (by omega : i + 1 < L) (by omega)) d_Lw_law_193 ?_
        refine x_top (y := xs (i + 1)) (by rw [nI_clamp (by omega)]) ?_
        refine lv_aload_n hx hb d_Lw_law_194 rfl (lv_at hl 3 rfl) ?_
        refine lv_iload_n hx hb d_Lw_law_195 rfl (lv_at hl 0 rfl) ?_
        refine lv_iconst (v := 2) hx hb d_Lw_law_196 (by decide) ?_
        refine lv_iadd hx hb d_Lw_law_197 ?_
        refine x_top (y := nI (i + 2)) (nI_add i 2) ?_
        refine va_sld hx hb hX hbl hbA hS (vp_in_nI (by omega : i + 2 < L) (by omega)) d_Lw_law_198 ?_
        refine x_top (y := xs (i + 2)) (by rw [nI_clamp (by omega)]) ?_
        refine x_cRi (As := [.int (xs (i + 1)), .int (xs (i + 2))]) (rest := [.int (cl_fault σ (xs (i + 1)) (xs (i + 2)))]) E (c_Mo_fault l g b0 _ eB hk9 (xs (i + 1)) (xs (i + 2))) wy_Mo_fault wl_Lw_35 hP hD hS eB.1 rfl hl.1 ⟨by decide, by decide⟩ ⟨by decide, by decide⟩ rfl (Nat.le_of_ble_eq_true rfl) d_Lw_law_199 (fun r199 hr199 => ?_)
        subst hr199
        refine lv_icmp_eq (tgt := 386) hx hb d_Lw_law_202 (by decide) (fun c202 => ?_) (fun c202 => absurd (iv_fault hI _ _) c202)
        refine lv_iinc (v := nI (i + 4)) (lv' := [(3, .int (nI (i + 4))), (2, .ref hm), (1, .ref h0), (0, .ref b)]) hx hb d_Lw_law_386 hl (k := 0) rfl (nI_add i 4) (by decide) rfl (fun ls hl => ?_)
        refine lv_goto (tgt := 18) hx hb d_Lw_law_389 (by decide) ?_
        exact ih (i + 4) σ n m9 k9 np s1 s2 s3 f0 f1 f2 f3 f4 f5 f6 f7 f8 f9 f10 f11 f12 f13 f14 f15 f16 _ _ _ _ (by omega) (by omega) ho hI hl hP hD hS eC eB
      · refine x_top (y := 5) hkey ?_
        refine lv_tableIn (off := 175) (tgt := 207) hx hb d_Lw_law_32 (by decide) (by decide) (by decide) (by decide) ?_
        refine lv_aload_n hx hb d_Lw_law_207 rfl (lv_at hl 2 rfl) ?_
        refine lv_aload_n hx hb d_Lw_law_208 rfl (lv_at hl 3 rfl) ?_
        refine lv_iload_n hx hb d_Lw_law_209 rfl (lv_at hl 0 rfl) ?_
        refine lv_iconst (v := 1) hx hb d_Lw_law_210 (by decide) ?_
        refine lv_iadd hx hb d_Lw_law_211 ?_
        refine x_top (y := nI (i + 1)) (nI_1 i) ?_
        refine va_sld hx hb hX hbl hbA hS (vp_in_nI (by omega : i + 1 < L) (by omega)) d_Lw_law_212 ?_
        refine x_top (y := xs (i + 1)) (by rw [nI_clamp (by omega)]) ?_
        refine x_cRi (As := [.int (xs (i + 1))]) (rest := []) E (c_MT_reach l g b0 _ eC ho (xs (i + 1))) wy_MT_reach wl_Lw_36 hP hD hS e0 rfl hl.1 ⟨by decide, by decide⟩ ⟨by decide, by decide⟩ rfl (Nat.le_of_ble_eq_true rfl) d_Lw_law_213 (fun r213 hr213 => ?_)
        subst hr213
        refine lv_aload_n hx hb d_Lw_law_216 rfl (lv_at hl 1 rfl) ?_
        refine lv_aload_n hx hb d_Lw_law_217 rfl (lv_at hl 3 rfl) ?_
        refine lv_iload_n hx hb d_Lw_law_218 rfl (lv_at hl 0 rfl) ?_
        refine lv_iconst (v := 1) hx hb d_Lw_law_219 (by decide) ?_
        refine lv_iadd hx hb d_Lw_law_220 ?_
        refine x_top (y := nI (i + 1)) (nI_1 i) ?_
        refine va_sld hx hb hX hbl hbA hS (vp_in_nI (by omega : i + 1 < L) (by omega)) d_Lw_law_221 ?_
        refine x_top (y := xs (i + 1)) (by rw [nI_clamp (by omega)]) ?_
        refine x_cRi (As := [.int (xs (i + 1))]) (rest := [.int (cl_reach σ (xs (i + 1)))]) E (c_Mo_reach l g b0 _ eB hm9 (xs (i + 1))) wy_Mo_reach wl_Lw_40 hP hD hS eB.1 rfl hl.1 ⟨by decide, by decide⟩ ⟨by decide, by decide⟩ rfl (Nat.le_of_ble_eq_true rfl) d_Lw_law_222 (fun r222 hr222 => ?_)
        subst hr222
        refine lv_icmp_eq (tgt := 386) hx hb d_Lw_law_225 (by decide) (fun c225 => ?_) (fun c225 => absurd (iv_reach hI _) c225)
        refine lv_iinc (v := nI (i + 4)) (lv' := [(3, .int (nI (i + 4))), (2, .ref hm), (1, .ref h0), (0, .ref b)]) hx hb d_Lw_law_386 hl (k := 0) rfl (nI_add i 4) (by decide) rfl (fun ls hl => ?_)
        refine lv_goto (tgt := 18) hx hb d_Lw_law_389 (by decide) ?_
        exact ih (i + 4) σ n m9 k9 np s1 s2 s3 f0 f1 f2 f3 f4 f5 f6 f7 f8 f9 f10 f11 f12 f13 f14 f15 f16 _ _ _ _ (by omega) (by omega) ho hI hl hP hD hS eC eB
      · refine x_top (y := 6) hkey ?_
        refine lv_tableIn (off := 198) (tgt := 230) hx hb d_Lw_law_32 (by decide) (by decide) (by decide) (by decide) ?_
        refine lv_aload_n hx hb d_Lw_law_230 rfl (lv_at hl 2 rfl) ?_
        refine lv_aload_n hx hb d_Lw_law_231 rfl (lv_at hl 3 rfl) ?_
        refine lv_iload_n hx hb d_Lw_law_232 rfl (lv_at hl 0 rfl) ?_
        refine lv_iconst (v := 1) hx hb d_Lw_law_233 (by decide) ?_
        refine lv_iadd hx hb d_Lw_law_234 ?_
        refine x_top (y := nI (i + 1)) (nI_1 i) ?_
        refine va_sld hx hb hX hbl hbA hS (vp_in_nI (by omega : i + 1 < L) (by omega)) d_Lw_law_235 ?_
        refine x_top (y := xs (i + 1)) (by rw [nI_clamp (by omega)]) ?_
        refine lv_aload_n hx hb d_Lw_law_236 rfl (lv_at hl 3 rfl) ?_
        refine lv_iload_n hx hb d_Lw_law_237 rfl (lv_at hl 0 rfl) ?_
        refine lv_iconst (v := 2) hx hb d_Lw_law_238 (by decide) ?_
        refine lv_iadd hx hb d_Lw_law_239 ?_
        refine x_top (y := nI (i + 2)) (nI_add i 2) ?_
        refine va_sld hx hb hX hbl hbA hS (vp_in_nI (by omega : i + 2 < L) (by omega)) d_Lw_law_240 ?_
        refine x_top (y := xs (i + 2)) (by rw [nI_clamp (by omega)]) ?_
        refine x_cRl (As := [.int (xs (i + 1)), .int (xs (i + 2))]) (rest := []) E (c_MT_time l g b0 _ eC ho (xs (i + 1)) (xs (i + 2))) wy_MT_time wl_Lw_41 hP hD hS e0 rfl hl.1 ⟨by decide, by decide⟩ ⟨by decide, by decide⟩ rfl (Nat.le_of_ble_eq_true rfl) d_Lw_law_241 (fun r241 hr241 => ?_)
        subst hr241
        refine lv_aload_n hx hb d_Lw_law_244 rfl (lv_at hl 1 rfl) ?_
        refine lv_aload_n hx hb d_Lw_law_245 rfl (lv_at hl 3 rfl) ?_
        refine lv_iload_n hx hb d_Lw_law_246 rfl (lv_at hl 0 rfl) ?_
        refine lv_iconst (v := 1) hx hb d_Lw_law_247 (by decide) ?_
        refine lv_iadd hx hb d_Lw_law_248 ?_
        refine x_top (y := nI (i + 1)) (nI_1 i) ?_
        refine va_sld hx hb hX hbl hbA hS (vp_in_nI (by omega : i + 1 < L) (by omega)) d_Lw_law_249 ?_
        refine x_top (y := xs (i + 1)) (by rw [nI_clamp (by omega)]) ?_
        refine lv_aload_n hx hb d_Lw_law_250 rfl (lv_at hl 3 rfl) ?_
        refine lv_iload_n hx hb d_Lw_law_251 rfl (lv_at hl 0 rfl) ?_
        refine lv_iconst (v := 2) hx hb d_Lw_law_252 (by decide) ?_
        refine lv_iadd hx hb d_Lw_law_253 ?_
        refine x_top (y := nI (i + 2)) (nI_add i 2) ?_
        refine va_sld hx hb hX hbl hbA hS (vp_in_nI (by omega : i + 2 < L) (by omega)) d_Lw_law_254 ?_
        refine x_top (y := xs (i + 2)) (by rw [nI_clamp (by omega)]) ?_
        refine x_cVl (As := [.int (xs (i + 1)), .int (xs (i + 2))]) (rest := [.long (cl_time σ (xs (i + 1)) (xs (i + 2)))]) E (c_Mo_time l g b0 _ eB hm9 hpk.2 (xs (i + 1)) (xs (i + 2))) wy_Mo_time wl_Lw_45 hP hD hS eB.1 rfl hl.1 ⟨by decide, by decide⟩ ⟨by decide, by decide⟩ rfl (Nat.le_of_ble_eq_true rfl) d_Lw_law_255 (fun r255 w52 H locs hr255 hP hD hS => ?_)
        obtain ⟨hre, hq, fB, eB⟩ := hr255
        have hre := hre.symm
        subst hre
        have eC := eC.kp (fun k hk => hq k (by omega))
        refine W.lcmp hx hb d_Lw_law_258 ?_
        refine lv_if_eq (tgt := 386) hx hb d_Lw_law_259 (by decide) (fun c259 => ?_) (fun c259 => absurd (by rw [iv_time hI (xs (i + 1)) (xs (i + 2)) f15]; exact lg_self _) c259)
        refine lv_iinc (v := nI (i + 4)) (lv' := [(3, .int (nI (i + 4))), (2, .ref hm), (1, .ref h0), (0, .ref b)]) hx hb d_Lw_law_386 hl (k := 0) rfl (nI_add i 4) (by decide) rfl (fun ls hl => ?_)
        refine lv_goto (tgt := 18) hx hb d_Lw_law_389 (by decide) ?_
        exact ih (i + 4) σ n m9 k9 np s1 s2 s3 f0 f1 f2 f3 f4 f5 f6 f7 f8 f9 f10 f11 f12 f13 f14 fB f16 _ _ _ _ (by omega) (by omega) ho hI hl hP hD hS eC eB
      · refine x_top (y := 7) hkey ?_
        refine lv_tableIn (off := 232) (tgt := 264) hx hb d_Lw_law_32 (by decide) (by decide) (by decide) (by decide) ?_
        refine lv_aload_n hx hb d_Lw_law_264 rfl (lv_at hl 2 rfl) ?_
        refine lv_aload_n hx hb d_Lw_law_265 rfl (lv_at hl 3 rfl) ?_
        refine lv_iload_n hx hb d_Lw_law_266 rfl (lv_at hl 0 rfl) ?_
        refine lv_iconst (v := 1) hx hb d_Lw_law_267 (by decide) ?_
        refine lv_iadd hx hb d_Lw_law_268 ?_
        refine x_top (y := nI (i + 1)) (nI_1 i) ?_
        refine va_sld hx hb hX hbl hbA hS (vp_in_nI (by omega : i + 1 < L) (by omega)) d_Lw_law_269 ?_
        refine x_top (y := xs (i + 1)) (by rw [nI_clamp (by omega)]) ?_
        refine x_cRi (As := [.int (xs (i + 1))]) (rest := []) E (c_MT_gap l g b0 _ eC ho (xs (i + 1))) wy_MT_gap wl_Lw_46 hP hD hS e0 rfl hl.1 ⟨by decide, by decide⟩ ⟨by decide, by decide⟩ rfl (Nat.le_of_ble_eq_true rfl) d_Lw_law_270 (fun r270 hr270 => ?_)
        subst hr270
        refine lv_aload_n hx hb d_Lw_law_273 rfl (lv_at hl 1 rfl) ?_
        refine lv_aload_n hx hb d_Lw_law_274 rfl (lv_at hl 3 rfl) ?_
        refine lv_iload_n hx hb d_Lw_law_275 rfl (lv_at hl 0 rfl) ?_
        refine lv_iconst (v := 1) hx hb d_Lw_law_276 (by decide) ?_
        refine lv_iadd hx hb d_Lw_law_277 ?_
        refine x_top (y := nI (i + 1)) (nI_1 i) ?_
        refine va_sld hx hb hX hbl hbA hS (vp_in_nI (by omega : i + 1 < L) (by omega)) d_Lw_law_278 ?_
        refine x_top (y := xs (i + 1)) (by rw [nI_clamp (by omega)]) ?_
        refine x_cRi (As := [.int (xs (i + 1))]) (rest := [.int (cl_gap σ (xs (i + 1)))]) E (c_Mo_gap l g b0 _ eB hm9 (xs (i + 1))) wy_Mo_gap wl_Lw_49 hP hD hS eB.1 rfl hl.1 ⟨by decide, by decide⟩ ⟨by decide, by decide⟩ rfl (Nat.le_of_ble_eq_true rfl) d_Lw_law_279 (fun r279 hr279 => ?_)
        subst hr279
        refine lv_icmp_eq (tgt := 386) hx hb d_Lw_law_282 (by decide) (fun c282 => ?_) (fun c282 => absurd (iv_gap hI _) c282)
        refine lv_iinc (v := nI (i + 4)) (lv' := [(3, .int (nI (i + 4))), (2, .ref hm), (1, .ref h0), (0, .ref b)]) hx hb d_Lw_law_386 hl (k := 0) rfl (nI_add i 4) (by decide) rfl (fun ls hl => ?_)
        refine lv_goto (tgt := 18) hx hb d_Lw_law_389 (by decide) ?_
        exact ih (i + 4) σ n m9 k9 np s1 s2 s3 f0 f1 f2 f3 f4 f5 f6 f7 f8 f9 f10 f11 f12 f13 f14 f15 f16 _ _ _ _ (by omega) (by omega) ho hI hl hP hD hS eC eB
      · refine x_top (y := 8) hkey ?_
        refine lv_tableIn (off := 255) (tgt := 287) hx hb d_Lw_law_32 (by decide) (by decide) (by decide) (by decide) ?_
        refine lv_aload_n hx hb d_Lw_law_287 rfl (lv_at hl 2 rfl) ?_
        refine lv_aload_n hx hb d_Lw_law_288 rfl (lv_at hl 3 rfl) ?_
        refine lv_iload_n hx hb d_Lw_law_289 rfl (lv_at hl 0 rfl) ?_
        refine lv_iconst (v := 1) hx hb d_Lw_law_290 (by decide) ?_
        refine lv_iadd hx hb d_Lw_law_291 ?_
        refine x_top (y := nI (i + 1)) (nI_1 i) ?_
        refine va_sld hx hb hX hbl hbA hS (vp_in_nI (by omega : i + 1 < L) (by omega)) d_Lw_law_292 ?_
        refine x_top (y := xs (i + 1)) (by rw [nI_clamp (by omega)]) ?_
        refine lv_aload_n hx hb d_Lw_law_293 rfl (lv_at hl 3 rfl) ?_
        refine lv_iload_n hx hb d_Lw_law_294 rfl (lv_at hl 0 rfl) ?_
        refine lv_iconst (v := 2) hx hb d_Lw_law_295 (by decide) ?_
        refine lv_iadd hx hb d_Lw_law_296 ?_
        refine x_top (y := nI (i + 2)) (nI_add i 2) ?_
        refine va_sld hx hb hX hbl hbA hS (vp_in_nI (by omega : i + 2 < L) (by omega)) d_Lw_law_297 ?_
        refine x_top (y := xs (i + 2)) (by rw [nI_clamp (by omega)]) ?_
        refine lv_i2l (v := (xs (i + 2)).toInt64) hx hb d_Lw_law_298 rfl ?_
        refine lv_bipush (v := 32) hx hb d_Lw_law_299 (by decide) ?_
        refine lv_lshl (v := ((xs (i + 2)).toInt64) <<< ((32 : Int32).toInt64 &&& 63)) hx hb d_Lw_law_301 rfl ?_
        refine lv_aload_n hx hb d_Lw_law_302 rfl (lv_at hl 3 rfl) ?_
        refine lv_iload_n hx hb d_Lw_law_303 rfl (lv_at hl 0 rfl) ?_
        refine lv_iconst (v := 3) hx hb d_Lw_law_304 (by decide) ?_
        refine lv_iadd hx hb d_Lw_law_305 ?_
        refine x_top (y := nI (i + 3)) (nI_add i 3) ?_
        refine va_sld hx hb hX hbl hbA hS (vp_in_nI (by omega : i + 3 < L) (by omega)) d_Lw_law_306 ?_
        refine x_top (y := xs (i + 3)) (by rw [nI_clamp (by omega)]) ?_
        refine lv_i2l (v := (xs (i + 3)).toInt64) hx hb d_Lw_law_307 rfl ?_
        refine lv_ldc2 (v := 4294967295) hx hb hown (hts _ wk_Lw_50) d_Lw_law_308 ?_
        refine lv_land hx hb d_Lw_law_311 ?_
        refine lv_lor hx hb d_Lw_law_312 ?_
        refine x_cRi (As := [.int (xs (i + 1)), .long ((((xs (i + 2)).toInt64) <<< ((32 : Int32).toInt64 &&& 63)) ||| (((xs (i + 3)).toInt64) &&& 4294967295))]) (rest := []) E (c_MT_suffices l g b0 _ eC ho (xs (i + 1)) ((((xs (i + 2)).toInt64) <<< ((32 : Int32).toInt64 &&& 63)) ||| (((xs (i + 3)).toInt64) &&& 4294967295))) wy_MT_suffices wl_Lw_52 hP hD hS e0 rfl hl.1 ⟨by decide, by decide⟩ ⟨by decide, by decide⟩ rfl (Nat.le_of_ble_eq_true rfl) d_Lw_law_313 (fun r313 hr313 => ?_)
        subst hr313
        refine lv_aload_n hx hb d_Lw_law_316 rfl (lv_at hl 1 rfl) ?_
        refine lv_aload_n hx hb d_Lw_law_317 rfl (lv_at hl 3 rfl) ?_
        refine lv_iload_n hx hb d_Lw_law_318 rfl (lv_at hl 0 rfl) ?_
        refine lv_iconst (v := 1) hx hb d_Lw_law_319 (by decide) ?_
        refine lv_iadd hx hb d_Lw_law_320 ?_
        refine x_top (y := nI (i + 1)) (nI_1 i) ?_
        refine va_sld hx hb hX hbl hbA hS (vp_in_nI (by omega : i + 1 < L) (by omega)) d_Lw_law_321 ?_
        refine x_top (y := xs (i + 1)) (by rw [nI_clamp (by omega)]) ?_
        refine lv_aload_n hx hb d_Lw_law_322 rfl (lv_at hl 3 rfl) ?_
        refine lv_iload_n hx hb d_Lw_law_323 rfl (lv_at hl 0 rfl) ?_
        refine lv_iconst (v := 2) hx hb d_Lw_law_324 (by decide) ?_
        refine lv_iadd hx hb d_Lw_law_325 ?_
        refine x_top (y := nI (i + 2)) (nI_add i 2) ?_
        refine va_sld hx hb hX hbl hbA hS (vp_in_nI (by omega : i + 2 < L) (by omega)) d_Lw_law_326 ?_
        refine x_top (y := xs (i + 2)) (by rw [nI_clamp (by omega)]) ?_
        refine lv_i2l (v := (xs (i + 2)).toInt64) hx hb d_Lw_law_327 rfl ?_
        refine lv_bipush (v := 32) hx hb d_Lw_law_328 (by decide) ?_
        refine lv_lshl (v := ((xs (i + 2)).toInt64) <<< ((32 : Int32).toInt64 &&& 63)) hx hb d_Lw_law_330 rfl ?_
        refine lv_aload_n hx hb d_Lw_law_331 rfl (lv_at hl 3 rfl) ?_
        refine lv_iload_n hx hb d_Lw_law_332 rfl (lv_at hl 0 rfl) ?_
        refine lv_iconst (v := 3) hx hb d_Lw_law_333 (by decide) ?_
        refine lv_iadd hx hb d_Lw_law_334 ?_
        refine x_top (y := nI (i + 3)) (nI_add i 3) ?_
        refine va_sld hx hb hX hbl hbA hS (vp_in_nI (by omega : i + 3 < L) (by omega)) d_Lw_law_335 ?_
        refine x_top (y := xs (i + 3)) (by rw [nI_clamp (by omega)]) ?_
        refine lv_i2l (v := (xs (i + 3)).toInt64) hx hb d_Lw_law_336 rfl ?_
        refine lv_ldc2 (v := 4294967295) hx hb hown (hts _ wk_Lw_50) d_Lw_law_337 ?_
        refine lv_land hx hb d_Lw_law_340 ?_
        refine lv_lor hx hb d_Lw_law_341 ?_
        refine x_cRi (As := [.int (xs (i + 1)), .long ((((xs (i + 2)).toInt64) <<< ((32 : Int32).toInt64 &&& 63)) ||| (((xs (i + 3)).toInt64) &&& 4294967295))]) (rest := [.int (cl_suff σ (xs (i + 1)) ((((xs (i + 2)).toInt64) <<< ((32 : Int32).toInt64 &&& 63)) ||| (((xs (i + 3)).toInt64) &&& 4294967295)))]) E (c_Mo_suffices l g b0 _ eB hm9 (xs (i + 1)) ((((xs (i + 2)).toInt64) <<< ((32 : Int32).toInt64 &&& 63)) ||| (((xs (i + 3)).toInt64) &&& 4294967295))) wy_Mo_suffices wl_Lw_56 hP hD hS eB.1 rfl hl.1 ⟨by decide, by decide⟩ ⟨by decide, by decide⟩ rfl (Nat.le_of_ble_eq_true rfl) d_Lw_law_342 (fun r342 hr342 => ?_)
        subst hr342
        refine lv_icmp_eq (tgt := 386) hx hb d_Lw_law_345 (by decide) (fun c345 => ?_) (fun c345 => absurd (iv_suff hI _ _) c345)
        refine lv_iinc (v := nI (i + 4)) (lv' := [(3, .int (nI (i + 4))), (2, .ref hm), (1, .ref h0), (0, .ref b)]) hx hb d_Lw_law_386 hl (k := 0) rfl (nI_add i 4) (by decide) rfl (fun ls hl => ?_)
        refine lv_goto (tgt := 18) hx hb d_Lw_law_389 (by decide) ?_
        exact ih (i + 4) σ n m9 k9 np s1 s2 s3 f0 f1 f2 f3 f4 f5 f6 f7 f8 f9 f10 f11 f12 f13 f14 f15 f16 _ _ _ _ (by omega) (by omega) ho hI hl hP hD hS eC eB
      · refine x_top (y := 9) hkey ?_
        refine lv_tableIn (off := 318) (tgt := 350) hx hb d_Lw_law_32 (by decide) (by decide) (by decide) (by decide) ?_
        refine lv_aload_n hx hb d_Lw_law_350 rfl (lv_at hl 2 rfl) ?_
        refine x_cVi (As := []) (rest := []) E (c_MT_print l g b0 _ eC ho) wy_MT_print wl_Lw_57 hP hD hS e0 rfl hl.1 ⟨by decide, by decide⟩ ⟨by decide, by decide⟩ rfl (Nat.le_of_ble_eq_true rfl) d_Lw_law_351 (fun r351 w51 H locs hr351 hP hD hS => ?_)
        obtain ⟨hre, hq, eC, ho⟩ := hr351
        have hre := hre.symm
        subst hre
        have eB := eB.kp (fun k h1 h2 => hq k (by omega))
        refine lv_aload_n hx hb d_Lw_law_354 rfl (lv_at hl 1 rfl) ?_
        refine x_cVi (As := []) (rest := [.int ((cl_print σ).1)]) E (c_Mo_print l g b0 _ eB hm9 hpk.1) wy_Mo_print wl_Lw_60 hP hD hS eB.1 rfl hl.1 ⟨by decide, by decide⟩ ⟨by decide, by decide⟩ rfl (Nat.le_of_ble_eq_true rfl) d_Lw_law_355 (fun r355 w52 H locs hr355 hP hD hS => ?_)
        obtain ⟨hre, hq, eB⟩ := hr355
        have hre := hre.symm
        subst hre
        have eC := eC.kp (fun k hk => hq k (by omega))
        refine lv_icmp_eq (tgt := 386) hx hb d_Lw_law_358 (by decide) (fun c358 => ?_) (fun c358 => absurd (iv_print hI).1 c358)
        refine lv_iinc (v := nI (i + 4)) (lv' := [(3, .int (nI (i + 4))), (2, .ref hm), (1, .ref h0), (0, .ref b)]) hx hb d_Lw_law_386 hl (k := 0) rfl (nI_add i 4) (by decide) rfl (fun ls hl => ?_)
        refine lv_goto (tgt := 18) hx hb d_Lw_law_389 (by decide) ?_
        exact ih (i + 4) ((cl_print σ).2) n m9 k9 ((mo_pall f6 f7 f8 f9 f10 m9 (f16, 0)).2) s1 s2 s3 f0 f1 f2 f3 f4 f5 f6 f7 f8 f9 f10 f11 f12 f13 f14 f15 ((mo_pall f6 f7 f8 f9 f10 m9 (f16, 0)).1) _ _ _ _ (by omega) (by omega) ho ((iv_print hI).2) hl hP hD hS eC eB
      · refine x_top (y := 10) hkey ?_
        refine lv_tableIn (off := 331) (tgt := 363) hx hb d_Lw_law_32 (by decide) (by decide) (by decide) (by decide) ?_
        refine lv_aload_n hx hb d_Lw_law_363 rfl (lv_at hl 2 rfl) ?_
        refine lv_aload_n hx hb d_Lw_law_364 rfl (lv_at hl 3 rfl) ?_
        refine lv_iload_n hx hb d_Lw_law_365 rfl (lv_at hl 0 rfl) ?_
        refine lv_iconst (v := 1) hx hb d_Lw_law_366 (by decide) ?_
        refine lv_iadd hx hb d_Lw_law_367 ?_
        refine x_top (y := nI (i + 1)) (nI_1 i) ?_
        refine va_sld hx hb hX hbl hbA hS (vp_in_nI (by omega : i + 1 < L) (by omega)) d_Lw_law_368 ?_
        refine x_top (y := xs (i + 1)) (by rw [nI_clamp (by omega)]) ?_
        refine x_cRi (As := [.int (xs (i + 1))]) (rest := []) E (c_MT_at l g b0 _ eC ho (xs (i + 1))) wy_MT_at wl_Lw_61 hP hD hS e0 rfl hl.1 ⟨by decide, by decide⟩ ⟨by decide, by decide⟩ rfl (Nat.le_of_ble_eq_true rfl) d_Lw_law_369 (fun r369 hr369 => ?_)
        subst hr369
        refine lv_aload_n hx hb d_Lw_law_372 rfl (lv_at hl 1 rfl) ?_
        refine lv_aload_n hx hb d_Lw_law_373 rfl (lv_at hl 3 rfl) ?_
        refine lv_iload_n hx hb d_Lw_law_374 rfl (lv_at hl 0 rfl) ?_
        refine lv_iconst (v := 1) hx hb d_Lw_law_375 (by decide) ?_
        refine lv_iadd hx hb d_Lw_law_376 ?_
        refine x_top (y := nI (i + 1)) (nI_1 i) ?_
        refine va_sld hx hb hX hbl hbA hS (vp_in_nI (by omega : i + 1 < L) (by omega)) d_Lw_law_377 ?_
        refine x_top (y := xs (i + 1)) (by rw [nI_clamp (by omega)]) ?_
        refine x_cRi (As := [.int (xs (i + 1))]) (rest := [.int (cl_at σ (xs (i + 1)))]) E (c_Mo_at l g b0 _ eB hnp (xs (i + 1))) wy_Mo_at wl_Lw_64 hP hD hS eB.1 rfl hl.1 ⟨by decide, by decide⟩ ⟨by decide, by decide⟩ rfl (Nat.le_of_ble_eq_true rfl) d_Lw_law_378 (fun r378 hr378 => ?_)
        subst hr378
        refine lv_icmp_eq (tgt := 386) hx hb d_Lw_law_381 (by decide) (fun c381 => ?_) (fun c381 => absurd (iv_at hI _) c381)
        refine lv_iinc (v := nI (i + 4)) (lv' := [(3, .int (nI (i + 4))), (2, .ref hm), (1, .ref h0), (0, .ref b)]) hx hb d_Lw_law_386 hl (k := 0) rfl (nI_add i 4) (by decide) rfl (fun ls hl => ?_)
        refine lv_goto (tgt := 18) hx hb d_Lw_law_389 (by decide) ?_
        exact ih (i + 4) σ n m9 k9 np s1 s2 s3 f0 f1 f2 f3 f4 f5 f6 f7 f8 f9 f10 f11 f12 f13 f14 f15 f16 _ _ _ _ (by omega) (by omega) ho hI hl hP hD hS eC eB
      · refine x_top (y := 11) hkey ?_
        refine lv_tableOut (tgt := 386) hx hb d_Lw_law_32 (by decide) (by decide) ?_
        refine lv_iinc (v := nI (i + 4)) (lv' := [(3, .int (nI (i + 4))), (2, .ref hm), (1, .ref h0), (0, .ref b)]) hx hb d_Lw_law_386 hl (k := 0) rfl (nI_add i 4) (by decide) rfl (fun ls hl => ?_)
        refine lv_goto (tgt := 18) hx hb d_Lw_law_389 (by decide) ?_
        exact ih (i + 4) σ n m9 k9 np s1 s2 s3 f0 f1 f2 f3 f4 f5 f6 f7 f8 f9 f10 f11 f12 f13 f14 f15 f16 _ _ _ _ (by omega) (by omega) ho hI hl hP hD hS eC eB
      · refine x_top (y := 12) hkey ?_
        refine lv_tableOut (tgt := 386) hx hb d_Lw_law_32 (by decide) (by decide) ?_
        refine lv_iinc (v := nI (i + 4)) (lv' := [(3, .int (nI (i + 4))), (2, .ref hm), (1, .ref h0), (0, .ref b)]) hx hb d_Lw_law_386 hl (k := 0) rfl (nI_add i 4) (by decide) rfl (fun ls hl => ?_)
        refine lv_goto (tgt := 18) hx hb d_Lw_law_389 (by decide) ?_
        exact ih (i + 4) σ n m9 k9 np s1 s2 s3 f0 f1 f2 f3 f4 f5 f6 f7 f8 f9 f10 f11 f12 f13 f14 f15 f16 _ _ _ _ (by omega) (by omega) ho hI hl hP hD hS eC eB
      · refine x_top (y := 13) hkey ?_
        refine lv_tableOut (tgt := 386) hx hb d_Lw_law_32 (by decide) (by decide) ?_
        refine lv_iinc (v := nI (i + 4)) (lv' := [(3, .int (nI (i + 4))), (2, .ref hm), (1, .ref h0), (0, .ref b)]) hx hb d_Lw_law_386 hl (k := 0) rfl (nI_add i 4) (by decide) rfl (fun ls hl => ?_)
        refine lv_goto (tgt := 18) hx hb d_Lw_law_389 (by decide) ?_
        exact ih (i + 4) σ n m9 k9 np s1 s2 s3 f0 f1 f2 f3 f4 f5 f6 f7 f8 f9 f10 f11 f12 f13 f14 f15 f16 _ _ _ _ (by omega) (by omega) ho hI hl hP hD hS eC eB
      · refine x_top (y := 14) hkey ?_
        refine lv_tableOut (tgt := 386) hx hb d_Lw_law_32 (by decide) (by decide) ?_
        refine lv_iinc (v := nI (i + 4)) (lv' := [(3, .int (nI (i + 4))), (2, .ref hm), (1, .ref h0), (0, .ref b)]) hx hb d_Lw_law_386 hl (k := 0) rfl (nI_add i 4) (by decide) rfl (fun ls hl => ?_)
        refine lv_goto (tgt := 18) hx hb d_Lw_law_389 (by decide) ?_
        exact ih (i + 4) σ n m9 k9 np s1 s2 s3 f0 f1 f2 f3 f4 f5 f6 f7 f8 f9 f10 f11 f12 f13 f14 f15 f16 _ _ _ _ (by omega) (by omega) ho hI hl hP hD hS eC eB
      · refine x_top (y := 15) hkey ?_
        refine lv_tableOut (tgt := 386) hx hb d_Lw_law_32 (by decide) (by decide) ?_
        refine lv_iinc (v := nI (i + 4)) (lv' := [(3, .int (nI (i + 4))), (2, .ref hm), (1, .ref h0), (0, .ref b)]) hx hb d_Lw_law_386 hl (k := 0) rfl (nI_add i 4) (by decide) rfl (fun ls hl => ?_)
        refine lv_goto (tgt := 18) hx hb d_Lw_law_389 (by decide) ?_
        exact ih (i + 4) σ n m9 k9 np s1 s2 s3 f0 f1 f2 f3 f4 f5 f6 f7 f8 f9 f10 f11 f12 f13 f14 f15 f16 _ _ _ _ (by omega) (by omega) ho hI hl hP hD hS eC eB
