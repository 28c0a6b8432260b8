def pa_lt (T : Nat → Nat → Int32) (i j : Int32) : Int32 := if i < 0 then -1 else if 24 ≤ i then -1 else if j < 0 then -1 else if j < 24 then T i.toNatClampNeg j.toNatClampNeg else -1
set_option maxRecDepth 100000 in
set_option maxHeartbeats 4000000 in
theorem c_Pa_leastTime (l : Launch) (g : xG) (b0 : Nat) (ws : va_W) {q h o : Nat} {r : Nat → Nat} {T : Nat → Nat → Int32} (hT : xPath g ws q h o r T) (i j : Int32) : xRi l g b0 y_Pa_leastTime b_Pa_leastTime 3 (some .int) 0 [.ref h, .int i, .int j] ws (fun r => r = pa_lt T i j) := by
  unfold xRi
  refine x_in (by decide) (Nat.le_of_ble_eq_true rfl) ?_
  intro p e s m below meth c ls E hr hin hP hD hl
  obtain ⟨hx, hb, hml, hown, hts, hK, hZ, hb0, hlocks⟩ := id E
  have hS : va_S (xA b0) s.heap s.heap [] := va_S.rf
  have hl : lv_has ls 3 [(0, .ref h), (1, .int i), (2, .int j)] := hl
  obtain ⟨e0, e1, e2⟩ := id hT
  refine lv_iload_n hx hb d_Pa_leastTime_0 rfl (lv_at hl 1 rfl) ?_
  refine lv_if_lt (tgt := 20) hx hb d_Pa_leastTime_1 (by decide) (fun c1 => ?_) (fun c1 => ?_)
  · refine lv_iconst (v := (-1)) hx hb d_Pa_leastTime_20 (by decide) ?_
    exact x_pi E hr (by rw [pa_lt, if_pos c1]) d_Pa_leastTime_21
  · refine lv_iload_n hx hb d_Pa_leastTime_4 rfl (lv_at hl 1 rfl) ?_
    refine lv_bipush (v := 24) hx hb d_Pa_leastTime_5 (by decide) ?_
    refine lv_icmp_ge (tgt := 20) hx hb d_Pa_leastTime_7 (by decide) (fun c7 => ?_) (fun c7 => ?_)
    · refine lv_iconst (v := (-1)) hx hb d_Pa_leastTime_20 (by decide) ?_
      exact x_pi E hr (by rw [pa_lt, if_neg c1, if_pos c7]) d_Pa_leastTime_21
    · refine lv_iload_n hx hb d_Pa_leastTime_10 rfl (lv_at hl 2 rfl) ?_
      refine lv_if_lt (tgt := 20) hx hb d_Pa_leastTime_11 (by decide) (fun c11 => ?_) (fun c11 => ?_)
      · refine lv_iconst (v := (-1)) hx hb d_Pa_leastTime_20 (by decide) ?_
        exact x_pi E hr (by rw [pa_lt, if_neg c1, if_neg c7, if_pos c11]) d_Pa_leastTime_21
      · refine lv_iload_n hx hb d_Pa_leastTime_14 rfl (lv_at hl 2 rfl) ?_
        refine lv_bipush (v := 24) hx hb d_Pa_leastTime_15 (by decide) ?_
        refine lv_icmp_lt (tgt := 22) hx hb d_Pa_leastTime_17 (by decide) (fun c17 => ?_) (fun c17 => ?_)
        · obtain ⟨i0, hi0, hi⟩ := x_ix (n := 24) (by decide) c1 c7
          obtain ⟨j0, hj0, hj⟩ := x_ixl (n := 24) (by decide) c11 c17
          refine lv_aload_n hx hb d_Pa_leastTime_22 rfl (lv_at hl 0 rfl) ?_
          refine x_get E hP e0 rfl cl4_in 0 (by decide) wf_Pa_11 rfl d_Pa_leastTime_23 ?_
          refine lv_iload_n hx hb d_Pa_leastTime_26 rfl (lv_at hl 1 rfl) ?_
          refine x_aald E hP e1 (j := i0) hi hi0 (by decide) rfl d_Pa_leastTime_27 ?_
          refine lv_iload_n hx hb d_Pa_leastTime_28 rfl (lv_at hl 2 rfl) ?_
          refine x_iald E hP (e2 i0 hi0) (j := j0) hj hj0 (by decide) d_Pa_leastTime_29 ?_
          exact x_pi E hr (by rw [pa_lt, if_neg c1, if_neg c7, if_neg c11, if_pos c17, hi, hj, nI_clamp (by omega), nI_clamp (by omega)]) d_Pa_leastTime_30
        · refine lv_iconst (v := (-1)) hx hb d_Pa_leastTime_20 (by decide) ?_
          exact x_pi E hr (by rw [pa_lt, if_neg c1, if_neg c7, if_neg c11, if_neg c17]) d_Pa_leastTime_21
def pa_ld (T : Nat → Nat → Int32) (i j : Int32) : Int32 := if pa_lt T i j = -1 then 0 else 1
set_option maxRecDepth 100000 in
set_option maxHeartbeats 4000000 in
theorem c_Pa_leads (l : Launch) (g : xG) (b0 : Nat) (ws : va_W) {q h o : Nat} {r : Nat → Nat} {T : Nat → Nat → Int32} (hT : xPath g ws q h o r T) (i j : Int32) : xRi l g b0 y_Pa_leads b_Pa_leads 3 (some .boolean) 1 [.ref h, .int i, .int j] ws (fun r => r = pa_ld T i j) := by
  unfold xRi
  refine x_in (by decide) (Nat.le_of_ble_eq_true rfl) ?_
  intro p e s m below meth c ls E hr hin hP hD hl
  obtain ⟨hx, hb, hml, hown, hts, hK, hZ, hb0, hlocks⟩ := id E
  have hS : va_S (xA b0) s.heap s.heap [] := va_S.rf
  have hl : lv_has ls 3 [(0, .ref h), (1, .int i), (2, .int j)] := hl
  obtain ⟨e0, e1, e2⟩ := id hT
  refine lv_aload_n hx hb d_Pa_leads_0 rfl (lv_at hl 0 rfl) ?_
  refine lv_iload_n hx hb d_Pa_leads_1 rfl (lv_at hl 1 rfl) ?_
  refine lv_iload_n hx hb d_Pa_leads_2 rfl (lv_at hl 2 rfl) ?_
  refine x_cRi (As := [.int i, .int j]) (rest := []) E (c_Pa_leastTime l g b0 _ hT i j) wy_Pa_leastTime wl_Pa_40 hP hD hS e0 rfl hl.1 ⟨by decide, by decide⟩ ⟨Nat.le_refl _, Nat.le_refl _⟩ rfl (Nat.le_of_ble_eq_true rfl) d_Pa_leads_3 (fun r3 hr3 => ?_)
  subst hr3
  refine lv_iconst (v := (-1)) hx hb d_Pa_leads_6 (by decide) ?_
  refine lv_icmp_eq (tgt := 14) hx hb d_Pa_leads_7 (by decide) (fun c7 => ?_) (fun c7 => ?_)
  · refine lv_iconst (v := 0) hx hb d_Pa_leads_14 (by decide) ?_
    exact x_pz E hr rfl (by rw [pa_ld, if_pos c7]) d_Pa_leads_15
  · refine lv_iconst (v := 1) hx hb d_Pa_leads_10 (by decide) ?_
    refine lv_goto (tgt := 15) hx hb d_Pa_leads_11 (by decide) ?_
    exact x_pz E hr rfl (by rw [pa_ld, if_neg c7]) d_Pa_leads_15
def pa_sh (T : Nat → Nat → Int32) (i : Nat) (j t : Int32) : Nat → Nat → Int32 := if j < 0 then T else if j < 24 then (if T i j.toNatClampNeg = -1 then xg_up T i j.toNatClampNeg t else if T i j.toNatClampNeg ≤ t then T else xg_up T i j.toNatClampNeg t) else T
set_option maxRecDepth 100000 in
set_option maxHeartbeats 4000000 in
theorem c_Pa_shorten (l : Launch) (g : xG) (b0 : Nat) (ws : va_W) {q h o : Nat} {r : Nat → Nat} {T : Nat → Nat → Int32} (hT : xPath g ws q h o r T) (ii j t : Int32) (i : Nat) (hi : ii = nI i) (hi24 : i < 24) : xMv l g b0 y_Pa_shorten b_Pa_shorten 4 0 [.ref h, .int ii, .int j, .int t] ws (fun u => xQ q (q + 26) ws u ∧ xPath g u q h o r (pa_sh T i j t)) := by
  unfold xMv
  refine x_in (by decide) (Nat.le_of_ble_eq_true rfl) ?_
  intro p e s m below meth c ls E hr hin hP hD hl
  obtain ⟨hx, hb, hml, hown, hts, hK, hZ, hb0, hlocks⟩ := id E
  have hS : va_S (xA b0) s.heap s.heap [] := va_S.rf
  have hl : lv_has ls 4 [(0, .ref h), (1, .int ii), (2, .int j), (3, .int t)] := hl
  obtain ⟨e0, e1, e2⟩ := id hT
  have hQ : xQ q (q + 26) ws ws := xQ.rf
  refine lv_iload_n hx hb d_Pa_shorten_0 rfl (lv_at hl 1 rfl) ?_
  refine lv_if_lt (tgt := 20) hx hb d_Pa_shorten_1 (by decide) (fun c1 => absurd c1 (by rw [hi]; exact nI_pos (by omega))) (fun c1 => ?_)
  refine lv_iload_n hx hb d_Pa_shorten_4 rfl (lv_at hl 1 rfl) ?_
  refine lv_bipush (v := 24) hx hb d_Pa_shorten_5 (by decide) ?_
  refine lv_icmp_ge (tgt := 20) hx hb d_Pa_shorten_7 (by decide) (fun c7 => absurd c7 (by rw [hi]; exact nI_ge (b := 24) (by omega) (by decide))) (fun c7 => ?_)
  refine lv_iload_n hx hb d_Pa_shorten_10 rfl (lv_at hl 2 rfl) ?_
  refine lv_if_lt (tgt := 20) hx hb d_Pa_shorten_11 (by decide) (fun c11 => ?_) (fun c11 => ?_)
  · exact x_rv E hr hS ⟨hQ, by rw [pa_sh, if_pos c11]; exact ⟨e0, e1, e2⟩⟩ hP hD d_Pa_shorten_20
  · refine lv_iload_n hx hb d_Pa_shorten_14 rfl (lv_at hl 2 rfl) ?_
    refine lv_bipush (v := 24) hx hb d_Pa_shorten_15 (by decide) ?_
    refine lv_icmp_lt (tgt := 21) hx hb d_Pa_shorten_17 (by decide) (fun c17 => ?_) (fun c17 => ?_)
    · obtain ⟨j0, hj0, hj⟩ := x_ixl (n := 24) (by decide) c11 c17
      refine lv_aload_n hx hb d_Pa_shorten_21 rfl (lv_at hl 0 rfl) ?_
      refine x_get E hP e0 rfl cl4_in 0 (by decide) wf_Pa_11 rfl d_Pa_shorten_22 ?_
      refine lv_iload_n hx hb d_Pa_shorten_25 rfl (lv_at hl 1 rfl) ?_
      refine x_aald E hP e1 (j := i) hi hi24 (by decide) rfl d_Pa_shorten_26 ?_
      refine lv_iload_n hx hb d_Pa_shorten_27 rfl (lv_at hl 2 rfl) ?_
      refine x_iald E hP (e2 i hi24) (j := j0) hj hj0 (by decide) d_Pa_shorten_28 ?_
      refine lv_iconst (v := (-1)) hx hb d_Pa_shorten_29 (by decide) ?_
      refine lv_icmp_eq (tgt := 45) hx hb d_Pa_shorten_30 (by decide) (fun c30 => ?_) (fun c30 => ?_)
      · refine lv_aload_n hx hb d_Pa_shorten_45 rfl (lv_at hl 0 rfl) ?_
        refine x_get E hP e0 rfl cl4_in 0 (by decide) wf_Pa_11 rfl d_Pa_shorten_46 ?_
        refine lv_iload_n hx hb d_Pa_shorten_49 rfl (lv_at hl 1 rfl) ?_
        refine x_aald E hP e1 (j := i) hi hi24 (by decide) rfl d_Pa_shorten_50 ?_
        refine lv_iload_n hx hb d_Pa_shorten_51 rfl (lv_at hl 2 rfl) ?_
        refine lv_iload_n hx hb d_Pa_shorten_52 rfl (lv_at hl 3 rfl) ?_
        refine x_iast E hP hD hS (e2 i hi24) (j := j0) hj hj0 (by decide) d_Pa_shorten_53 (fun w1 H locs hU1 hP hD hS => ?_)
        have e2 : ∀ j, j < 24 → w1[q + 2 + j]? = some (r j, .inl (cI g, 24, .inl (xg_up T i j0 t j))) := xg_put e2 hU1
        have e0 : w1[q]? = some (h, .inr (4, [.ref o])) := (hU1.2 _ (by omega)).trans e0
        have e1 : w1[q + 1]? = some (o, .inl (cG g, 24, .inr (.inr (.inr (.inr (fun j => some (r j))))))) := (hU1.2 _ (by omega)).trans e1
        have hQ := hQ.up hU1 (by omega)
        exact x_rv E hr hS ⟨hQ, by rw [pa_sh, if_neg c11, if_pos c17, hj, nI_clamp (by omega), if_pos c30]; exact ⟨e0, e1, e2⟩⟩ hP hD d_Pa_shorten_54
      · refine lv_iload_n hx hb d_Pa_shorten_33 rfl (lv_at hl 3 rfl) ?_
        refine lv_aload_n hx hb d_Pa_shorten_34 rfl (lv_at hl 0 rfl) ?_
        refine x_get E hP e0 rfl cl4_in 0 (by decide) wf_Pa_11 rfl d_Pa_shorten_35 ?_
        refine lv_iload_n hx hb d_Pa_shorten_38 rfl (lv_at hl 1 rfl) ?_
        refine x_aald E hP e1 (j := i) hi hi24 (by decide) rfl d_Pa_shorten_39 ?_
        refine lv_iload_n hx hb d_Pa_shorten_40 rfl (lv_at hl 2 rfl) ?_
        refine x_iald E hP (e2 i hi24) (j := j0) hj hj0 (by decide) d_Pa_shorten_41 ?_
        refine lv_icmp_ge (tgt := 54) hx hb d_Pa_shorten_42 (by decide) (fun c42 => ?_) (fun c42 => ?_)
        · exact x_rv E hr hS ⟨hQ, by rw [pa_sh, if_neg c11, if_pos c17, hj, nI_clamp (by omega), if_neg c30, if_pos c42]; exact ⟨e0, e1, e2⟩⟩ hP hD d_Pa_shorten_54
        · refine lv_aload_n hx hb d_Pa_shorten_45 rfl (lv_at hl 0 rfl) ?_
          refine x_get E hP e0 rfl cl4_in 0 (by decide) wf_Pa_11 rfl d_Pa_shorten_46 ?_
          refine lv_iload_n hx hb d_Pa_shorten_49 rfl (lv_at hl 1 rfl) ?_
          refine x_aald E hP e1 (j := i) hi hi24 (by decide) rfl d_Pa_shorten_50 ?_
          refine lv_iload_n hx hb d_Pa_shorten_51 rfl (lv_at hl 2 rfl) ?_
          refine lv_iload_n hx hb d_Pa_shorten_52 rfl (lv_at hl 3 rfl) ?_
          refine x_iast E hP hD hS (e2 i hi24) (j := j0) hj hj0 (by decide) d_Pa_shorten_53 (fun w1 H locs hU1 hP hD hS => ?_)
          have e2 : ∀ j, j < 24 → w1[q + 2 + j]? = some (r j, .inl (cI g, 24, .inl (xg_up T i j0 t j))) := xg_put e2 hU1
          have e0 : w1[q]? = some (h, .inr (4, [.ref o])) := (hU1.2 _ (by omega)).trans e0
          have e1 : w1[q + 1]? = some (o, .inl (cG g, 24, .inr (.inr (.inr (.inr (fun j => some (r j))))))) := (hU1.2 _ (by omega)).trans e1
          have hQ := hQ.up hU1 (by omega)
          exact x_rv E hr hS ⟨hQ, by rw [pa_sh, if_neg c11, if_pos c17, hj, nI_clamp (by omega), if_neg c30, if_neg c42]; exact ⟨e0, e1, e2⟩⟩ hP hD d_Pa_shorten_54
    · exact x_rv E hr hS ⟨hQ, by rw [pa_sh, if_neg c11, if_neg c17]; exact ⟨e0, e1, e2⟩⟩ hP hD d_Pa_shorten_20
def pa_jn (T : Nat → Nat → Int32) (mid fr n : Nat) : Nat → Nat → Int32 := if T fr mid = -1 then T else it (fun k V => if V mid k = -1 then V else pa_sh V fr (nI k) (T fr mid + V mid k)) n T
theorem pa_lt_nat {T : Nat → Nat → Int32} {i j : Nat} (hi : i < 24) (hj : j < 24) : pa_lt T (nI i) (nI j) = T i j := by
  rw [pa_lt, if_neg (nI_pos (by omega)), if_neg (show ¬ (24 : Int32) ≤ nI i from nI_ge (b := 24) (by omega) (by decide)), if_neg (nI_pos (by omega)), if_pos (show nI j < (24 : Int32) from nI_lt (b := 24) (by omega) (by decide)), nI_clamp (by omega), nI_clamp (by omega)]
set_option maxRecDepth 100000 in
set_option maxHeartbeats 4000000 in
theorem c_Pa_joinAt (l : Launch) (g : xG) (b0 : Nat) (ws : va_W) {q h o : Nat} {r : Nat → Nat} {T : Nat → Nat → Int32} (hT : xPath g ws q h o r T) (mid fr n : Nat) (hm : mid < 24) (hf : fr < 24) (hn : n ≤ 24) : xMv l g b0 y_Pa_joinAt b_Pa_joinAt 7 1 [.ref h, .int (nI mid), .int (nI fr), .int (nI n)] ws (fun u => xQ q (q + 26) ws u ∧ xPath g u q h o r (pa_jn T mid fr n)) := by
  unfold xMv
  refine x_in (by decide) (Nat.le_of_ble_eq_true rfl) ?_
  intro p e s m below meth c ls E hr hin hP hD hl
  obtain ⟨hx, hb, hml, hown, hts, hK, hZ, hb0, hlocks⟩ := id E
  have hS : va_S (xA b0) s.heap s.heap [] := va_S.rf
  have hl : lv_has ls 7 [(0, .ref h), (1, .int (nI mid)), (2, .int (nI fr)), (3, .int (nI n))] := hl
  obtain ⟨e0, e1, e2⟩ := id hT
  have hQ : xQ q (q + 26) ws ws := xQ.rf
  refine lv_aload_n hx hb d_Pa_joinAt_0 rfl (lv_at hl 0 rfl) ?_
  refine lv_iload_n hx hb d_Pa_joinAt_1 rfl (lv_at hl 2 rfl) ?_
  refine lv_iload_n hx hb d_Pa_joinAt_2 rfl (lv_at hl 1 rfl) ?_
  refine x_cRi (As := [.int (nI fr), .int (nI mid)]) (rest := []) E (c_Pa_leastTime l g b0 _ hT (nI fr) (nI mid)) wy_Pa_leastTime wl_Pa_40 hP hD hS e0 rfl hl.1 ⟨by decide, by decide⟩ ⟨Nat.le_refl _, Nat.le_refl _⟩ rfl (Nat.le_of_ble_eq_true rfl) d_Pa_joinAt_3 (fun r3 hr3 => ?_)
  rw [pa_lt_nat hf hm] at hr3
  subst hr3
  refine lv_istore (lv' := [(4, .int (T fr mid)), (0, .ref h), (1, .int (nI mid)), (2, .int (nI fr)), (3, .int (nI n))]) hx hb d_Pa_joinAt_6 hl (by decide) rfl (fun ls hl => ?_)
  refine lv_iload hx hb d_Pa_joinAt_8 (lv_at hl 0 rfl) ?_
  refine lv_iconst (v := (-1)) hx hb d_Pa_joinAt_10 (by decide) ?_
  refine lv_icmp_ne (tgt := 15) hx hb d_Pa_joinAt_11 (by decide) (fun c11 => ?_) (fun c11 => ?_)
  · refine lv_iconst (v := 0) hx hb d_Pa_joinAt_15 (by decide) ?_
    refine lv_istore (lv' := [(5, .int 0), (4, .int (T fr mid)), (0, .ref h), (1, .int (nI mid)), (2, .int (nI fr)), (3, .int (nI n))]) hx hb d_Pa_joinAt_16 hl (by decide) rfl (fun ls hl => ?_)
    have loop : ∀ (k i : Nat)  (w : va_W) (H : Heap) (locs : List Loc) (ls : Array Slot), (n < i + k) → (i ≤ n) → (lv_has ls 7 [(5, .int (nI i)), (4, .int (T fr mid)), (0, .ref h), (1, .int (nI mid)), (2, .int (nI fr)), (3, .int (nI n))]) → (va_P (xD g) vwCl w H) → (va_D (xA b0) w) → (va_S (xA b0) s.heap H locs) → (xQ q (q + 26) ws w) → (xPath g w q h o r (it (fun k V => if V mid k = -1 then V else pa_sh V fr (nI k) (T fr mid + V mid k)) i T)) → W p l e (rmL 1) s m ([.ref h, .int (nI mid), .int (nI fr), .int (nI n)] : List Value).toArray below meth c H locs 0 0 (MQ below (va_Qv (fun u => xQ q (q + 26) ws u ∧ xPath g u q h o r (pa_jn T mid fr n)) (fun u t => va_P (xD g) vwCl u t.heap ∧ va_D (xA b0) u) (xA b0)) ([.ref h, .int (nI mid), .int (nI fr), .int (nI n)] : List Value).toArray s 0 0 (xA b0)) (F0 m 18 ls []) := by
      intro k
      induction k with
      | zero =>
        intro i w H locs ls hk hi hl hP hD hS hQ eT
        omega
      | succ k ih =>
        intro i w H locs ls hk hi hl hP hD hS hQ eT
        have eV : it (fun k V => if V mid k = -1 then V else pa_sh V fr (nI k) (T fr mid + V mid k)) (i + 1) T = if it (fun k V => if V mid k = -1 then V else pa_sh V fr (nI k) (T fr mid + V mid k)) i T mid i = -1 then it (fun k V => if V mid k = -1 then V else pa_sh V fr (nI k) (T fr mid + V mid k)) i T else pa_sh (it (fun k V => if V mid k = -1 then V else pa_sh V fr (nI k) (T fr mid + V mid k)) i T) fr (nI i) (T fr mid + it (fun k V => if V mid k = -1 then V else pa_sh V fr (nI k) (T fr mid + V mid k)) i T mid i) := rfl
        generalize eV0 : it (fun k V => if V mid k = -1 then V else pa_sh V fr (nI k) (T fr mid + V mid k)) i T = V at eT eV
        refine lv_iload hx hb d_Pa_joinAt_18 (lv_at hl 0 rfl) ?_
        refine lv_iload_n hx hb d_Pa_joinAt_20 rfl (lv_at hl 5 rfl) ?_
        refine lv_icmp_ge (tgt := 57) hx hb d_Pa_joinAt_21 (by decide) (fun c21 => ?_) (fun c21 => ?_)
        · have hi9 : n ≤ i := (nI_leI (by omega) (by omega)).mp c21
          have e9 : i = n := by omega
          exact x_rv E hr hS ⟨hQ, by rw [pa_jn, if_neg c11, ← e9, eV0]; exact eT⟩ hP hD d_Pa_joinAt_57
        · have hi9 : i < n := Nat.not_le.mp fun h => c21 (nI_le h (by omega))
          refine lv_aload_n hx hb d_Pa_joinAt_24 rfl (lv_at hl 2 rfl) ?_
          refine lv_iload_n hx hb d_Pa_joinAt_25 rfl (lv_at hl 3 rfl) ?_
          refine lv_iload hx hb d_Pa_joinAt_26 (lv_at hl 0 rfl) ?_
          refine x_cRi (As := [.int (nI mid), .int (nI i)]) (rest := []) E (c_Pa_leastTime l g b0 _ eT (nI mid) (nI i)) wy_Pa_leastTime wl_Pa_40 hP hD hS eT.1 rfl hl.1 ⟨by decide, by decide⟩ ⟨Nat.le_refl _, Nat.le_refl _⟩ rfl (Nat.le_of_ble_eq_true rfl) d_Pa_joinAt_28 (fun r28 hr28 => ?_)
          rw [pa_lt_nat hm (by omega)] at hr28
          subst hr28
          refine lv_istore (lv' := [(6, .int (V mid i)), (5, .int (nI i)), (4, .int (T fr mid)), (0, .ref h), (1, .int (nI mid)), (2, .int (nI fr)), (3, .int (nI n))]) hx hb d_Pa_joinAt_31 hl (by decide) rfl (fun ls hl => ?_)
          refine lv_iload hx hb d_Pa_joinAt_33 (lv_at hl 0 rfl) ?_
          refine lv_iconst (v := (-1)) hx hb d_Pa_joinAt_35 (by decide) ?_
          refine lv_icmp_eq (tgt := 51) hx hb d_Pa_joinAt_36 (by decide) (fun c36 => ?_) (fun c36 => ?_)
          · rw [if_pos c36] at eV
            refine lv_iinc (v := nI (i + 1)) (lv' := [(5, .int (nI (i + 1))), (6, .int (V mid i)), (4, .int (T fr mid)), (0, .ref h), (1, .int (nI mid)), (2, .int (nI fr)), (3, .int (nI n))]) hx hb d_Pa_joinAt_51 hl (k := 1) rfl (nI_1 i) (by decide) rfl (fun ls hl => ?_)
            refine lv_goto (tgt := 18) hx hb d_Pa_joinAt_54 (by decide) ?_
            rw [← eV] at eT
            exact ih (i + 1) _ _ _ _ (by omega) (by omega) (lv_sub hl [0, 2, 3, 4, 5, 6] rfl) hP hD hS hQ eT
          · rw [if_neg c36] at eV
            refine lv_aload_n hx hb d_Pa_joinAt_39 rfl (lv_at hl 3 rfl) ?_
            refine lv_iload_n hx hb d_Pa_joinAt_40 rfl (lv_at hl 5 rfl) ?_
            refine lv_iload hx hb d_Pa_joinAt_41 (lv_at hl 1 rfl) ?_
            refine lv_iload hx hb d_Pa_joinAt_43 (lv_at hl 2 rfl) ?_
            refine lv_iload hx hb d_Pa_joinAt_45 (lv_at hl 0 rfl) ?_
            refine lv_iadd hx hb d_Pa_joinAt_47 ?_
            refine x_cVv (As := [.int (nI fr), .int (nI i), .int ((T fr mid) + (V mid i))]) (rest := []) E (c_Pa_shorten l g b0 _ eT (nI fr) (nI i) (T fr mid + V mid i) fr rfl hf) wy_Pa_shorten wl_Pa_33 hP hD hS eT.1 rfl hl.1 ⟨by decide, by decide⟩ ⟨Nat.le_refl _, Nat.le_refl _⟩ rfl (Nat.le_of_ble_eq_true rfl) d_Pa_joinAt_48 (fun w53 H locs hr48 hP hD hS => ?_)
            obtain ⟨hq, eT⟩ := hr48
            have hQ := hQ.tr hq
            refine lv_iinc (v := nI (i + 1)) (lv' := [(5, .int (nI (i + 1))), (6, .int (V mid i)), (4, .int (T fr mid)), (0, .ref h), (1, .int (nI mid)), (2, .int (nI fr)), (3, .int (nI n))]) hx hb d_Pa_joinAt_51 hl (k := 1) rfl (nI_1 i) (by decide) rfl (fun ls hl => ?_)
            refine lv_goto (tgt := 18) hx hb d_Pa_joinAt_54 (by decide) ?_
            rw [← eV] at eT
            exact ih (i + 1) _ _ _ _ (by omega) (by omega) (lv_sub hl [0, 2, 3, 4, 5, 6] rfl) hP hD hS hQ eT
    have eT : xPath g _ q h o r (it (fun k V => if V mid k = -1 then V else pa_sh V fr (nI k) (T fr mid + V mid k)) 0 T) := hT
    exact loop (n + 1) 0 _ _ _ _ (by omega) (by omega) hl hP hD hS hQ eT
  · exact x_rv E hr hS ⟨hQ, by rw [pa_jn, if_pos c11]; exact hT⟩ hP hD d_Pa_joinAt_14
set_option maxRecDepth 100000 in
set_option maxHeartbeats 4000000 in
theorem c_Pa_forget (l : Launch) (g : xG) (b0 : Nat) (ws : va_W) {q h o : Nat} {r : Nat → Nat} {T : Nat → Nat → Int32} (hT : xPath g ws q h o r T) : xMv l g b0 y_Pa_forget b_Pa_forget 3 0 [.ref h] ws (fun u => xQ q (q + 26) ws u ∧ ∃ T', xPath g u q h o r T' ∧ ∀ i j, i < 24 → j < 24 → T' i j = -1) := by
  unfold xMv
  refine x_in (by decide) (Nat.le_of_ble_eq_true rfl) ?_
  intro p e s m below meth c ls E hr hin hP hD hl
  obtain ⟨hx, hb, hml, hown, hts, hK, hZ, hb0, hlocks⟩ := id E
  have hS : va_S (xA b0) s.heap s.heap [] := va_S.rf
  have hl : lv_has ls 3 [(0, .ref h)] := hl
  obtain ⟨e0, e1, e2⟩ := id hT
  have hQ : xQ q (q + 26) ws ws := xQ.rf
  refine lv_iconst (v := 0) hx hb d_Pa_forget_0 (by decide) ?_
  refine lv_istore_n (lv' := [(1, .int 0), (0, .ref h)]) hx hb d_Pa_forget_1 rfl hl (by decide) rfl (fun ls hl => ?_)
  have loop : ∀ (k i : Nat) (T : Nat → Nat → Int32) (w : va_W) (H : Heap) (locs : List Loc) (ls : Array Slot), (24 < i + k) → (i ≤ 24) → (∀ a b, a < i → b < 24 → T a b = -1) → (lv_has ls 3 [(1, .int (nI i)), (0, .ref h)]) → (va_P (xD g) vwCl w H) → (va_D (xA b0) w) → (va_S (xA b0) s.heap H locs) → (xQ q (q + 26) ws w) → (w[q]? = some (h, .inr (4, [.ref o]))) → (w[q + 1]? = some (o, .inl (cG g, 24, .inr (.inr (.inr (.inr (fun j => some (r j)))))))) → (∀ j, j < 24 → w[q + 2 + j]? = some (r j, .inl (cI g, 24, .inl (T j)))) → W p l e (rmL 0) s m ([.ref h] : List Value).toArray below meth c H locs 0 0 (MQ below (va_Qv (fun u => xQ q (q + 26) ws u ∧ ∃ T', xPath g u q h o r T' ∧ ∀ i j, i < 24 → j < 24 → T' i j = -1) (fun u t => va_P (xD g) vwCl u t.heap ∧ va_D (xA b0) u) (xA b0)) ([.ref h] : List Value).toArray s 0 0 (xA b0)) (F0 m 2 ls []) := by
    intro k
    induction k with
    | zero =>
      intro i T w H locs ls hk hi hT9 hl hP hD hS hQ e0 e1 e2
      omega
    | succ k ih =>
      intro i T w H locs ls hk hi hT9 hl hP hD hS hQ e0 e1 e2
      refine lv_iload_n hx hb d_Pa_forget_2 rfl (lv_at hl 0 rfl) ?_
      refine lv_bipush (v := 24) hx hb d_Pa_forget_3 (by decide) ?_
      refine lv_icmp_ge (tgt := 37) hx hb d_Pa_forget_5 (by decide) (fun c5 => ?_) (fun c5 => ?_)
      · have hi9 : 24 ≤ i := (nI_leI (b := i) (by decide) (by omega)).mp c5
        exact x_rv E hr hS ⟨hQ, T, ⟨e0, e1, e2⟩, fun a b ha hb9 => hT9 a b (by omega) hb9⟩ hP hD d_Pa_forget_37
      · have hi9 : i < 24 := Nat.not_le.mp fun h => c5 (nI_le (a := 24) h (by omega))
        refine lv_iconst (v := 0) hx hb d_Pa_forget_8 (by decide) ?_
        refine lv_istore_n (lv' := [(2, .int 0), (1, .int (nI i)), (0, .ref h)]) hx hb d_Pa_forget_9 rfl hl (by decide) rfl (fun ls hl => ?_)
        have loop2 : ∀ (k jj : Nat) (T : Nat → Nat → Int32) (v : va_W) (H : Heap) (locs : List Loc) (ls : Array Slot), (24 < jj + k) → (jj ≤ 24) → (∀ a b, a < i → b < 24 → T a b = -1) → (∀ b, b < jj → T i b = -1) → (lv_has ls 3 [(2, .int (nI jj)), (1, .int (nI i)), (0, .ref h)]) → (va_P (xD g) vwCl v H) → (va_D (xA b0) v) → (va_S (xA b0) s.heap H locs) → (xQ q (q + 26) ws v) → (v[q]? = some (h, .inr (4, [.ref o]))) → (v[q + 1]? = some (o, .inl (cG g, 24, .inr (.inr (.inr (.inr (fun j => some (r j)))))))) → (∀ j, j < 24 → v[q + 2 + j]? = some (r j, .inl (cI g, 24, .inl (T j)))) → W p l e (rmL 0) s m ([.ref h] : List Value).toArray below meth c H locs 0 0 (MQ below (va_Qv (fun u => xQ q (q + 26) ws u ∧ ∃ T', xPath g u q h o r T' ∧ ∀ i j, i < 24 → j < 24 → T' i j = -1) (fun u t => va_P (xD g) vwCl u t.heap ∧ va_D (xA b0) u) (xA b0)) ([.ref h] : List Value).toArray s 0 0 (xA b0)) (F0 m 10 ls []) := by
          intro k
          induction k with
          | zero =>
            intro jj T v H locs ls hk hj hT8 hT7 hl hP hD hS hQ e0 e1 e2
            omega
          | succ k ih2 =>
            intro jj T v H locs ls hk hj hT8 hT7 hl hP hD hS hQ e0 e1 e2
            refine lv_iload_n hx hb d_Pa_forget_10 rfl (lv_at hl 0 rfl) ?_
            refine lv_bipush (v := 24) hx hb d_Pa_forget_11 (by decide) ?_
            refine lv_icmp_ge (tgt := 31) hx hb d_Pa_forget_13 (by decide) (fun c13 => ?_) (fun c13 => ?_)
            · have hj9 : 24 ≤ jj := (nI_leI (b := jj) (by decide) (by omega)).mp c13
              refine lv_iinc (v := nI (i + 1)) (lv' := [(1, .int (nI (i + 1))), (2, .int (nI jj)), (0, .ref h)]) hx hb d_Pa_forget_31 hl (k := 1) rfl (nI_1 i) (by decide) rfl (fun ls hl => ?_)
              refine lv_goto (tgt := 2) hx hb d_Pa_forget_34 (by decide) ?_
              exact ih (i + 1) T _ _ _ _ (by omega) (by omega) (fun a b ha hb9 => by
                  by_cases e9 : a = i
                  · rw [e9]; exact hT7 b (by omega)
                  · exact hT8 a b (by omega) hb9) (lv_sub hl [0, 2] rfl) hP hD hS hQ e0 e1 e2
            · have hj9 : jj < 24 := Nat.not_le.mp fun h => c13 (nI_le (a := 24) h (by omega))
              refine lv_aload_n hx hb d_Pa_forget_16 rfl (lv_at hl 2 rfl) ?_
              refine x_get E hP e0 rfl cl4_in 0 (by decide) wf_Pa_11 rfl d_Pa_forget_17 ?_
              refine lv_iload_n hx hb d_Pa_forget_20 rfl (lv_at hl 1 rfl) ?_
              refine x_aald E hP e1 (j := i) rfl hi9 (by decide) rfl d_Pa_forget_21 ?_
              refine lv_iload_n hx hb d_Pa_forget_22 rfl (lv_at hl 0 rfl) ?_
              refine lv_iconst (v := (-1)) hx hb d_Pa_forget_23 (by decide) ?_
              refine x_iast E hP hD hS (e2 i hi9) (j := jj) rfl hj9 (by decide) d_Pa_forget_24 (fun w101 H locs hU101 hP hD hS => ?_)
              have e2 : ∀ j, j < 24 → w101[q + 2 + j]? = some (r j, .inl (cI g, 24, .inl (xg_up T i jj (-1) j))) := xg_put e2 hU101
              have e0 : w101[q]? = some (h, .inr (4, [.ref o])) := (hU101.2 _ (by omega)).trans e0
              have e1 : w101[q + 1]? = some (o, .inl (cG g, 24, .inr (.inr (.inr (.inr (fun j => some (r j))))))) := (hU101.2 _ (by omega)).trans e1
              have hQ := hQ.up hU101 (by omega)
              refine lv_iinc (v := nI (jj + 1)) (lv' := [(2, .int (nI (jj + 1))), (1, .int (nI i)), (0, .ref h)]) hx hb d_Pa_forget_25 hl (k := 0) rfl (nI_1 jj) (by decide) rfl (fun ls hl => ?_)
              refine lv_goto (tgt := 10) hx hb d_Pa_forget_28 (by decide) ?_
              exact ih2 (jj + 1) (xg_up T i jj (-1)) _ _ _ _ (by omega) (by omega) (fun a b ha hb9 => by rw [xg_up_get, if_neg (by omega)]; exact hT8 a b ha hb9) (fun b hb9 => by
                  rw [xg_up_get]
                  by_cases e9 : b = jj
                  · rw [if_pos ⟨rfl, e9⟩]
                  · rw [if_neg (by omega)]; exact hT7 b (by omega)) hl hP hD hS hQ e0 e1 e2
        exact loop2 25 0 T _ _ _ _ (by omega) (by omega) hT9 (fun b hb9 => absurd hb9 (Nat.not_lt_zero b)) hl hP hD hS hQ e0 e1 e2
  exact loop 25 0 T _ _ _ _ (by omega) (by omega) (fun a b ha => absurd ha (Nat.not_lt_zero a)) hl hP hD hS hQ e0 e1 e2
set_option maxRecDepth 100000 in
set_option maxHeartbeats 4000000 in
theorem c_Pa_isReached (l : Launch) (g : xG) (b0 : Nat) (ws : va_W) {q h o : Nat} {r : Nat → Nat} {T : Nat → Nat → Int32} (hT : xPath g ws q h o r T) {qm hm om dm n : Nat} {rm : Nat → Nat} {M : Nat → Nat → Int32} {ix : Nat → Int32} (eM : xMach g ws qm hm om dm rm M ix n) (hn : n ≤ 24) (t : Int32) : xRi l g b0 y_Pa_isReached b_Pa_isReached 4 (some .boolean) 2 [.ref h, .ref hm, .int t] ws (fun r => (r = 1 ∧ ∃ k, k < n ∧ ¬ pa_lt T (nI k) t = -1) ∨ (r = 0 ∧ ∀ k, k < n → pa_lt T (nI k) t = -1)) := by
  unfold xRi
  refine x_in (by decide) (Nat.le_of_ble_eq_true rfl) ?_
  intro p e s m below meth c ls E hr hin hP hD hl
  obtain ⟨hx, hb, hml, hown, hts, hK, hZ, hb0, hlocks⟩ := id E
  have hS : va_S (xA b0) s.heap s.heap [] := va_S.rf
  have hl : lv_has ls 4 [(0, .ref h), (1, .ref hm), (2, .int t)] := hl
  obtain ⟨e0, e1, e2⟩ := id hT
  refine lv_iconst (v := 0) hx hb d_Pa_isReached_0 (by decide) ?_
  refine lv_istore_n (lv' := [(3, .int 0), (0, .ref h), (1, .ref hm), (2, .int t)]) hx hb d_Pa_isReached_1 rfl hl (by decide) rfl (fun ls hl => ?_)
  have loop : ∀ (k i : Nat)  (ls : Array Slot), (n < i + k) → (i ≤ n) → (∀ k, k < i → pa_lt T (nI k) t = -1) → (lv_has ls 4 [(3, .int (nI i)), (0, .ref h), (1, .ref hm), (2, .int t)]) → W p l e (rmL 2) s m ([.ref h, .ref hm, .int t] : List Value).toArray below meth c s.heap [] 0 0 (MQ below (vp_Si (fun r => (r = 1 ∧ ∃ k, k < n ∧ ¬ pa_lt T (nI k) t = -1) ∨ (r = 0 ∧ ∀ k, k < n → pa_lt T (nI k) t = -1))) ([.ref h, .ref hm, .int t] : List Value).toArray s 0 0 (fun _ => False)) (F0 m 2 ls []) := by
    intro k
    induction k with
    | zero =>
      intro i ls hk hi h8 hl
      omega
    | succ k ih =>
      intro i ls hk hi h8 hl
      refine lv_iload_n hx hb d_Pa_isReached_2 rfl (lv_at hl 0 rfl) ?_
      refine lv_aload_n hx hb d_Pa_isReached_3 rfl (lv_at hl 2 rfl) ?_
      refine x_get E hP eM.1 rfl cl2_in 2 (by decide) wf_Pa_19 rfl d_Pa_isReached_4 ?_
      refine lv_icmp_ge (tgt := 27) hx hb d_Pa_isReached_7 (by decide) (fun c7 => ?_) (fun c7 => ?_)
      · have hi9 : n ≤ i := (nI_leI (by omega) (by omega)).mp c7
        refine lv_iconst (v := 0) hx hb d_Pa_isReached_27 (by decide) ?_
        exact x_pz E hr rfl (Or.inr ⟨rfl, fun k9 hk9 => h8 k9 (by omega)⟩) d_Pa_isReached_28
      · have hi9 : i < n := Nat.not_le.mp fun h => c7 (nI_le h (by omega))
        refine lv_aload_n hx hb d_Pa_isReached_10 rfl (lv_at hl 1 rfl) ?_
        refine lv_iload_n hx hb d_Pa_isReached_11 rfl (lv_at hl 0 rfl) ?_
        refine lv_iload_n hx hb d_Pa_isReached_12 rfl (lv_at hl 3 rfl) ?_
        refine x_cRi (As := [.int (nI i), .int t]) (rest := []) E (c_Pa_leads l g b0 _ hT (nI i) t) wy_Pa_leads wl_Pa_43 hP hD hS e0 rfl hl.1 ⟨by decide, by decide⟩ ⟨Nat.le_refl _, Nat.le_refl _⟩ rfl (Nat.le_of_ble_eq_true rfl) d_Pa_isReached_13 (fun r13 hr13 => ?_)
        subst hr13
        refine lv_if_eq (tgt := 21) hx hb d_Pa_isReached_16 (by decide) (fun c16 => ?_) (fun c16 => ?_)
        · have h7 : pa_lt T (nI i) t = -1 := by
            by_cases h6 : pa_lt T (nI i) t = -1
            · exact h6
            · rw [pa_ld, if_neg h6] at c16; exact absurd c16 (by decide)
          refine lv_iinc (v := nI (i + 1)) (lv' := [(3, .int (nI (i + 1))), (0, .ref h), (1, .ref hm), (2, .int t)]) hx hb d_Pa_isReached_21 hl (k := 0) rfl (nI_1 i) (by decide) rfl (fun ls hl => ?_)
          refine lv_goto (tgt := 2) hx hb d_Pa_isReached_24 (by decide) ?_
          exact ih (i + 1) _ (by omega) (by omega) (fun k9 hk9 => by
              by_cases e9 : k9 = i
              · rw [e9]; exact h7
              · exact h8 k9 (by omega)) hl
        · have h7 : ¬ pa_lt T (nI i) t = -1 := fun h6 => c16 (by rw [pa_ld, if_pos h6])
          refine lv_iconst (v := 1) hx hb d_Pa_isReached_19 (by decide) ?_
          exact x_pz E hr rfl (Or.inl ⟨rfl, i, hi9, h7⟩) d_Pa_isReached_20
  exact loop (n + 1) 0 _ (by omega) (by omega) (fun k9 hk9 => absurd hk9 (Nat.not_lt_zero k9)) hl
def pa_gs (M : Nat → Nat → Int32) (n : Nat) (T : Nat → Nat → Int32) (t : Int32) (k : Nat) (v : Int32) : Int32 := if mc_val M n (nI k) 0 = 0 then (if pa_ld T (nI k) t = 0 then v else if v = -1 then mc_val M n (nI k) 2 else if v ≤ mc_val M n (nI k) 2 then v else mc_val M n (nI k) 2) else v
def pa_gp (M : Nat → Nat → Int32) (n : Nat) (T : Nat → Nat → Int32) (t : Int32) : Int32 := it (pa_gs M n T t) n (-1)
set_option maxRecDepth 100000 in
set_option maxHeartbeats 4000000 in
theorem c_Pa_leastGap (l : Launch) (g : xG) (b0 : Nat) (ws : va_W) {q h o : Nat} {r : Nat → Nat} {T : Nat → Nat → Int32} (hT : xPath g ws q h o r T) {qm hm om dm n : Nat} {rm : Nat → Nat} {M : Nat → Nat → Int32} {ix : Nat → Int32} (eM : xMach g ws qm hm om dm rm M ix n) (hn : n ≤ 24) (t : Int32) : xRi l g b0 y_Pa_leastGap b_Pa_leastGap 6 (some .int) 2 [.ref h, .ref hm, .int t] ws (fun r => r = pa_gp M n T t) := by
  unfold xRi
  refine x_in (by decide) (Nat.le_of_ble_eq_true rfl) ?_
  intro p e s m below meth c ls E hr hin hP hD hl
  obtain ⟨hx, hb, hml, hown, hts, hK, hZ, hb0, hlocks⟩ := id E
  have hS : va_S (xA b0) s.heap s.heap [] := va_S.rf
  have hl : lv_has ls 6 [(0, .ref h), (1, .ref hm), (2, .int t)] := hl
  obtain ⟨e0, e1, e2⟩ := id hT
  refine lv_iconst (v := (-1)) hx hb d_Pa_leastGap_0 (by decide) ?_
  refine lv_istore_n (lv' := [(3, .int (-1)), (0, .ref h), (1, .ref hm), (2, .int t)]) hx hb d_Pa_leastGap_1 rfl hl (by decide) rfl (fun ls hl => ?_)
  refine lv_iconst (v := 0) hx hb d_Pa_leastGap_2 (by decide) ?_
  refine lv_istore (lv' := [(4, .int 0), (3, .int (-1)), (0, .ref h), (1, .ref hm), (2, .int t)]) hx hb d_Pa_leastGap_3 hl (by decide) rfl (fun ls hl => ?_)
  have loop : ∀ (k i : Nat) (v : Int32) (ls : Array Slot), (n < i + k) → (i ≤ n) → (v = it (pa_gs M n T t) i (-1)) → (lv_has ls 6 [(4, .int (nI i)), (3, .int v), (0, .ref h), (1, .ref hm), (2, .int t)]) → W p l e (rmL 2) s m ([.ref h, .ref hm, .int t] : List Value).toArray below meth c s.heap [] 0 0 (MQ below (vp_Si (fun r => r = pa_gp M n T t)) ([.ref h, .ref hm, .int t] : List Value).toArray s 0 0 (fun _ => False)) (F0 m 5 ls []) := by
    intro k
    induction k with
    | zero =>
      intro i v ls hk hi hv hl
      omega
    | succ k ih =>
      intro i v ls hk hi hv hl
      refine lv_iload hx hb d_Pa_leastGap_5 (lv_at hl 0 rfl) ?_
      refine lv_aload_n hx hb d_Pa_leastGap_7 rfl (lv_at hl 3 rfl) ?_
      refine x_get E hP eM.1 rfl cl2_in 2 (by decide) wf_Pa_19 rfl d_Pa_leastGap_8 ?_
      refine lv_icmp_ge (tgt := 67) hx hb d_Pa_leastGap_11 (by decide) (fun c11 => ?_) (fun c11 => ?_)
      · have hi9 : n ≤ i := (nI_leI (by omega) (by omega)).mp c11
        refine lv_iload_n hx hb d_Pa_leastGap_67 rfl (lv_at hl 1 rfl) ?_
        exact x_pi E hr (by rw [hv, pa_gp, show i = n by omega]) d_Pa_leastGap_68
      · have hi9 : i < n := Nat.not_le.mp fun h => c11 (nI_le h (by omega))
        refine lv_aload_n hx hb d_Pa_leastGap_14 rfl (lv_at hl 3 rfl) ?_
        refine lv_iload hx hb d_Pa_leastGap_15 (lv_at hl 0 rfl) ?_
        refine lv_iconst (v := 0) hx hb d_Pa_leastGap_17 (by decide) ?_
        refine x_cRi (As := [.int (nI i), .int 0]) (rest := []) E (c_Mc_value l g b0 _ eM hn (nI i) 0) wy_Mc_value wl_Pa_47 hP hD hS eM.1 rfl hl.1 ⟨by decide, by decide⟩ ⟨Nat.le_refl _, Nat.le_refl _⟩ rfl (Nat.le_of_ble_eq_true rfl) d_Pa_leastGap_18 (fun r18 hr18 => ?_)
        subst hr18
        refine lv_if_ne (tgt := 61) hx hb d_Pa_leastGap_21 (by decide) (fun c21 => ?_) (fun c21 => ?_)
        · refine lv_iinc (v := nI (i + 1)) (lv' := [(4, .int (nI (i + 1))), (3, .int v), (0, .ref h), (1, .ref hm), (2, .int t)]) hx hb d_Pa_leastGap_61 hl (k := 0) rfl (nI_1 i) (by decide) rfl (fun ls hl => ?_)
          refine lv_goto (tgt := 5) hx hb d_Pa_leastGap_64 (by decide) ?_
          exact ih (i + 1) v _ (by omega) (by omega) (by show _ = pa_gs M n T t i (it (pa_gs M n T t) i (-1)); rw [← hv, pa_gs, if_neg c21]) hl
        · refine lv_aload_n hx hb d_Pa_leastGap_24 rfl (lv_at hl 2 rfl) ?_
          refine lv_iload hx hb d_Pa_leastGap_25 (lv_at hl 0 rfl) ?_
          refine lv_iload_n hx hb d_Pa_leastGap_27 rfl (lv_at hl 4 rfl) ?_
          refine x_cRi (As := [.int (nI i), .int t]) (rest := []) E (c_Pa_leads l g b0 _ hT (nI i) t) wy_Pa_leads wl_Pa_43 hP hD hS e0 rfl hl.1 ⟨by decide, by decide⟩ ⟨Nat.le_refl _, Nat.le_refl _⟩ rfl (Nat.le_of_ble_eq_true rfl) d_Pa_leastGap_28 (fun r28 hr28 => ?_)
          subst hr28
          refine lv_if_eq (tgt := 61) hx hb d_Pa_leastGap_31 (by decide) (fun c31 => ?_) (fun c31 => ?_)
          · refine lv_iinc (v := nI (i + 1)) (lv' := [(4, .int (nI (i + 1))), (3, .int v), (0, .ref h), (1, .ref hm), (2, .int t)]) hx hb d_Pa_leastGap_61 hl (k := 0) rfl (nI_1 i) (by decide) rfl (fun ls hl => ?_)
            refine lv_goto (tgt := 5) hx hb d_Pa_leastGap_64 (by decide) ?_
            exact ih (i + 1) v _ (by omega) (by omega) (by show _ = pa_gs M n T t i (it (pa_gs M n T t) i (-1)); rw [← hv, pa_gs, if_pos c21, if_pos c31]) hl
          · refine lv_aload_n hx hb d_Pa_leastGap_34 rfl (lv_at hl 3 rfl) ?_
            refine lv_iload hx hb d_Pa_leastGap_35 (lv_at hl 0 rfl) ?_
            refine lv_iconst (v := 2) hx hb d_Pa_leastGap_37 (by decide) ?_
            refine x_cRi (As := [.int (nI i), .int 2]) (rest := []) E (c_Mc_value l g b0 _ eM hn (nI i) 2) wy_Mc_value wl_Pa_47 hP hD hS eM.1 rfl hl.1 ⟨by decide, by decide⟩ ⟨Nat.le_refl _, Nat.le_refl _⟩ rfl (Nat.le_of_ble_eq_true rfl) d_Pa_leastGap_38 (fun r38 hr38 => ?_)
            subst hr38
            refine lv_istore (lv' := [(5, .int (mc_val M n (nI i) 2)), (4, .int (nI i)), (3, .int v), (0, .ref h), (1, .ref hm), (2, .int t)]) hx hb d_Pa_leastGap_41 hl (by decide) rfl (fun ls hl => ?_)
            refine lv_iload_n hx hb d_Pa_leastGap_43 rfl (lv_at hl 2 rfl) ?_
            refine lv_iconst (v := (-1)) hx hb d_Pa_leastGap_44 (by decide) ?_
            refine lv_icmp_eq (tgt := 54) hx hb d_Pa_leastGap_45 (by decide) (fun c45 => ?_) (fun c45 => ?_)
            · refine lv_iload hx hb d_Pa_leastGap_54 (lv_at hl 0 rfl) ?_
              refine lv_goto (tgt := 60) hx hb d_Pa_leastGap_56 (by decide) ?_
              refine lv_istore_n (lv' := [(3, .int (mc_val M n (nI i) 2)), (5, .int (mc_val M n (nI i) 2)), (4, .int (nI i)), (0, .ref h), (1, .ref hm), (2, .int t)]) hx hb d_Pa_leastGap_60 rfl hl (by decide) rfl (fun ls hl => ?_)
              refine lv_iinc (v := nI (i + 1)) (lv' := [(4, .int (nI (i + 1))), (3, .int (mc_val M n (nI i) 2)), (5, .int (mc_val M n (nI i) 2)), (0, .ref h), (1, .ref hm), (2, .int t)]) hx hb d_Pa_leastGap_61 hl (k := 2) rfl (nI_1 i) (by decide) rfl (fun ls hl => ?_)
              refine lv_goto (tgt := 5) hx hb d_Pa_leastGap_64 (by decide) ?_
              exact ih (i + 1) (mc_val M n (nI i) 2) _ (by omega) (by omega) (by show _ = pa_gs M n T t i (it (pa_gs M n T t) i (-1)); rw [← hv, pa_gs, if_pos c21, if_neg c31, if_pos c45]) (lv_sub hl [0, 1, 3, 4, 5] rfl)
            · refine lv_iload hx hb d_Pa_leastGap_48 (lv_at hl 0 rfl) ?_
              refine lv_iload_n hx hb d_Pa_leastGap_50 rfl (lv_at hl 2 rfl) ?_
              refine lv_icmp_ge (tgt := 59) hx hb d_Pa_leastGap_51 (by decide) (fun c51 => ?_) (fun c51 => ?_)
              · refine lv_iload_n hx hb d_Pa_leastGap_59 rfl (lv_at hl 2 rfl) ?_
                refine lv_istore_n (lv' := [(3, .int v), (5, .int (mc_val M n (nI i) 2)), (4, .int (nI i)), (0, .ref h), (1, .ref hm), (2, .int t)]) hx hb d_Pa_leastGap_60 rfl hl (by decide) rfl (fun ls hl => ?_)
                refine lv_iinc (v := nI (i + 1)) (lv' := [(4, .int (nI (i + 1))), (3, .int v), (5, .int (mc_val M n (nI i) 2)), (0, .ref h), (1, .ref hm), (2, .int t)]) hx hb d_Pa_leastGap_61 hl (k := 2) rfl (nI_1 i) (by decide) rfl (fun ls hl => ?_)
                refine lv_goto (tgt := 5) hx hb d_Pa_leastGap_64 (by decide) ?_
                exact ih (i + 1) v _ (by omega) (by omega) (by show _ = pa_gs M n T t i (it (pa_gs M n T t) i (-1)); rw [← hv, pa_gs, if_pos c21, if_neg c31, if_neg c45, if_pos c51]) (lv_sub hl [0, 1, 3, 4, 5] rfl)
              · refine lv_iload hx hb d_Pa_leastGap_54 (lv_at hl 0 rfl) ?_
                refine lv_goto (tgt := 60) hx hb d_Pa_leastGap_56 (by decide) ?_
                refine lv_istore_n (lv' := [(3, .int (mc_val M n (nI i) 2)), (5, .int (mc_val M n (nI i) 2)), (4, .int (nI i)), (0, .ref h), (1, .ref hm), (2, .int t)]) hx hb d_Pa_leastGap_60 rfl hl (by decide) rfl (fun ls hl => ?_)
                refine lv_iinc (v := nI (i + 1)) (lv' := [(4, .int (nI (i + 1))), (3, .int (mc_val M n (nI i) 2)), (5, .int (mc_val M n (nI i) 2)), (0, .ref h), (1, .ref hm), (2, .int t)]) hx hb d_Pa_leastGap_61 hl (k := 2) rfl (nI_1 i) (by decide) rfl (fun ls hl => ?_)
                refine lv_goto (tgt := 5) hx hb d_Pa_leastGap_64 (by decide) ?_
                exact ih (i + 1) (mc_val M n (nI i) 2) _ (by omega) (by omega) (by show _ = pa_gs M n T t i (it (pa_gs M n T t) i (-1)); rw [← hv, pa_gs, if_pos c21, if_neg c31, if_neg c45, if_neg c51]) (lv_sub hl [0, 1, 3, 4, 5] rfl)
  exact loop (n + 1) 0 (-1) _ (by omega) (by omega) rfl hl
def pa_e2 (M : Nat → Nat → Int32) (ix : Nat → Int32) (n i : Nat) (k : Nat) (V : Nat → Nat → Int32) : Nat → Nat → Int32 := pa_sh V i (mc_goal M ix n (nI i) (nI k)) (mc_tt M n (nI i))
def pa_e1 (M : Nat → Nat → Int32) (ix : Nat → Int32) (n i : Nat) (V : Nat → Nat → Int32) : Nat → Nat → Int32 := it (pa_e2 M ix n i) 2 V
def pa_f2 (n mid : Nat) (k : Nat) (V : Nat → Nat → Int32) : Nat → Nat → Int32 := pa_jn V mid k n
def pa_f1 (n mid : Nat) (V : Nat → Nat → Int32) : Nat → Nat → Int32 := it (pa_f2 n mid) n V
def pa_all (M : Nat → Nat → Int32) (ix : Nat → Int32) (n : Nat) (T : Nat → Nat → Int32) : Nat → Nat → Int32 := it (pa_f1 n) n (it (pa_e1 M ix n) n T)
set_option maxRecDepth 100000 in
set_option maxHeartbeats 4000000 in
theorem c_Pa_follow (l : Launch) (g : xG) (b0 : Nat) (ws : va_W) {q h o : Nat} {r : Nat → Nat} {T : Nat → Nat → Int32} (hT : xPath g ws q h o r T) {qm hm om dm n : Nat} {rm : Nat → Nat} {M : Nat → Nat → Int32} {ix : Nat → Int32} (eM : xMach g ws qm hm om dm rm M ix n) (hn : n ≤ 24) (hd : qm + 9 ≤ q ∨ q + 26 ≤ qm) : xMv l g b0 y_Pa_follow b_Pa_follow 4 2 [.ref h, .ref hm] ws (fun u => xQ q (q + 26) ws u ∧ ∃ T0, xPath g u q h o r (pa_all M ix n T0) ∧ ∀ i j, i < 24 → j < 24 → T0 i j = -1) := by
  unfold xMv
  refine x_in (by decide) (Nat.le_of_ble_eq_true rfl) ?_
  intro p e s m below meth c ls E hr hin hP hD hl
  obtain ⟨hx, hb, hml, hown, hts, hK, hZ, hb0, hlocks⟩ := id E
  have hS : va_S (xA b0) s.heap s.heap [] := va_S.rf
  have hl : lv_has ls 4 [(0, .ref h), (1, .ref hm)] := hl
  have hQ : xQ q (q + 26) ws ws := xQ.rf
  have eT := hT
  refine lv_aload_n hx hb d_Pa_follow_0 rfl (lv_at hl 0 rfl) ?_
  refine x_cVv (As := []) (rest := []) E (c_Pa_forget l g b0 _ eT) wy_Pa_forget wl_Pa_16 hP hD hS eT.1 rfl hl.1 ⟨by decide, by decide⟩ ⟨Nat.le_refl _, Nat.le_refl _⟩ rfl (Nat.le_of_ble_eq_true rfl) d_Pa_follow_1 (fun w1 H locs hr1 hP hD hS => ?_)
  obtain ⟨hq, T0, eT, hT0⟩ := hr1
  have hQ := hQ.tr hq
  have eM := eM.keep hq (by omega)
  refine lv_iconst (v := 0) hx hb d_Pa_follow_4 (by decide) ?_
  refine lv_istore_n (lv' := [(2, .int 0), (0, .ref h), (1, .ref hm)]) hx hb d_Pa_follow_5 rfl hl (by decide) rfl (fun ls hl => ?_)
  have loopb : ∀ (k i : Nat)  (w : va_W) (H : Heap) (locs : List Loc) (ls : Array Slot), (n < i + k) → (i ≤ n) → (lv_has ls 4 [(2, .int (nI i)), (0, .ref h), (1, .ref hm)]) → (va_P (xD g) vwCl w H) → (va_D (xA b0) w) → (va_S (xA b0) s.heap H locs) → (xQ q (q + 26) ws w) → (xPath g w q h o r (it (pa_f1 n) i (it (pa_e1 M ix n) n T0))) → (xMach g w qm hm om dm rm M ix n) → W p l e (rmL 2) s m ([.ref h, .ref hm] : List Value).toArray below meth c H locs 0 0 (MQ below (va_Qv (fun u => xQ q (q + 26) ws u ∧ ∃ T0, xPath g u q h o r (pa_all M ix n T0) ∧ ∀ i j, i < 24 → j < 24 → T0 i j = -1) (fun u t => va_P (xD g) vwCl u t.heap ∧ va_D (xA b0) u) (xA b0)) ([.ref h, .ref hm] : List Value).toArray s 0 0 (xA b0)) (F0 m 51 ls []) := by
    intro k
    induction k with
    | zero =>
      intro i w H locs ls hk hi hl hP hD hS hQ eT eM
      omega
    | succ k ih =>
      intro i w H locs ls hk hi hl hP hD hS hQ eT eM
      refine lv_iload_n hx hb d_Pa_follow_51 rfl (lv_at hl 0 rfl) ?_
      refine lv_aload_n hx hb d_Pa_follow_52 rfl (lv_at hl 2 rfl) ?_
      refine x_get E hP eM.1 rfl cl2_in 2 (by decide) wf_Pa_19 rfl d_Pa_follow_53 ?_
      refine lv_icmp_ge (tgt := 91) hx hb d_Pa_follow_56 (by decide) (fun c56 => ?_) (fun c56 => ?_)
      · have hi9 : n ≤ i := (nI_leI (by omega) (by omega)).mp c56
        have e9 : i = n := by omega
        exact x_rv E hr hS ⟨hQ, T0, by rw [pa_all]; rw [e9] at eT; exact eT, hT0⟩ hP hD d_Pa_follow_91
      · have hi9 : i < n := Nat.not_le.mp fun h => c56 (nI_le h (by omega))
        refine lv_iconst (v := 0) hx hb d_Pa_follow_59 (by decide) ?_
        refine lv_istore_n (lv' := [(3, .int 0), (2, .int (nI i)), (0, .ref h), (1, .ref hm)]) hx hb d_Pa_follow_60 rfl hl (by decide) rfl (fun ls hl => ?_)
        have loopb2 : ∀ (k kk : Nat)  (v : va_W) (H : Heap) (locs : List Loc) (ls : Array Slot), (n < kk + k) → (kk ≤ n) → (lv_has ls 4 [(3, .int (nI kk)), (2, .int (nI i)), (0, .ref h), (1, .ref hm)]) → (va_P (xD g) vwCl v H) → (va_D (xA b0) v) → (va_S (xA b0) s.heap H locs) → (xQ q (q + 26) ws v) → (xPath g v q h o r (it (pa_f2 n i) kk (it (pa_f1 n) i (it (pa_e1 M ix n) n T0)))) → (xMach g v qm hm om dm rm M ix n) → W p l e (rmL 2) s m ([.ref h, .ref hm] : List Value).toArray below meth c H locs 0 0 (MQ below (va_Qv (fun u => xQ q (q + 26) ws u ∧ ∃ T0, xPath g u q h o r (pa_all M ix n T0) ∧ ∀ i j, i < 24 → j < 24 → T0 i j = -1) (fun u t => va_P (xD g) vwCl u t.heap ∧ va_D (xA b0) u) (xA b0)) ([.ref h, .ref hm] : List Value).toArray s 0 0 (xA b0)) (F0 m 61 ls []) := by
          intro k
          induction k with
          | zero =>
            intro kk v H locs ls hk hkk hl hP hD hS hQ eT eM
            omega
          | succ k ih2 =>
            intro kk v H locs ls hk hkk hl hP hD hS hQ eT eM
            refine lv_iload_n hx hb d_Pa_follow_61 rfl (lv_at hl 0 rfl) ?_
            refine lv_aload_n hx hb d_Pa_follow_62 rfl (lv_at hl 3 rfl) ?_
            refine x_get E hP eM.1 rfl cl2_in 2 (by decide) wf_Pa_19 rfl d_Pa_follow_63 ?_
            refine lv_icmp_ge (tgt := 85) hx hb d_Pa_follow_66 (by decide) (fun c66 => ?_) (fun c66 => ?_)
            · have hj9 : n ≤ kk := (nI_leI (by omega) (by omega)).mp c66
              refine lv_iinc (v := nI (i + 1)) (lv' := [(2, .int (nI (i + 1))), (3, .int (nI kk)), (0, .ref h), (1, .ref hm)]) hx hb d_Pa_follow_85 hl (k := 1) rfl (nI_1 i) (by decide) rfl (fun ls hl => ?_)
              refine lv_goto (tgt := 51) hx hb d_Pa_follow_88 (by decide) ?_
              have e2 : kk = n := by omega
              subst e2
              have eT : xPath g _ q h o r (it (pa_f1 kk) (i + 1) (it (pa_e1 M ix kk) kk T0)) := eT
              exact ih (i + 1) _ _ _ _ (by omega) (by omega) (lv_sub hl [0, 2, 3] rfl) hP hD hS hQ eT eM
            · have hj9 : kk < n := Nat.not_le.mp fun h => c66 (nI_le h (by omega))
              refine lv_aload_n hx hb d_Pa_follow_69 rfl (lv_at hl 2 rfl) ?_
              refine lv_iload_n hx hb d_Pa_follow_70 rfl (lv_at hl 1 rfl) ?_
              refine lv_iload_n hx hb d_Pa_follow_71 rfl (lv_at hl 0 rfl) ?_
              refine lv_aload_n hx hb d_Pa_follow_72 rfl (lv_at hl 3 rfl) ?_
              refine x_get E hP eM.1 rfl cl2_in 2 (by decide) wf_Pa_19 rfl d_Pa_follow_73 ?_
              refine x_cVv (As := [.int (nI i), .int (nI kk), .int (nI n)]) (rest := []) E (c_Pa_joinAt l g b0 _ eT i kk n (by omega) (by omega) hn) wy_Pa_joinAt wl_Pa_37 hP hD hS eT.1 rfl hl.1 ⟨by decide, by decide⟩ ⟨Nat.le_refl _, Nat.le_refl _⟩ rfl (Nat.le_of_ble_eq_true rfl) d_Pa_follow_76 (fun w102 H locs hr76 hP hD hS => ?_)
              obtain ⟨hq, eT⟩ := hr76
              have hQ := hQ.tr hq
              have eM := eM.keep hq (by omega)
              have eT : xPath g _ q h o r (it (pa_f2 n i) (kk + 1) (it (pa_f1 n) i (it (pa_e1 M ix n) n T0))) := eT
              refine lv_iinc (v := nI (kk + 1)) (lv' := [(3, .int (nI (kk + 1))), (2, .int (nI i)), (0, .ref h), (1, .ref hm)]) hx hb d_Pa_follow_79 hl (k := 0) rfl (nI_1 kk) (by decide) rfl (fun ls hl => ?_)
              refine lv_goto (tgt := 61) hx hb d_Pa_follow_82 (by decide) ?_
              exact ih2 (kk + 1) _ _ _ _ (by omega) (by omega) hl hP hD hS hQ eT eM
        have eT : xPath g _ q h o r (it (pa_f2 n i) 0 (it (pa_f1 n) i (it (pa_e1 M ix n) n T0))) := eT
        exact loopb2 (n + 1) 0 _ _ _ _ (by omega) (by omega) hl hP hD hS hQ eT eM
  have loop : ∀ (k i : Nat)  (w : va_W) (H : Heap) (locs : List Loc) (ls : Array Slot), (n < i + k) → (i ≤ n) → (lv_has ls 4 [(2, .int (nI i)), (0, .ref h), (1, .ref hm)]) → (va_P (xD g) vwCl w H) → (va_D (xA b0) w) → (va_S (xA b0) s.heap H locs) → (xQ q (q + 26) ws w) → (xPath g w q h o r (it (pa_e1 M ix n) i T0)) → (xMach g w qm hm om dm rm M ix n) → W p l e (rmL 2) s m ([.ref h, .ref hm] : List Value).toArray below meth c H locs 0 0 (MQ below (va_Qv (fun u => xQ q (q + 26) ws u ∧ ∃ T0, xPath g u q h o r (pa_all M ix n T0) ∧ ∀ i j, i < 24 → j < 24 → T0 i j = -1) (fun u t => va_P (xD g) vwCl u t.heap ∧ va_D (xA b0) u) (xA b0)) ([.ref h, .ref hm] : List Value).toArray s 0 0 (xA b0)) (F0 m 6 ls []) := by
    intro k
    induction k with
    | zero =>
      intro i w H locs ls hk hi hl hP hD hS hQ eT eM
      omega
    | succ k ih =>
      intro i w H locs ls hk hi hl hP hD hS hQ eT eM
      refine lv_iload_n hx hb d_Pa_follow_6 rfl (lv_at hl 0 rfl) ?_
      refine lv_aload_n hx hb d_Pa_follow_7 rfl (lv_at hl 2 rfl) ?_
      refine x_get E hP eM.1 rfl cl2_in 2 (by decide) wf_Pa_19 rfl d_Pa_follow_8 ?_
      refine lv_icmp_ge (tgt := 49) hx hb d_Pa_follow_11 (by decide) (fun c11 => ?_) (fun c11 => ?_)
      · have hi9 : n ≤ i := (nI_leI (by omega) (by omega)).mp c11
        refine lv_iconst (v := 0) hx hb d_Pa_follow_49 (by decide) ?_
        refine lv_istore_n (lv' := [(2, .int 0), (0, .ref h), (1, .ref hm)]) hx hb d_Pa_follow_50 rfl hl (by decide) rfl (fun ls hl => ?_)
        have e9 : i = n := by omega
        rw [e9] at eT
        have eT : xPath g _ q h o r (it (pa_f1 n) 0 (it (pa_e1 M ix n) n T0)) := eT
        exact loopb (n + 1) 0 _ _ _ _ (by omega) (by omega) hl hP hD hS hQ eT eM
      · have hi9 : i < n := Nat.not_le.mp fun h => c11 (nI_le h (by omega))
        refine lv_iconst (v := 0) hx hb d_Pa_follow_14 (by decide) ?_
        refine lv_istore_n (lv' := [(3, .int 0), (2, .int (nI i)), (0, .ref h), (1, .ref hm)]) hx hb d_Pa_follow_15 rfl hl (by decide) rfl (fun ls hl => ?_)
        have loop2 : ∀ (k kk : Nat)  (v : va_W) (H : Heap) (locs : List Loc) (ls : Array Slot), (2 < kk + k) → (kk ≤ 2) → (lv_has ls 4 [(3, .int (nI kk)), (2, .int (nI i)), (0, .ref h), (1, .ref hm)]) → (va_P (xD g) vwCl v H) → (va_D (xA b0) v) → (va_S (xA b0) s.heap H locs) → (xQ q (q + 26) ws v) → (xPath g v q h o r (it (pa_e2 M ix n i) kk (it (pa_e1 M ix n) i T0))) → (xMach g v qm hm om dm rm M ix n) → W p l e (rmL 2) s m ([.ref h, .ref hm] : List Value).toArray below meth c H locs 0 0 (MQ below (va_Qv (fun u => xQ q (q + 26) ws u ∧ ∃ T0, xPath g u q h o r (pa_all M ix n T0) ∧ ∀ i j, i < 24 → j < 24 → T0 i j = -1) (fun u t => va_P (xD g) vwCl u t.heap ∧ va_D (xA b0) u) (xA b0)) ([.ref h, .ref hm] : List Value).toArray s 0 0 (xA b0)) (F0 m 16 ls []) := by
          intro k
          induction k with
          | zero =>
            intro kk v H locs ls hk hkk hl hP hD hS hQ eT eM
            omega
          | succ k ih2 =>
            intro kk v H locs ls hk hkk hl hP hD hS hQ eT eM
            refine lv_iload_n hx hb d_Pa_follow_16 rfl (lv_at hl 0 rfl) ?_
            refine lv_iconst (v := 2) hx hb d_Pa_follow_17 (by decide) ?_
            refine lv_icmp_ge (tgt := 43) hx hb d_Pa_follow_18 (by decide) (fun c18 => ?_) (fun c18 => ?_)
            · have hj9 : 2 ≤ kk := (nI_leI (a := 2) (by decide) (by omega)).mp c18
              refine lv_iinc (v := nI (i + 1)) (lv' := [(2, .int (nI (i + 1))), (3, .int (nI kk)), (0, .ref h), (1, .ref hm)]) hx hb d_Pa_follow_43 hl (k := 1) rfl (nI_1 i) (by decide) rfl (fun ls hl => ?_)
              refine lv_goto (tgt := 6) hx hb d_Pa_follow_46 (by decide) ?_
              have e2 : kk = 2 := by omega
              subst e2
              have eT : xPath g _ q h o r (it (pa_e1 M ix n) (i + 1) T0) := eT
              exact ih (i + 1) _ _ _ _ (by omega) (by omega) (lv_sub hl [0, 2, 3] rfl) hP hD hS hQ eT eM
            · have hj9 : kk < 2 := Nat.not_le.mp fun h => c18 (nI_le (a := 2) h (by omega))
              refine lv_aload_n hx hb d_Pa_follow_21 rfl (lv_at hl 2 rfl) ?_
              refine lv_iload_n hx hb d_Pa_follow_22 rfl (lv_at hl 1 rfl) ?_
              refine lv_aload_n hx hb d_Pa_follow_23 rfl (lv_at hl 3 rfl) ?_
              refine lv_iload_n hx hb d_Pa_follow_24 rfl (lv_at hl 1 rfl) ?_
              refine lv_iload_n hx hb d_Pa_follow_25 rfl (lv_at hl 0 rfl) ?_
              refine x_cRi (As := [.int (nI i), .int (nI kk)]) (rest := [.int (nI i), .ref h]) E (c_Mc_goal l g b0 _ eM hn (nI i) (nI kk)) wy_Mc_goal wl_Pa_25 hP hD hS eM.1 rfl hl.1 ⟨by decide, by decide⟩ ⟨Nat.le_refl _, Nat.le_refl _⟩ rfl (Nat.le_of_ble_eq_true rfl) d_Pa_follow_26 (fun r26 hr26 => ?_)
              subst hr26
              refine lv_aload_n hx hb d_Pa_follow_29 rfl (lv_at hl 3 rfl) ?_
              refine lv_iload_n hx hb d_Pa_follow_30 rfl (lv_at hl 1 rfl) ?_
              refine x_cRi (As := [.int (nI i)]) (rest := [.int (mc_goal M ix n (nI i) (nI kk)), .int (nI i), .ref h]) E (c_Mc_timeThrough l g b0 _ eM hn (nI i)) wy_Mc_timeThrough wl_Pa_29 hP hD hS eM.1 rfl hl.1 ⟨by decide, by decide⟩ ⟨Nat.le_refl _, Nat.le_refl _⟩ rfl (Nat.le_of_ble_eq_true rfl) d_Pa_follow_31 (fun r31 hr31 => ?_)
              subst hr31
              refine x_cVv (As := [.int (nI i), .int (mc_goal M ix n (nI i) (nI kk)), .int (mc_tt M n (nI i))]) (rest := []) E (c_Pa_shorten l g b0 _ eT (nI i) (mc_goal M ix n (nI i) (nI kk)) (mc_tt M n (nI i)) i rfl (by omega)) wy_Pa_shorten wl_Pa_33 hP hD hS eT.1 rfl hl.1 ⟨by decide, by decide⟩ ⟨Nat.le_refl _, Nat.le_refl _⟩ rfl (Nat.le_of_ble_eq_true rfl) d_Pa_follow_34 (fun w104 H locs hr34 hP hD hS => ?_)
              obtain ⟨hq, eT⟩ := hr34
              have hQ := hQ.tr hq
              have eM := eM.keep hq (by omega)
              have eT : xPath g _ q h o r (it (pa_e2 M ix n i) (kk + 1) (it (pa_e1 M ix n) i T0)) := eT
              refine lv_iinc (v := nI (kk + 1)) (lv' := [(3, .int (nI (kk + 1))), (2, .int (nI i)), (0, .ref h), (1, .ref hm)]) hx hb d_Pa_follow_37 hl (k := 0) rfl (nI_1 kk) (by decide) rfl (fun ls hl => ?_)
              refine lv_goto (tgt := 16) hx hb d_Pa_follow_40 (by decide) ?_
              exact ih2 (kk + 1) _ _ _ _ (by omega) (by omega) hl hP hD hS hQ eT eM
        have eT : xPath g _ q h o r (it (pa_e2 M ix n i) 0 (it (pa_e1 M ix n) i T0)) := eT
        exact loop2 3 0 _ _ _ _ (by omega) (by omega) hl hP hD hS hQ eT eM
  have eT : xPath g _ q h o r (it (pa_e1 M ix n) 0 T0) := eT
  exact loop (n + 1) 0 _ _ _ _ (by omega) (by omega) hl hP hD hS hQ eT eM
