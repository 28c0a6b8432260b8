/-! THE WHOLE OBJECT: its cells stand at the places 0 .. 54 -/
abbrev mc_S : Type := (Nat → Nat → Int32) × (Nat → Int32) × Nat
/-- text, printed, the parser's place, least times, faults, machine, spare -/
abbrev cl_S : Type := tx_S × tx_S × Nat × (Nat → Nat → Int32) × fl_S × mc_S × mc_S
def xCl (g : xG) (ws : va_W) (h0 : Nat) (σ : cl_S) : Prop := ∃ (ht tt hp tp hs ha oa hf of qa h1 o1 d1 qb h2 o2 d2 : Nat) (ra rf r1 r2 : Nat → Nat), ((qa = 37 ∧ qb = 46) ∨ (qa = 46 ∧ qb = 37)) ∧ ws[0]? = some (h0, .inr (0, [.ref hs, .ref hp, .ref ha, .ref hf, .ref h1, .ref h2])) ∧ xTs g ws 2 ht tt σ.1 ∧ xTs g ws 4 hp tp σ.2.1 ∧ ws[1]? = some (hs, .inr (3, [.ref ht, .int (nI σ.2.2.1)])) ∧ xPath g ws 6 ha oa ra σ.2.2.2.1 ∧ xFs g ws 32 hf of rf σ.2.2.2.2.1 ∧ xMach g ws qa h1 o1 d1 r1 σ.2.2.2.2.2.1.1 σ.2.2.2.2.2.1.2.1 σ.2.2.2.2.2.1.2.2 ∧ xMach g ws qb h2 o2 d2 r2 σ.2.2.2.2.2.2.1 σ.2.2.2.2.2.2.2.1 σ.2.2.2.2.2.2.2.2
def cl_ok (σ : cl_S) : Prop := σ.1.2 ≤ 300 ∧ σ.2.1.2 ≤ 300 ∧ σ.2.2.1 ≤ 300 ∧ σ.2.2.2.2.1.2 ≤ 168 ∧ σ.2.2.2.2.2.1.2.2 ≤ 24 ∧ σ.2.2.2.2.2.2.2.2 ≤ 24
theorem xTs.keep {g : xG} {ws w1 : va_W} {q h a lo hi : Nat} {s : tx_S} (H : xTs g ws q h a s) (hQ : xQ lo hi ws w1) (hd : q + 2 ≤ lo ∨ hi ≤ q) : xTs g w1 q h a s := xText.keep H hQ hd
theorem xFs.keep {g : xG} {ws w1 : va_W} {q h o lo hi : Nat} {r : Nat → Nat} {f : fl_S} (H : xFs g ws q h o r f) (hQ : xQ lo hi ws w1) (hd : q + 5 ≤ lo ∨ hi ≤ q) : xFs g w1 q h o r f := xFlt.keep H hQ hd
def cl_part (σ : cl_S) (i w : Int32) : Int32 := if w < 0 then -12 else if w < 6 then mc_val σ.2.2.2.2.2.1.1 σ.2.2.2.2.2.1.2.2 i w else -12
def cl_check (σ : cl_S) : Int32 := if nI σ.2.2.2.2.2.1.2.2 = 0 then -1 else nI σ.2.2.2.2.1.2
def cl_fault (σ : cl_S) (i w : Int32) : Int32 := if w < 0 then -12 else if w < 3 then fl_val σ.2.2.2.2.1.1 σ.2.2.2.2.1.2 i w else -12
abbrev cl_ix (σ : cl_S) (x : Int32) : Int32 := mc_ix σ.2.2.2.2.2.1.2.1 x
abbrev cl_val (σ : cl_S) (i w : Int32) : Int32 := mc_val σ.2.2.2.2.2.1.1 σ.2.2.2.2.2.1.2.2 i w
abbrev cl_gp (σ : cl_S) (i : Int32) : Int32 := pa_gp σ.2.2.2.2.2.1.1 σ.2.2.2.2.2.1.2.2 σ.2.2.2.1 i
def cl_reach (σ : cl_S) (x : Int32) : Int32 := if cl_ix σ x = -1 then -11 else if cl_val σ (cl_ix σ x) 0 = 4 then (if cl_gp σ (cl_ix σ x) = -1 then 0 else 1) else -13
def cl_gap (σ : cl_S) (x : Int32) : Int32 := if cl_ix σ x = -1 then -11 else cl_gp σ (cl_ix σ x)
def cl_time (σ : cl_S) (x y : Int32) : Int64 := if cl_ix σ x = -1 then -11 else if cl_ix σ y = -1 then -11 else if cl_ix σ x = cl_ix σ y then 0 else (pa_lt σ.2.2.2.1 (cl_ix σ x) (cl_ix σ y)).toInt64
def cl_suff (σ : cl_S) (x : Int32) (v : Int64) : Int32 := if cl_val σ (cl_ix σ x) 0 = 3 then (if 0 < lg_cmp (cl_val σ (cl_ix σ x) 2).toInt64 v then 0 else 1) else 0
def cl_at (σ : cl_S) (i : Int32) : Int32 := tx_at σ.2.1.1 σ.2.1.2 i
set_option maxRecDepth 100000 in
set_option maxHeartbeats 4000000 in
theorem c_MT_part (l : Launch) (g : xG) (b0 : Nat) (ws : va_W) {h0 : Nat} {σ : cl_S} (eC : xCl g ws h0 σ) (ho : cl_ok σ) (i x : Int32) : xRi l g b0 y_MT_part b_MT_part 3 (some .int) 1 [.ref h0, .int i, .int x] ws (fun r => r = cl_part σ i x) := by
  unfold xRi
  refine x_in (by decide) (Nat.le_of_ble_eq_true rfl) ?_
  intro p e s m below meth c ls E hr hin hP hD hl
  obtain ⟨hx, hb, hml, hown, hts, hK, hZ, hb0, hlocks⟩ := id E
  have hS : va_S (xA b0) s.heap s.heap [] := va_S.rf
  have hl : lv_has ls 3 [(0, .ref h0), (1, .int i), (2, .int x)] := hl
  obtain ⟨ht, tt, hp, tp, hs, ha, oa, hf, of, qa, h1, o1, d1, qb, h2, o2, d2, ra, rf, r1, r2, hqq, m0, eT, eR, eS, eA, eF, eM, eN⟩ := id eC
  obtain ⟨k1, k2, k3, k4, k5, k6⟩ := id ho
  refine lv_iload_n hx hb d_MT_part_0 rfl (lv_at hl 2 rfl) ?_
  refine lv_if_lt (tgt := 10) hx hb d_MT_part_1 (by decide) (fun c1 => ?_) (fun c1 => ?_)
  · refine lv_bipush (v := (-12)) hx hb d_MT_part_10 (by decide) ?_
    exact x_pi E hr (by rw [cl_part, if_pos c1]) d_MT_part_12
  · refine lv_iload_n hx hb d_MT_part_4 rfl (lv_at hl 2 rfl) ?_
    refine lv_bipush (v := 6) hx hb d_MT_part_5 (by decide) ?_
    refine lv_icmp_lt (tgt := 13) hx hb d_MT_part_7 (by decide) (fun c7 => ?_) (fun c7 => ?_)
    · refine lv_aload_n hx hb d_MT_part_13 rfl (lv_at hl 0 rfl) ?_
      refine x_get E hP m0 rfl cl0_in 4 (by decide) wf_MT_40 rfl d_MT_part_14 ?_
      refine lv_iload_n hx hb d_MT_part_17 rfl (lv_at hl 1 rfl) ?_
      refine lv_iload_n hx hb d_MT_part_18 rfl (lv_at hl 2 rfl) ?_
      refine x_cRi (As := [.int i, .int x]) (rest := []) E (c_Mc_value l g b0 _ eM k5 i x) wy_Mc_value wl_MT_76 hP hD hS eM.1 rfl hl.1 ⟨by decide, by decide⟩ ⟨Nat.le_refl _, Nat.le_refl _⟩ rfl (Nat.le_of_ble_eq_true rfl) d_MT_part_19 (fun r19 hr19 => ?_)
      subst hr19
      exact x_pi E hr (by rw [cl_part, if_neg c1, if_pos c7]) d_MT_part_22
    · refine lv_bipush (v := (-12)) hx hb d_MT_part_10 (by decide) ?_
      exact x_pi E hr (by rw [cl_part, if_neg c1, if_neg c7]) d_MT_part_12
set_option maxRecDepth 100000 in
set_option maxHeartbeats 4000000 in
theorem c_MT_check (l : Launch) (g : xG) (b0 : Nat) (ws : va_W) {h0 : Nat} {σ : cl_S} (eC : xCl g ws h0 σ) (ho : cl_ok σ) : xRi l g b0 y_MT_check b_MT_check 1 (some .int) 0 [.ref h0] ws (fun r => r = cl_check σ) := by
  unfold xRi
  refine x_in (by decide) (Nat.le_of_ble_eq_true rfl) ?_
  intro p e s m below meth c ls E hr hin hP hD hl
  obtain ⟨hx, hb, hml, hown, hts, hK, hZ, hb0, hlocks⟩ := id E
  have hS : va_S (xA b0) s.heap s.heap [] := va_S.rf
  have hl : lv_has ls 1 [(0, .ref h0)] := hl
  obtain ⟨ht, tt, hp, tp, hs, ha, oa, hf, of, qa, h1, o1, d1, qb, h2, o2, d2, ra, rf, r1, r2, hqq, m0, eT, eR, eS, eA, eF, eM, eN⟩ := id eC
  obtain ⟨k1, k2, k3, k4, k5, k6⟩ := id ho
  refine lv_aload_n hx hb d_MT_check_0 rfl (lv_at hl 0 rfl) ?_
  refine x_get E hP m0 rfl cl0_in 4 (by decide) wf_MT_40 rfl d_MT_check_1 ?_
  refine x_get E hP eM.1 rfl cl2_in 2 (by decide) wf_MT_73 rfl d_MT_check_4 ?_
  refine lv_if_ne (tgt := 14) hx hb d_MT_check_7 (by decide) (fun c7 => ?_) (fun c7 => ?_)
  · refine lv_aload_n hx hb d_MT_check_14 rfl (lv_at hl 0 rfl) ?_
    refine x_get E hP m0 rfl cl0_in 3 (by decide) wf_MT_33 rfl d_MT_check_15 ?_
    refine x_get E hP eF.1 rfl cl5_in 1 (by decide) wf_MT_80 rfl d_MT_check_18 ?_
    exact x_pi E hr (by rw [cl_check, if_neg c7]) d_MT_check_21
  · refine lv_iconst (v := (-1)) hx hb d_MT_check_10 (by decide) ?_
    refine lv_goto (tgt := 21) hx hb d_MT_check_11 (by decide) ?_
    exact x_pi E hr (by rw [cl_check, if_pos c7]) d_MT_check_21
set_option maxRecDepth 100000 in
set_option maxHeartbeats 4000000 in
theorem c_MT_fault (l : Launch) (g : xG) (b0 : Nat) (ws : va_W) {h0 : Nat} {σ : cl_S} (eC : xCl g ws h0 σ) (ho : cl_ok σ) (i x : Int32) : xRi l g b0 y_MT_fault b_MT_fault 3 (some .int) 1 [.ref h0, .int i, .int x] ws (fun r => r = cl_fault σ i x) := by
  unfold xRi
  refine x_in (by decide) (Nat.le_of_ble_eq_true rfl) ?_
  intro p e s m below meth c ls E hr hin hP hD hl
  obtain ⟨hx, hb, hml, hown, hts, hK, hZ, hb0, hlocks⟩ := id E
  have hS : va_S (xA b0) s.heap s.heap [] := va_S.rf
  have hl : lv_has ls 3 [(0, .ref h0), (1, .int i), (2, .int x)] := hl
  obtain ⟨ht, tt, hp, tp, hs, ha, oa, hf, of, qa, h1, o1, d1, qb, h2, o2, d2, ra, rf, r1, r2, hqq, m0, eT, eR, eS, eA, eF, eM, eN⟩ := id eC
  obtain ⟨k1, k2, k3, k4, k5, k6⟩ := id ho
  refine lv_iload_n hx hb d_MT_fault_0 rfl (lv_at hl 2 rfl) ?_
  refine lv_if_lt (tgt := 9) hx hb d_MT_fault_1 (by decide) (fun c1 => ?_) (fun c1 => ?_)
  · refine lv_bipush (v := (-12)) hx hb d_MT_fault_9 (by decide) ?_
    exact x_pi E hr (by rw [cl_fault, if_pos c1]) d_MT_fault_11
  · refine lv_iload_n hx hb d_MT_fault_4 rfl (lv_at hl 2 rfl) ?_
    refine lv_iconst (v := 3) hx hb d_MT_fault_5 (by decide) ?_
    refine lv_icmp_lt (tgt := 12) hx hb d_MT_fault_6 (by decide) (fun c6 => ?_) (fun c6 => ?_)
    · refine lv_aload_n hx hb d_MT_fault_12 rfl (lv_at hl 0 rfl) ?_
      refine x_get E hP m0 rfl cl0_in 3 (by decide) wf_MT_33 rfl d_MT_fault_13 ?_
      refine lv_iload_n hx hb d_MT_fault_16 rfl (lv_at hl 1 rfl) ?_
      refine lv_iload_n hx hb d_MT_fault_17 rfl (lv_at hl 2 rfl) ?_
      refine x_cRi (As := [.int i, .int x]) (rest := []) E (c_Fl_value l g b0 _ eF k4 i x) wy_Fl_value wl_MT_81 hP hD hS eF.1 rfl hl.1 ⟨by decide, by decide⟩ ⟨Nat.le_refl _, Nat.le_refl _⟩ rfl (Nat.le_of_ble_eq_true rfl) d_MT_fault_18 (fun r18 hr18 => ?_)
      subst hr18
      exact x_pi E hr (by rw [cl_fault, if_neg c1, if_pos c6]) d_MT_fault_21
    · refine lv_bipush (v := (-12)) hx hb d_MT_fault_9 (by decide) ?_
      exact x_pi E hr (by rw [cl_fault, if_neg c1, if_neg c6]) d_MT_fault_11
set_option maxRecDepth 100000 in
set_option maxHeartbeats 4000000 in
theorem c_MT_reach (l : Launch) (g : xG) (b0 : Nat) (ws : va_W) {h0 : Nat} {σ : cl_S} (eC : xCl g ws h0 σ) (ho : cl_ok σ) (x : Int32) : xRi l g b0 y_MT_reach b_MT_reach 3 (some .int) 3 [.ref h0, .int x] ws (fun r => r = cl_reach σ x) := by
  unfold xRi
  refine x_in (by decide) (Nat.le_of_ble_eq_true rfl) ?_
  intro p e s m below meth c ls E hr hin hP hD hl
  obtain ⟨hx, hb, hml, hown, hts, hK, hZ, hb0, hlocks⟩ := id E
  have hS : va_S (xA b0) s.heap s.heap [] := va_S.rf
  have hl : lv_has ls 3 [(0, .ref h0), (1, .int x)] := hl
  obtain ⟨ht, tt, hp, tp, hs, ha, oa, hf, of, qa, h1, o1, d1, qb, h2, o2, d2, ra, rf, r1, r2, hqq, m0, eT, eR, eS, eA, eF, eM, eN⟩ := id eC
  obtain ⟨k1, k2, k3, k4, k5, k6⟩ := id ho
  refine lv_aload_n hx hb d_MT_reach_0 rfl (lv_at hl 0 rfl) ?_
  refine x_get E hP m0 rfl cl0_in 4 (by decide) wf_MT_40 rfl d_MT_reach_1 ?_
  refine lv_iload_n hx hb d_MT_reach_4 rfl (lv_at hl 1 rfl) ?_
  refine x_cRi (As := [.int x]) (rest := []) E (c_Mc_indexOf l g b0 _ eM k5 x) wy_Mc_indexOf wl_MT_82 hP hD hS eM.1 rfl hl.1 ⟨by decide, by decide⟩ ⟨Nat.le_refl _, Nat.le_refl _⟩ rfl (Nat.le_of_ble_eq_true rfl) d_MT_reach_5 (fun r5 hr5 => ?_)
  subst hr5
  refine lv_istore_n (lv' := [(2, .int (cl_ix σ x)), (0, .ref h0), (1, .int x)]) hx hb d_MT_reach_8 rfl hl (by decide) rfl (fun ls hl => ?_)
  refine lv_iload_n hx hb d_MT_reach_9 rfl (lv_at hl 0 rfl) ?_
  refine lv_iconst (v := (-1)) hx hb d_MT_reach_10 (by decide) ?_
  refine lv_icmp_ne (tgt := 17) hx hb d_MT_reach_11 (by decide) (fun c11 => ?_) (fun c11 => ?_)
  · refine lv_aload_n hx hb d_MT_reach_17 rfl (lv_at hl 1 rfl) ?_
    refine x_get E hP m0 rfl cl0_in 4 (by decide) wf_MT_40 rfl d_MT_reach_18 ?_
    refine lv_iload_n hx hb d_MT_reach_21 rfl (lv_at hl 0 rfl) ?_
    refine lv_iconst (v := 0) hx hb d_MT_reach_22 (by decide) ?_
    refine x_cRi (As := [.int (cl_ix σ x), .int 0]) (rest := []) E (c_Mc_value l g b0 _ eM k5 (cl_ix σ x) 0) wy_Mc_value wl_MT_76 hP hD hS eM.1 rfl hl.1 ⟨by decide, by decide⟩ ⟨Nat.le_refl _, Nat.le_refl _⟩ rfl (Nat.le_of_ble_eq_true rfl) d_MT_reach_23 (fun r23 hr23 => ?_)
    subst hr23
    refine lv_iconst (v := 4) hx hb d_MT_reach_26 (by decide) ?_
    refine lv_icmp_eq (tgt := 33) hx hb d_MT_reach_27 (by decide) (fun c27 => ?_) (fun c27 => ?_)
    · refine lv_aload_n hx hb d_MT_reach_33 rfl (lv_at hl 1 rfl) ?_
      refine x_get E hP m0 rfl cl0_in 2 (by decide) wf_MT_26 rfl d_MT_reach_34 ?_
      refine lv_aload_n hx hb d_MT_reach_37 rfl (lv_at hl 1 rfl) ?_
      refine x_get E hP m0 rfl cl0_in 4 (by decide) wf_MT_40 rfl d_MT_reach_38 ?_
      refine lv_iload_n hx hb d_MT_reach_41 rfl (lv_at hl 0 rfl) ?_
      refine x_cRi (As := [.ref h1, .int (cl_ix σ x)]) (rest := []) E (c_Pa_leastGap l g b0 _ eA eM k5 (cl_ix σ x)) wy_Pa_leastGap wl_MT_86 hP hD hS eA.1 rfl hl.1 ⟨by decide, by decide⟩ ⟨Nat.le_refl _, Nat.le_refl _⟩ rfl (Nat.le_of_ble_eq_true rfl) d_MT_reach_42 (fun r42 hr42 => ?_)
      subst hr42
      refine lv_iconst (v := (-1)) hx hb d_MT_reach_45 (by decide) ?_
      refine lv_icmp_ne (tgt := 53) hx hb d_MT_reach_46 (by decide) (fun c46 => ?_) (fun c46 => ?_)
      · refine lv_iconst (v := 1) hx hb d_MT_reach_53 (by decide) ?_
        exact x_pi E hr (by rw [cl_reach, if_neg c11, if_pos c27, if_neg c46]) d_MT_reach_54
      · refine lv_iconst (v := 0) hx hb d_MT_reach_49 (by decide) ?_
        refine lv_goto (tgt := 54) hx hb d_MT_reach_50 (by decide) ?_
        exact x_pi E hr (by rw [cl_reach, if_neg c11, if_pos c27, if_pos c46]) d_MT_reach_54
    · refine lv_bipush (v := (-13)) hx hb d_MT_reach_30 (by decide) ?_
      exact x_pi E hr (by rw [cl_reach, if_neg c11, if_neg c27]) d_MT_reach_32
  · refine lv_bipush (v := (-11)) hx hb d_MT_reach_14 (by decide) ?_
    exact x_pi E hr (by rw [cl_reach, if_pos c11]) d_MT_reach_16
set_option maxRecDepth 100000 in
set_option maxHeartbeats 4000000 in
theorem c_MT_gap (l : Launch) (g : xG) (b0 : Nat) (ws : va_W) {h0 : Nat} {σ : cl_S} (eC : xCl g ws h0 σ) (ho : cl_ok σ) (x : Int32) : xRi l g b0 y_MT_gap b_MT_gap 3 (some .int) 3 [.ref h0, .int x] ws (fun r => r = cl_gap σ x) := by
  unfold xRi
  refine x_in (by decide) (Nat.le_of_ble_eq_true rfl) ?_
  intro p e s m below meth c ls E hr hin hP hD hl
  obtain ⟨hx, hb, hml, hown, hts, hK, hZ, hb0, hlocks⟩ := id E
  have hS : va_S (xA b0) s.heap s.heap [] := va_S.rf
  have hl : lv_has ls 3 [(0, .ref h0), (1, .int x)] := hl
  obtain ⟨ht, tt, hp, tp, hs, ha, oa, hf, of, qa, h1, o1, d1, qb, h2, o2, d2, ra, rf, r1, r2, hqq, m0, eT, eR, eS, eA, eF, eM, eN⟩ := id eC
  obtain ⟨k1, k2, k3, k4, k5, k6⟩ := id ho
  refine lv_aload_n hx hb d_MT_gap_0 rfl (lv_at hl 0 rfl) ?_
  refine x_get E hP m0 rfl cl0_in 4 (by decide) wf_MT_40 rfl d_MT_gap_1 ?_
  refine lv_iload_n hx hb d_MT_gap_4 rfl (lv_at hl 1 rfl) ?_
  refine x_cRi (As := [.int x]) (rest := []) E (c_Mc_indexOf l g b0 _ eM k5 x) wy_Mc_indexOf wl_MT_82 hP hD hS eM.1 rfl hl.1 ⟨by decide, by decide⟩ ⟨Nat.le_refl _, Nat.le_refl _⟩ rfl (Nat.le_of_ble_eq_true rfl) d_MT_gap_5 (fun r5 hr5 => ?_)
  subst hr5
  refine lv_istore_n (lv' := [(2, .int (cl_ix σ x)), (0, .ref h0), (1, .int x)]) hx hb d_MT_gap_8 rfl hl (by decide) rfl (fun ls hl => ?_)
  refine lv_iload_n hx hb d_MT_gap_9 rfl (lv_at hl 0 rfl) ?_
  refine lv_iconst (v := (-1)) hx hb d_MT_gap_10 (by decide) ?_
  refine lv_icmp_ne (tgt := 19) hx hb d_MT_gap_11 (by decide) (fun c11 => ?_) (fun c11 => ?_)
  · refine lv_aload_n hx hb d_MT_gap_19 rfl (lv_at hl 1 rfl) ?_
    refine x_get E hP m0 rfl cl0_in 2 (by decide) wf_MT_26 rfl d_MT_gap_20 ?_
    refine lv_aload_n hx hb d_MT_gap_23 rfl (lv_at hl 1 rfl) ?_
    refine x_get E hP m0 rfl cl0_in 4 (by decide) wf_MT_40 rfl d_MT_gap_24 ?_
    refine lv_iload_n hx hb d_MT_gap_27 rfl (lv_at hl 0 rfl) ?_
    refine x_cRi (As := [.ref h1, .int (cl_ix σ x)]) (rest := []) E (c_Pa_leastGap l g b0 _ eA eM k5 (cl_ix σ x)) wy_Pa_leastGap wl_MT_86 hP hD hS eA.1 rfl hl.1 ⟨by decide, by decide⟩ ⟨Nat.le_refl _, Nat.le_refl _⟩ rfl (Nat.le_of_ble_eq_true rfl) d_MT_gap_28 (fun r28 hr28 => ?_)
    subst hr28
    exact x_pi E hr (by rw [cl_gap, if_neg c11]) d_MT_gap_31
  · refine lv_bipush (v := (-11)) hx hb d_MT_gap_14 (by decide) ?_
    refine lv_goto (tgt := 31) hx hb d_MT_gap_16 (by decide) ?_
    exact x_pi E hr (by rw [cl_gap, if_pos c11]) d_MT_gap_31
set_option maxRecDepth 100000 in
set_option maxHeartbeats 4000000 in
theorem c_MT_time (l : Launch) (g : xG) (b0 : Nat) (ws : va_W) {h0 : Nat} {σ : cl_S} (eC : xCl g ws h0 σ) (ho : cl_ok σ) (x y : Int32) : xRl l g b0 y_MT_time b_MT_time 5 1 [.ref h0, .int x, .int y] ws (fun r => r = cl_time σ x y) := by
  unfold xRl
  refine x_in (by decide) (Nat.le_of_ble_eq_true rfl) ?_
  intro p e s m below meth c ls E hr hin hP hD hl
  obtain ⟨hx, hb, hml, hown, hts, hK, hZ, hb0, hlocks⟩ := id E
  have hS : va_S (xA b0) s.heap s.heap [] := va_S.rf
  have hl : lv_has ls 5 [(0, .ref h0), (1, .int x), (2, .int y)] := hl
  obtain ⟨ht, tt, hp, tp, hs, ha, oa, hf, of, qa, h1, o1, d1, qb, h2, o2, d2, ra, rf, r1, r2, hqq, m0, eT, eR, eS, eA, eF, eM, eN⟩ := id eC
  obtain ⟨k1, k2, k3, k4, k5, k6⟩ := id ho
  refine lv_aload_n hx hb d_MT_time_0 rfl (lv_at hl 0 rfl) ?_
  refine x_get E hP m0 rfl cl0_in 4 (by decide) wf_MT_40 rfl d_MT_time_1 ?_
  refine lv_iload_n hx hb d_MT_time_4 rfl (lv_at hl 1 rfl) ?_
  refine x_cRi (As := [.int x]) (rest := []) E (c_Mc_indexOf l g b0 _ eM k5 x) wy_Mc_indexOf wl_MT_82 hP hD hS eM.1 rfl hl.1 ⟨by decide, by decide⟩ ⟨Nat.le_refl _, Nat.le_refl _⟩ rfl (Nat.le_of_ble_eq_true rfl) d_MT_time_5 (fun r5 hr5 => ?_)
  subst hr5
  refine lv_istore_n (lv' := [(3, .int (cl_ix σ x)), (0, .ref h0), (1, .int x), (2, .int y)]) hx hb d_MT_time_8 rfl hl (by decide) rfl (fun ls hl => ?_)
  refine lv_aload_n hx hb d_MT_time_9 rfl (lv_at hl 1 rfl) ?_
  refine x_get E hP m0 rfl cl0_in 4 (by decide) wf_MT_40 rfl d_MT_time_10 ?_
  refine lv_iload_n hx hb d_MT_time_13 rfl (lv_at hl 3 rfl) ?_
  refine x_cRi (As := [.int y]) (rest := []) E (c_Mc_indexOf l g b0 _ eM k5 y) wy_Mc_indexOf wl_MT_82 hP hD hS eM.1 rfl hl.1 ⟨by decide, by decide⟩ ⟨Nat.le_refl _, Nat.le_refl _⟩ rfl (Nat.le_of_ble_eq_true rfl) d_MT_time_14 (fun r14 hr14 => ?_)
  subst hr14
  refine lv_istore (lv' := [(4, .int (cl_ix σ y)), (3, .int (cl_ix σ x)), (0, .ref h0), (1, .int x), (2, .int y)]) hx hb d_MT_time_17 hl (by decide) rfl (fun ls hl => ?_)
  refine lv_iload_n hx hb d_MT_time_19 rfl (lv_at hl 1 rfl) ?_
  refine lv_iconst (v := (-1)) hx hb d_MT_time_20 (by decide) ?_
  refine lv_icmp_eq (tgt := 30) hx hb d_MT_time_21 (by decide) (fun c21 => ?_) (fun c21 => ?_)
  · refine lv_ldc2 (v := (-11)) hx hb hown (hts _ wk_MT_90) d_MT_time_30 ?_
    exact x_pl E hr (by rw [cl_time, if_pos c21]) d_MT_time_33
  · refine lv_iload hx hb d_MT_time_24 (lv_at hl 0 rfl) ?_
    refine lv_iconst (v := (-1)) hx hb d_MT_time_26 (by decide) ?_
    refine lv_icmp_ne (tgt := 34) hx hb d_MT_time_27 (by decide) (fun c27 => ?_) (fun c27 => ?_)
    · refine lv_iload_n hx hb d_MT_time_34 rfl (lv_at hl 1 rfl) ?_
      refine lv_iload hx hb d_MT_time_35 (lv_at hl 0 rfl) ?_
      refine lv_icmp_ne (tgt := 44) hx hb d_MT_time_37 (by decide) (fun c37 => ?_) (fun c37 => ?_)
      · refine lv_aload_n hx hb d_MT_time_44 rfl (lv_at hl 2 rfl) ?_
        refine x_get E hP m0 rfl cl0_in 2 (by decide) wf_MT_26 rfl d_MT_time_45 ?_
        refine lv_iload_n hx hb d_MT_time_48 rfl (lv_at hl 1 rfl) ?_
        refine lv_iload hx hb d_MT_time_49 (lv_at hl 0 rfl) ?_
        refine x_cRi (As := [.int (cl_ix σ x), .int (cl_ix σ y)]) (rest := []) E (c_Pa_leastTime l g b0 _ eA (cl_ix σ x) (cl_ix σ y)) wy_Pa_leastTime wl_MT_92 hP hD hS eA.1 rfl hl.1 ⟨by decide, by decide⟩ ⟨Nat.le_refl _, Nat.le_refl _⟩ rfl (Nat.le_of_ble_eq_true rfl) d_MT_time_51 (fun r51 hr51 => ?_)
        subst hr51
        refine lv_i2l (v := (pa_lt σ.2.2.2.1 (cl_ix σ x) (cl_ix σ y)).toInt64) hx hb d_MT_time_54 rfl ?_
        exact x_pl E hr (by rw [cl_time, if_neg c21, if_neg c27, if_neg c37]) d_MT_time_55
      · refine lv_lconst (v := 0) hx hb d_MT_time_40 (by decide) ?_
        refine lv_goto (tgt := 55) hx hb d_MT_time_41 (by decide) ?_
        exact x_pl E hr (by rw [cl_time, if_neg c21, if_neg c27, if_pos c37]) d_MT_time_55
    · refine lv_ldc2 (v := (-11)) hx hb hown (hts _ wk_MT_90) d_MT_time_30 ?_
      exact x_pl E hr (by rw [cl_time, if_neg c21, if_pos c27]) d_MT_time_33
set_option maxRecDepth 100000 in
set_option maxHeartbeats 4000000 in
theorem c_MT_suffices (l : Launch) (g : xG) (b0 : Nat) (ws : va_W) {h0 : Nat} {σ : cl_S} (eC : xCl g ws h0 σ) (ho : cl_ok σ) (x : Int32) (v : Int64) : xRi l g b0 y_MT_suffices b_MT_suffices 5 (some .boolean) 1 [.ref h0, .int x, .long v] ws (fun r => r = cl_suff σ x v) := by
  unfold xRi
  refine x_in (by decide) (Nat.le_of_ble_eq_true rfl) ?_
  intro p e s m below meth c ls E hr hin hP hD hl
  obtain ⟨hx, hb, hml, hown, hts, hK, hZ, hb0, hlocks⟩ := id E
  have hS : va_S (xA b0) s.heap s.heap [] := va_S.rf
  have hl : lv_has ls 5 [(0, .ref h0), (1, .int x), (2, .long v)] := hl
  obtain ⟨ht, tt, hp, tp, hs, ha, oa, hf, of, qa, h1, o1, d1, qb, h2, o2, d2, ra, rf, r1, r2, hqq, m0, eT, eR, eS, eA, eF, eM, eN⟩ := id eC
  obtain ⟨k1, k2, k3, k4, k5, k6⟩ := id ho
  refine lv_aload_n hx hb d_MT_suffices_0 rfl (lv_at hl 0 rfl) ?_
  refine x_get E hP m0 rfl cl0_in 4 (by decide) wf_MT_40 rfl d_MT_suffices_1 ?_
  refine lv_iload_n hx hb d_MT_suffices_4 rfl (lv_at hl 1 rfl) ?_
  refine x_cRi (As := [.int x]) (rest := []) E (c_Mc_indexOf l g b0 _ eM k5 x) wy_Mc_indexOf wl_MT_82 hP hD hS eM.1 rfl hl.1 ⟨by decide, by decide⟩ ⟨Nat.le_refl _, Nat.le_refl _⟩ rfl (Nat.le_of_ble_eq_true rfl) d_MT_suffices_5 (fun r5 hr5 => ?_)
  subst hr5
  refine lv_istore (lv' := [(4, .int (cl_ix σ x)), (0, .ref h0), (1, .int x), (2, .long v)]) hx hb d_MT_suffices_8 hl (by decide) rfl (fun ls hl => ?_)
  refine lv_aload_n hx hb d_MT_suffices_10 rfl (lv_at hl 1 rfl) ?_
  refine x_get E hP m0 rfl cl0_in 4 (by decide) wf_MT_40 rfl d_MT_suffices_11 ?_
  refine lv_iload hx hb d_MT_suffices_14 (lv_at hl 0 rfl) ?_
  refine lv_iconst (v := 0) hx hb d_MT_suffices_16 (by decide) ?_
  refine x_cRi (As := [.int (cl_ix σ x), .int 0]) (rest := []) E (c_Mc_value l g b0 _ eM k5 (cl_ix σ x) 0) wy_Mc_value wl_MT_76 hP hD hS eM.1 rfl hl.1 ⟨by decide, by decide⟩ ⟨Nat.le_refl _, Nat.le_refl _⟩ rfl (Nat.le_of_ble_eq_true rfl) d_MT_suffices_17 (fun r17 hr17 => ?_)
  subst hr17
  refine lv_iconst (v := 3) hx hb d_MT_suffices_20 (by decide) ?_
  refine lv_icmp_ne (tgt := 44) hx hb d_MT_suffices_21 (by decide) (fun c21 => ?_) (fun c21 => ?_)
  · refine lv_iconst (v := 0) hx hb d_MT_suffices_44 (by decide) ?_
    exact x_pz E hr rfl (by rw [cl_suff, if_neg c21]) d_MT_suffices_45
  · refine lv_aload_n hx hb d_MT_suffices_24 rfl (lv_at hl 1 rfl) ?_
    refine x_get E hP m0 rfl cl0_in 4 (by decide) wf_MT_40 rfl d_MT_suffices_25 ?_
    refine lv_iload hx hb d_MT_suffices_28 (lv_at hl 0 rfl) ?_
    refine lv_iconst (v := 2) hx hb d_MT_suffices_30 (by decide) ?_
    refine x_cRi (As := [.int (cl_ix σ x), .int 2]) (rest := []) E (c_Mc_value l g b0 _ eM k5 (cl_ix σ x) 2) wy_Mc_value wl_MT_76 hP hD hS eM.1 rfl hl.1 ⟨by decide, by decide⟩ ⟨Nat.le_refl _, Nat.le_refl _⟩ rfl (Nat.le_of_ble_eq_true rfl) d_MT_suffices_31 (fun r31 hr31 => ?_)
    subst hr31
    refine lv_i2l (v := (cl_val σ (cl_ix σ x) 2).toInt64) hx hb d_MT_suffices_34 rfl ?_
    refine lv_lload_n hx hb d_MT_suffices_35 rfl (lv_at hl 3 rfl) ?_
    refine W.lcmp hx hb d_MT_suffices_36 ?_
    refine lv_if_gt (tgt := 44) hx hb d_MT_suffices_37 (by decide) (fun c37 => ?_) (fun c37 => ?_)
    · refine lv_iconst (v := 0) hx hb d_MT_suffices_44 (by decide) ?_
      exact x_pz E hr rfl (by rw [cl_suff, if_pos c21, if_pos c37]) d_MT_suffices_45
    · refine lv_iconst (v := 1) hx hb d_MT_suffices_40 (by decide) ?_
      refine lv_goto (tgt := 45) hx hb d_MT_suffices_41 (by decide) ?_
      exact x_pz E hr rfl (by rw [cl_suff, if_pos c21, if_neg c37]) d_MT_suffices_45
set_option maxRecDepth 100000 in
set_option maxHeartbeats 4000000 in
theorem c_MT_at (l : Launch) (g : xG) (b0 : Nat) (ws : va_W) {h0 : Nat} {σ : cl_S} (eC : xCl g ws h0 σ) (ho : cl_ok σ) (i : Int32) : xRi l g b0 y_MT_at b_MT_at 2 (some .int) 1 [.ref h0, .int i] ws (fun r => r = cl_at σ i) := by
  unfold xRi
  refine x_in (by decide) (Nat.le_of_ble_eq_true rfl) ?_
  intro p e s m below meth c ls E hr hin hP hD hl
  obtain ⟨hx, hb, hml, hown, hts, hK, hZ, hb0, hlocks⟩ := id E
  have hS : va_S (xA b0) s.heap s.heap [] := va_S.rf
  have hl : lv_has ls 2 [(0, .ref h0), (1, .int i)] := hl
  obtain ⟨ht, tt, hp, tp, hs, ha, oa, hf, of, qa, h1, o1, d1, qb, h2, o2, d2, ra, rf, r1, r2, hqq, m0, eT, eR, eS, eA, eF, eM, eN⟩ := id eC
  obtain ⟨k1, k2, k3, k4, k5, k6⟩ := id ho
  refine lv_aload_n hx hb d_MT_at_0 rfl (lv_at hl 0 rfl) ?_
  refine x_get E hP m0 rfl cl0_in 1 (by decide) wf_MT_19 rfl d_MT_at_1 ?_
  refine lv_iload_n hx hb d_MT_at_4 rfl (lv_at hl 1 rfl) ?_
  refine x_cRi (As := [.int i]) (rest := []) E (c_Tx_characterAt l g b0 _ eR k2 i) wy_Tx_characterAt wl_MT_102 hP hD hS eR.1 rfl hl.1 ⟨by decide, by decide⟩ ⟨Nat.le_refl _, Nat.le_refl _⟩ rfl (Nat.le_of_ble_eq_true rfl) d_MT_at_5 (fun r5 hr5 => ?_)
  subst hr5
  exact x_pi E hr rfl d_MT_at_8
