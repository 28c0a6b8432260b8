def ps_set (z : ps_S) (k : Nat) (v : Int32) : ps_S := (z.1, xg_up z.2.1 k (z.2.2.2 - 1) v, z.2.2.1, z.2.2.2)
def ps_val2 (k : Nat) (b : Int32 × ps_S) : Int32 × ps_S := if b.1 = -1 then (0, b.2) else (1, ps_set b.2 k b.1)
def ps_and (a : Int32 × ps_S) (h : ps_S → Int32 × ps_S) : Int32 × ps_S := if a.1 = 0 then (0, a.2) else h a.2
def ps_value (f : Nat → Int32) (n : Nat) (x : Int32) (k : Nat) (lo hi : Int32) (z : ps_S) : Int32 × ps_S := ps_and (ps_skip f n x z) (fun y => ps_val2 k (ps_num f n lo hi y))
def ps_new (z : ps_S) (kd nm : Int32) : ps_S := (z.1, mc_new z.2.1 z.2.2.2 kd nm, upd z.2.2.1 nm.toNatClampNeg (nI z.2.2.2), z.2.2.2 + 1)
def ps_nam2 (kd : Int32) (z : ps_S) (b : Int32 × ps_S) : Int32 × ps_S := if b.1 = -1 then (0, b.2) else if mc_ix b.2.2.2.1 b.1 = -1 then (1, ps_new b.2 kd b.1) else (0, (z.1, b.2.2))
def ps_name (f : Nat → Int32) (n : Nat) (kd : Int32) (z : ps_S) : Int32 × ps_S := ps_nam2 kd z (ps_num f n 0 29 z)
theorem ps_num_in (f : Nat → Int32) (n : Nat) (lo hi : Int32) (z : ps_S) : (ps_num f n lo hi z).1 = -1 ∨ (¬ (ps_num f n lo hi z).1 < lo ∧ (ps_num f n lo hi z).1 ≤ hi) := by
  unfold ps_num
  split
  · exact Or.inl rfl
  · split
    · exact Or.inl rfl
    · split
      · rename_i h1 h2
        exact Or.inr ⟨h1, h2⟩
      · exact Or.inl rfl
theorem ps_num_z (f : Nat → Int32) (n : Nat) (lo hi : Int32) (z : ps_S) : (ps_num f n lo hi z).2.2 = z.2 := by
  unfold ps_num
  split
  · rfl
  · split
    · rfl
    · split <;> rfl
theorem ps_skip_z (f : Nat → Int32) (n : Nat) (x : Int32) (z : ps_S) : (ps_skip f n x z).2.2 = z.2 := by
  unfold ps_skip
  split <;> rfl
theorem ps_skip_01 (f : Nat → Int32) (n : Nat) (x : Int32) (z : ps_S) : (ps_skip f n x z).1 = 0 ∨ (ps_skip f n x z).1 = 1 := by
  unfold ps_skip
  split
  · exact Or.inr rfl
  · exact Or.inl rfl
set_option maxRecDepth 100000 in
set_option maxHeartbeats 4000000 in
theorem c_Ps_readValue (l : Launch) (g : xG) (b0 : Nat) (ws : va_W) {qp qt qm hp ht ta n hm om dm : Nat} {f : Nat → Int32} {rm : Nat → Nat} (hd : xAp qp qt qm) (hn : n ≤ 300) {z : ps_S} (eZ : xPz g ws qp qt qm hp ht ta f n hm om dm rm z) (hpl : z.1 ≤ n) (hcn : z.2.2.2 ≤ 24) (hc1 : 1 ≤ z.2.2.2) (x col lo hi : Int32) (hx1 : ¬ x = -1) (k : Nat) (hk : col = nI k) (hk6 : k < 6) : xMi l g b0 y_Ps_readValue b_Ps_readValue 7 (some .boolean) 2 [.ref hp, .ref hm, .int x, .int col, .int lo, .int hi] ws (fun r u => r = (ps_value f n x k lo hi z).1 ∧ xQ2 qp qm ws u ∧ xPz g u qp qt qm hp ht ta f n hm om dm rm ((ps_value f n x k lo hi z).2) ∧ (ps_value f n x k lo hi z).2.1 ≤ n ∧ (ps_value f n x k lo hi z).2.2.2.2 ≤ 24) := by
  unfold xMi
  refine x_in (by decide) (Nat.le_of_ble_eq_true rfl) ?_
  intro p e s m below meth c ls E hr hin hP hD hl
  obtain ⟨hx, hb, hml, hown, hts, hK, hZ, hb0, hlocks⟩ := id E
  have hS : va_S (xA b0) s.heap s.heap [] := va_S.rf
  have hl : lv_has ls 7 [(0, .ref hp), (1, .ref hm), (2, .int x), (3, .int col), (4, .int lo), (5, .int hi)] := hl
  have hQ : xQ2 qp qm ws ws := xQ2.rf
  refine lv_aload_n hx hb d_Ps_readValue_0 rfl (lv_at hl 0 rfl) ?_
  refine lv_iload_n hx hb d_Ps_readValue_1 rfl (lv_at hl 2 rfl) ?_
  refine x_cVi (As := [.int x]) (rest := []) E (c_Ps_skip l g b0 _ hd hn eZ hpl hcn x hx1) wy_Ps_skip wl_Ps_56 hP hD hS eZ.1 rfl hl.1 ⟨by decide, by decide⟩ ⟨Nat.le_refl _, Nat.le_refl _⟩ rfl (Nat.le_of_ble_eq_true rfl) d_Ps_readValue_2 (fun r2 w1 H locs hr2 hP hD hS => ?_)
  obtain ⟨rfl, hq, eZ, hpl, hcn⟩ := hr2
  have hQ := hQ.tr hq
  have hc2 : 1 ≤ (ps_skip f n x z).2.2.2.2 := by rw [ps_skip_z]; exact hc1
  generalize hA : ps_skip f n x z = A at eZ hpl hcn hc2 ⊢
  refine lv_if_ne (tgt := 10) hx hb d_Ps_readValue_5 (by decide) (fun c5 => ?_) (fun c5 => ?_)
  · refine lv_aload_n hx hb d_Ps_readValue_10 rfl (lv_at hl 0 rfl) ?_
    refine lv_iload hx hb d_Ps_readValue_11 (lv_at hl 4 rfl) ?_
    refine lv_iload hx hb d_Ps_readValue_13 (lv_at hl 5 rfl) ?_
    refine x_cVi (As := [.int lo, .int hi]) (rest := []) E (c_Ps_readNumber l g b0 _ hd hn eZ hpl hcn lo hi) wy_Ps_readNumber wl_Ps_60 hP hD hS eZ.1 rfl hl.1 ⟨by decide, by decide⟩ ⟨Nat.le_refl _, Nat.le_refl _⟩ rfl (Nat.le_of_ble_eq_true rfl) d_Ps_readValue_15 (fun r15 w2 H locs hr15 hP hD hS => ?_)
    obtain ⟨rfl, hq, eZ, hpl, hcn⟩ := hr15
    have hQ := hQ.tr hq
    have hc2 : 1 ≤ (ps_num f n lo hi A.2).2.2.2.2 := by rw [ps_num_z]; exact hc2
    generalize hB : ps_num f n lo hi A.2 = B at eZ hpl hcn hc2 ⊢
    refine lv_istore (lv' := [(6, .int B.1), (0, .ref hp), (1, .ref hm), (2, .int x), (3, .int col), (4, .int lo), (5, .int hi)]) hx hb d_Ps_readValue_18 hl (by decide) rfl (fun ls hl => ?_)
    refine lv_iload hx hb d_Ps_readValue_20 (lv_at hl 0 rfl) ?_
    refine lv_iconst (v := (-1)) hx hb d_Ps_readValue_22 (by decide) ?_
    refine lv_icmp_ne (tgt := 28) hx hb d_Ps_readValue_23 (by decide) (fun c23 => ?_) (fun c23 => ?_)
    · refine lv_aload_n hx hb d_Ps_readValue_28 rfl (lv_at hl 2 rfl) ?_
      refine lv_iload_n hx hb d_Ps_readValue_29 rfl (lv_at hl 4 rfl) ?_
      refine lv_iload hx hb d_Ps_readValue_30 (lv_at hl 0 rfl) ?_
      refine x_cVv (As := [.int col, .int B.1]) (rest := []) E (c_Mc_setLatest l g b0 _ eZ.2.2 hc2 hcn col B.1 k hk hk6) wy_Mc_setLatest wl_Ps_71 hP hD hS eZ.2.2.1 rfl hl.1 ⟨by decide, by decide⟩ ⟨Nat.le_refl _, Nat.le_refl _⟩ rfl (Nat.le_of_ble_eq_true rfl) d_Ps_readValue_32 (fun w3 H locs hr32 hP hD hS => ?_)
      obtain ⟨hq, eM⟩ := hr32
      have hQ := hQ.mc hq
      have eZ := eZ.mc hd hq eM
      refine lv_iconst (v := 1) hx hb d_Ps_readValue_35 (by decide) ?_
      exact x_rz E hr hS rfl (by rw [ps_value, hA, ps_and, if_neg c5, hB, ps_val2, if_neg c23]; exact ⟨rfl, hQ, eZ, hpl, hcn⟩) hP hD d_Ps_readValue_36
    · refine lv_iconst (v := 0) hx hb d_Ps_readValue_26 (by decide) ?_
      exact x_rz E hr hS rfl (by rw [ps_value, hA, ps_and, if_neg c5, hB, ps_val2, if_pos c23]; exact ⟨rfl, hQ, eZ, hpl, hcn⟩) hP hD d_Ps_readValue_27
  · refine lv_iconst (v := 0) hx hb d_Ps_readValue_8 (by decide) ?_
    exact x_rz E hr hS rfl (by rw [ps_value, hA, ps_and, if_pos c5]; exact ⟨rfl, hQ, eZ, hpl, hcn⟩) hP hD d_Ps_readValue_9
set_option maxRecDepth 100000 in
set_option maxHeartbeats 4000000 in
theorem c_Ps_readNewName (l : Launch) (g : xG) (b0 : Nat) (ws : va_W) {qp qt qm hp ht ta n hm om dm : Nat} {f : Nat → Int32} {rm : Nat → Nat} (hd : xAp qp qt qm) (hn : n ≤ 300) {z : ps_S} (eZ : xPz g ws qp qt qm hp ht ta f n hm om dm rm z) (hpl : z.1 ≤ n) (hcn : z.2.2.2 < 24) (kd : Int32) : xMi l g b0 y_Ps_readNewName b_Ps_readNewName 5 (some .boolean) 2 [.ref hp, .ref hm, .int kd] ws (fun r u => r = (ps_name f n kd z).1 ∧ xQ2 qp qm ws u ∧ xPz g u qp qt qm hp ht ta f n hm om dm rm ((ps_name f n kd z).2) ∧ (ps_name f n kd z).2.1 ≤ n ∧ (ps_name f n kd z).2.2.2.2 ≤ 24) := by
  unfold xMi
  refine x_in (by decide) (Nat.le_of_ble_eq_true rfl) ?_
  intro p e s m below meth c ls E hr hin hP hD hl
  obtain ⟨hx, hb, hml, hown, hts, hK, hZ, hb0, hlocks⟩ := id E
  have hS : va_S (xA b0) s.heap s.heap [] := va_S.rf
  have hl : lv_has ls 5 [(0, .ref hp), (1, .ref hm), (2, .int kd)] := hl
  have hQ : xQ2 qp qm ws ws := xQ2.rf
  have hpl0 := hpl
  refine lv_aload_n hx hb d_Ps_readNewName_0 rfl (lv_at hl 0 rfl) ?_
  refine x_get E hP eZ.1 rfl cl3_in 1 (by decide) wf_Ps_18 rfl d_Ps_readNewName_1 ?_
  refine lv_istore_n (lv' := [(3, .int (nI z.1)), (0, .ref hp), (1, .ref hm), (2, .int kd)]) hx hb d_Ps_readNewName_4 rfl hl (by decide) rfl (fun ls hl => ?_)
  refine lv_aload_n hx hb d_Ps_readNewName_5 rfl (lv_at hl 1 rfl) ?_
  refine lv_iconst (v := 0) hx hb d_Ps_readNewName_6 (by decide) ?_
  refine lv_bipush (v := 29) hx hb d_Ps_readNewName_7 (by decide) ?_
  refine x_cVi (As := [.int 0, .int 29]) (rest := []) E (c_Ps_readNumber l g b0 _ hd hn eZ hpl (by omega) 0 29) wy_Ps_readNumber wl_Ps_60 hP hD hS eZ.1 rfl hl.1 ⟨by decide, by decide⟩ ⟨Nat.le_refl _, Nat.le_refl _⟩ rfl (Nat.le_of_ble_eq_true rfl) d_Ps_readNewName_9 (fun r9 w1 H locs hr9 hP hD hS => ?_)
  obtain ⟨rfl, hq, eZ, hpl, hcn⟩ := hr9
  have hQ := hQ.tr hq
  have hcz : (ps_num f n 0 29 z).2.2.2.2 = z.2.2.2 := by rw [ps_num_z]
  have hin9 := ps_num_in f n 0 29 z
  generalize hB : ps_num f n 0 29 z = B at eZ hpl hcn hcz hin9 ⊢
  refine lv_istore (lv' := [(4, .int B.1), (3, .int (nI z.1)), (0, .ref hp), (1, .ref hm), (2, .int kd)]) hx hb d_Ps_readNewName_12 hl (by decide) rfl (fun ls hl => ?_)
  refine lv_iload hx hb d_Ps_readNewName_14 (lv_at hl 0 rfl) ?_
  refine lv_iconst (v := (-1)) hx hb d_Ps_readNewName_16 (by decide) ?_
  refine lv_icmp_ne (tgt := 22) hx hb d_Ps_readNewName_17 (by decide) (fun c17 => ?_) (fun c17 => ?_)
  · refine lv_aload_n hx hb d_Ps_readNewName_22 rfl (lv_at hl 3 rfl) ?_
    refine lv_iload hx hb d_Ps_readNewName_23 (lv_at hl 0 rfl) ?_
    refine x_cRi (As := [.int B.1]) (rest := []) E (c_Mc_indexOf l g b0 _ eZ.2.2 hcn B.1) wy_Mc_indexOf wl_Ps_64 hP hD hS eZ.2.2.1 rfl hl.1 ⟨by decide, by decide⟩ ⟨Nat.le_refl _, Nat.le_refl _⟩ rfl (Nat.le_of_ble_eq_true rfl) d_Ps_readNewName_25 (fun r25 hr25 => ?_)
    subst hr25
    refine lv_iconst (v := (-1)) hx hb d_Ps_readNewName_28 (by decide) ?_
    refine lv_icmp_eq (tgt := 39) hx hb d_Ps_readNewName_29 (by decide) (fun c29 => ?_) (fun c29 => ?_)
    · obtain ⟨h8, h9⟩ := hin9.resolve_left c17
      obtain ⟨nm, hnm30, hnm⟩ := x_ix (n := 30) (by decide) h8 (fun h7 => absurd (Int32.le_trans h7 h9) (by decide))
      refine lv_aload_n hx hb d_Ps_readNewName_39 rfl (lv_at hl 3 rfl) ?_
      refine lv_iload_n hx hb d_Ps_readNewName_40 rfl (lv_at hl 4 rfl) ?_
      refine lv_iload hx hb d_Ps_readNewName_41 (lv_at hl 0 rfl) ?_
      refine x_cVv (As := [.int kd, .int B.1]) (rest := []) E (c_Mc_addPart l g b0 _ eZ.2.2 (by omega) kd B.1 nm hnm hnm30) wy_Mc_addPart wl_Ps_67 hP hD hS eZ.2.2.1 rfl hl.1 ⟨by decide, by decide⟩ ⟨Nat.le_refl _, Nat.le_refl _⟩ rfl (Nat.le_of_ble_eq_true rfl) d_Ps_readNewName_43 (fun w3 H locs hr43 hP hD hS => ?_)
      obtain ⟨hq, eM⟩ := hr43
      have hQ := hQ.mc hq
      have eZ := eZ.mc hd hq eM
      refine lv_iconst (v := 1) hx hb d_Ps_readNewName_46 (by decide) ?_
      exact x_rz E hr hS rfl (by rw [ps_name, hB, ps_nam2, if_neg c17, if_pos c29]; refine ⟨rfl, hQ, ?_, hpl, by show _ + 1 ≤ 24; omega⟩; rw [ps_new, hnm, nI_clamp (by omega), ← hnm]; exact eZ) hP hD d_Ps_readNewName_47
    · refine lv_aload_n hx hb d_Ps_readNewName_32 rfl (lv_at hl 2 rfl) ?_
      refine lv_iload_n hx hb d_Ps_readNewName_33 rfl (lv_at hl 1 rfl) ?_
      refine x_put E hP hD hS eZ.1 rfl cl3_in cl3_ty cl3_nm 1 (by decide) wf_Ps_18 rfl rfl rfl (Nat.le_of_ble_eq_true rfl) d_Ps_readNewName_34 (fun w3 H locs hU3 hP hD hS => ?_)
      have hQ := hQ.up hU3
      have eZ := eZ.pl hd (p' := z.1) hU3
      refine lv_iconst (v := 0) hx hb d_Ps_readNewName_37 (by decide) ?_
      exact x_rz E hr hS rfl (by rw [ps_name, hB, ps_nam2, if_neg c17, if_neg c29]; exact ⟨rfl, hQ, eZ, hpl0, hcn⟩) hP hD d_Ps_readNewName_38
  · refine lv_iconst (v := 0) hx hb d_Ps_readNewName_20 (by decide) ?_
    exact x_rz E hr hS rfl (by rw [ps_name, hB, ps_nam2, if_pos c17]; exact ⟨rfl, hQ, eZ, hpl, by omega⟩) hP hD d_Ps_readNewName_21
