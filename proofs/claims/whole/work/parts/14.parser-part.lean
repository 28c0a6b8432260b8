def ps_p5 (f : Nat → Int32) (n k : Nat) (z : ps_S) : Int32 × ps_S := ps_and (if k = 3 then ps_value f n 44 5 0 29 z else (1, z)) (ps_skip f n 59)
def ps_p4 (f : Nat → Int32) (n k : Nat) (z : ps_S) : Int32 × ps_S := ps_and (if k = 4 then (1, z) else ps_value f n 62 4 0 29 z) (ps_p5 f n k)
def ps_p3 (f : Nat → Int32) (n k : Nat) (z : ps_S) : Int32 × ps_S := ps_and (if k = 1 then ps_value f n 44 3 1 9999 z else (1, z)) (ps_p4 f n k)
def ps_p2 (f : Nat → Int32) (n k : Nat) (z : ps_S) : Int32 × ps_S := ps_and (ps_value f n 61 2 (xLo k) (xHi k) z) (ps_p3 f n k)
def ps_p1 (f : Nat → Int32) (n k : Nat) (z : ps_S) : Int32 × ps_S := ps_and (ps_name f n (nI k) z) (ps_p2 f n k)
def ps_part (f : Nat → Int32) (n : Nat) (z : ps_S) : Int32 × ps_S := if ps_kind (tx_at f n (nI z.1)) = -1 then (0, z) else ps_p1 f n (ps_kind (tx_at f n (nI z.1))).toNatClampNeg (z.1 + 1, z.2)
theorem ps_kind_in (x : Int32) : ps_kind x = -1 ∨ ps_kind x = 0 ∨ ps_kind x = 1 ∨ ps_kind x = 2 ∨ ps_kind x = 3 ∨ ps_kind x = 4 := by
  unfold ps_kind
  split
  · exact Or.inr (Or.inl rfl)
  · split
    · exact Or.inr (Or.inr (Or.inl rfl))
    · split
      · exact Or.inr (Or.inr (Or.inr (Or.inl rfl)))
      · split
        · exact Or.inr (Or.inr (Or.inr (Or.inr (Or.inl rfl))))
        · split
          · exact Or.inr (Or.inr (Or.inr (Or.inr (Or.inr rfl))))
          · exact Or.inl rfl
theorem ps_kind_m1 : ps_kind (-1) = -1 := by decide
theorem ps_and_1 {z : ps_S} {h : ps_S → Int32 × ps_S} : ps_and (1, z) h = h z := if_neg (show ¬ (1 : Int32) = 0 by decide)
theorem ps_and_cn {a : Int32 × ps_S} {h : ps_S → Int32 × ps_S} {c : Nat} (ha : a.2.2.2.2 = c) (hh : ∀ z : ps_S, z.2.2.2 = c → (h z).2.2.2.2 = c) : (ps_and a h).2.2.2.2 = c := by
  unfold ps_and
  split
  · exact ha
  · exact hh _ ha
theorem ps_value_cn {f : Nat → Int32} {n : Nat} {x : Int32} {k : Nat} {lo hi : Int32} {z : ps_S} : (ps_value f n x k lo hi z).2.2.2.2 = z.2.2.2 := by
  refine ps_and_cn (by rw [ps_skip_z]) (fun y hy => ?_)
  unfold ps_val2
  split
  · show (ps_num f n lo hi y).2.2.2.2 = _
    rw [ps_num_z]; exact hy
  · show (ps_num f n lo hi y).2.2.2.2 = _
    rw [ps_num_z]; exact hy
theorem ps_name_cn {f : Nat → Int32} {n : Nat} {kd : Int32} {z : ps_S} : (ps_name f n kd z).2.2.2.2 ≤ z.2.2.2 + 1 ∧ (¬ (ps_name f n kd z).1 = 0 → (ps_name f n kd z).2.2.2.2 = z.2.2.2 + 1) := by
  unfold ps_name ps_nam2
  split
  · refine ⟨?_, fun h => absurd rfl h⟩
    show (ps_num f n 0 29 z).2.2.2.2 ≤ _
    rw [ps_num_z]; omega
  · split
    · have e : (ps_num f n 0 29 z).2.2.2.2 = z.2.2.2 := by rw [ps_num_z]
      exact ⟨by show (ps_num f n 0 29 z).2.2.2.2 + 1 ≤ _; omega, fun _ => by show (ps_num f n 0 29 z).2.2.2.2 + 1 = _; omega⟩
    · refine ⟨?_, fun h => absurd rfl h⟩
      show (ps_num f n 0 29 z).2.2.2.2 ≤ _
      rw [ps_num_z]; omega
theorem ps_p5_cn {f : Nat → Int32} {n k : Nat} {y : ps_S} : (ps_p5 f n k y).2.2.2.2 = y.2.2.2 := by
  refine ps_and_cn ?_ (fun z hz => by rw [ps_skip_z]; exact hz)
  split
  · exact ps_value_cn
  · rfl
theorem ps_p4_cn {f : Nat → Int32} {n k : Nat} {y : ps_S} : (ps_p4 f n k y).2.2.2.2 = y.2.2.2 := by
  refine ps_and_cn ?_ (fun z hz => by rw [ps_p5_cn]; exact hz)
  split
  · rfl
  · exact ps_value_cn
theorem ps_p3_cn {f : Nat → Int32} {n k : Nat} {y : ps_S} : (ps_p3 f n k y).2.2.2.2 = y.2.2.2 := by
  refine ps_and_cn ?_ (fun z hz => by rw [ps_p4_cn]; exact hz)
  split
  · exact ps_value_cn
  · rfl
theorem ps_p2_cn {f : Nat → Int32} {n k : Nat} {y : ps_S} : (ps_p2 f n k y).2.2.2.2 = y.2.2.2 :=
  ps_and_cn ps_value_cn (fun z hz => by rw [ps_p3_cn]; exact hz)
theorem ps_p1_cn {f : Nat → Int32} {n k : Nat} {z : ps_S} : (ps_p1 f n k z).2.2.2.2 ≤ z.2.2.2 + 1 := by
  have h1 := ps_name_cn (f := f) (n := n) (kd := nI k) (z := z)
  unfold ps_p1 ps_and
  split
  · exact h1.1
  · rename_i h2
    rw [ps_p2_cn]
    exact Nat.le_of_eq (h1.2 h2)
theorem ps_part_cn {f : Nat → Int32} {n : Nat} {z : ps_S} : (ps_part f n z).2.2.2.2 ≤ z.2.2.2 + 1 := by
  unfold ps_part
  split
  · show z.2.2.2 ≤ _
    omega
  · exact ps_p1_cn
set_option maxRecDepth 100000 in
set_option maxHeartbeats 4000000 in
theorem c_Ps_readPart (l : Launch) (g : xG) (b0 : Nat) (ws : va_W) {qp qt qm hp ht ta n hm om dm : Nat} {f : Nat → Int32} {rm : Nat → Nat} (hd : xAp qp qt qm) (hn : n ≤ 300) {z : ps_S} (eZ : xPz g ws qp qt qm hp ht ta f n hm om dm rm z) (hpl : z.1 ≤ n) (hcn : z.2.2.2 < 24) : xMi l g b0 y_Ps_readPart b_Ps_readPart 3 (some .boolean) 3 [.ref hp, .ref hm] ws (fun r u => r = (ps_part f n z).1 ∧ xQ2 qp qm ws u ∧ xPz g u qp qt qm hp ht ta f n hm om dm rm ((ps_part f n z).2) ∧ (ps_part f n z).2.1 ≤ n ∧ (ps_part f n z).2.2.2.2 ≤ 24) := by
  unfold xMi
  refine x_in (by decide) (Nat.le_of_ble_eq_true rfl) ?_
  intro p e s m below meth c ls E hr hin hP hD hl
  obtain ⟨hx, hb, hml, hown, hts, hK, hZ, hb0, hlocks⟩ := id E
  have hS : va_S (xA b0) s.heap s.heap [] := va_S.rf
  have hl : lv_has ls 3 [(0, .ref hp), (1, .ref hm)] := hl
  have hQ : xQ2 qp qm ws ws := xQ2.rf
  have hcn0 := hcn
  have hpl0 := hpl
  refine lv_aload_n hx hb d_Ps_readPart_0 rfl (lv_at hl 0 rfl) ?_
  refine x_get E hP eZ.1 rfl cl3_in 0 (by decide) wf_Ps_12 rfl d_Ps_readPart_1 ?_
  refine lv_aload_n hx hb d_Ps_readPart_4 rfl (lv_at hl 0 rfl) ?_
  refine x_get E hP eZ.1 rfl cl3_in 1 (by decide) wf_Ps_18 rfl d_Ps_readPart_5 ?_
  refine x_cRi (As := [.int (nI z.1)]) (rest := []) E (c_Tx_characterAt l g b0 _ eZ.2.1 hn (nI z.1)) wy_Tx_characterAt wl_Ps_34 hP hD hS eZ.2.1.1 rfl hl.1 ⟨by decide, by decide⟩ ⟨Nat.le_refl _, Nat.le_refl _⟩ rfl (Nat.le_of_ble_eq_true rfl) d_Ps_readPart_8 (fun r8 hr8 => ?_)
  subst hr8
  refine x_cSi (As := [.int (tx_at f n (nI z.1))]) (rest := []) E (c_Ps_kindOf l g b0 _ (tx_at f n (nI z.1))) wy_Ps_kindOf wl_Ps_38 hP hD hS hl.1 ⟨by decide, by decide⟩ ⟨Nat.le_refl _, Nat.le_refl _⟩ rfl (Nat.le_of_ble_eq_true rfl) d_Ps_readPart_11 (fun r11 hr11 => ?_)
  subst hr11
  rcases ps_kind_in (tx_at f n (nI z.1)) with hk0 | hk0 | hk0 | hk0 | hk0 | hk0
  · refine x_top (y := (-1)) hk0 ?_
    refine lv_istore_n (lv' := [(2, .int (-1)), (0, .ref hp), (1, .ref hm)]) hx hb d_Ps_readPart_14 rfl hl (by decide) rfl (fun ls hl => ?_)
    refine lv_iload_n hx hb d_Ps_readPart_15 rfl (lv_at hl 0 rfl) ?_
    refine lv_if_lt (tgt := 35) hx hb d_Ps_readPart_16 (by decide) (fun c16 => ?_) (fun c16 => absurd (by decide) c16)
    refine lv_iconst (v := 0) hx hb d_Ps_readPart_35 (by decide) ?_
    exact x_rz E hr hS rfl (by rw [ps_part, if_pos hk0]; exact ⟨rfl, hQ, eZ, hpl, Nat.le_of_lt hcn⟩) hP hD d_Ps_readPart_36
  · refine x_top (y := 0) hk0 ?_
    refine lv_istore_n (lv' := [(2, .int 0), (0, .ref hp), (1, .ref hm)]) hx hb d_Ps_readPart_14 rfl hl (by decide) rfl (fun ls hl => ?_)
    refine lv_iload_n hx hb d_Ps_readPart_15 rfl (lv_at hl 0 rfl) ?_
    refine lv_if_lt (tgt := 35) hx hb d_Ps_readPart_16 (by decide) (fun c16 => absurd c16 (by decide)) (fun c16 => ?_)
    refine lv_iload_n hx hb d_Ps_readPart_19 rfl (lv_at hl 0 rfl) ?_
    refine x_gets_A_Ps E hS d_Ps_readPart_20 ?_
    refine x_len_A E hS d_Ps_readPart_23 ?_
    refine lv_icmp_ge (tgt := 35) hx hb d_Ps_readPart_24 (by decide) (fun c24 => absurd c24 (by decide)) (fun c24 => ?_)
    refine lv_iload_n hx hb d_Ps_readPart_27 rfl (lv_at hl 0 rfl) ?_
    refine x_gets_B_Ps E hS d_Ps_readPart_28 ?_
    refine x_len_B E hS d_Ps_readPart_31 ?_
    refine lv_icmp_lt (tgt := 37) hx hb d_Ps_readPart_32 (by decide) (fun c32 => ?_) (fun c32 => absurd (by decide) c32)
    refine lv_aload_n hx hb d_Ps_readPart_37 rfl (lv_at hl 1 rfl) ?_
    refine lv_dup hx hb d_Ps_readPart_38 rfl ?_
    refine x_get E hP eZ.1 rfl cl3_in 1 (by decide) wf_Ps_18 rfl d_Ps_readPart_39 ?_
    refine lv_iconst (v := 1) hx hb d_Ps_readPart_42 (by decide) ?_
    refine lv_iadd hx hb d_Ps_readPart_43 ?_
    refine x_top (y := nI (z.1 + 1)) (nI_1 z.1) ?_
    have hpl : z.1 + 1 ≤ n := tx_at_ne hpl hn (fun q => by rw [q, ps_kind_m1] at hk0; exact absurd hk0 (by decide))
    refine x_put E hP hD hS eZ.1 rfl cl3_in cl3_ty cl3_nm 1 (by decide) wf_Ps_18 rfl rfl rfl (Nat.le_of_ble_eq_true rfl) d_Ps_readPart_44 (fun w2 H locs hU2 hP hD hS => ?_)
    have hQ := hQ.up hU2
    have eZ := eZ.pl hd (p' := z.1 + 1) hU2
    refine lv_aload_n hx hb d_Ps_readPart_47 rfl (lv_at hl 1 rfl) ?_
    refine lv_aload_n hx hb d_Ps_readPart_48 rfl (lv_at hl 2 rfl) ?_
    refine lv_iload_n hx hb d_Ps_readPart_49 rfl (lv_at hl 0 rfl) ?_
    refine x_cVi (As := [.ref hm, .int 0]) (rest := []) E (c_Ps_readNewName l g b0 _ hd hn eZ hpl hcn (nI 0)) wy_Ps_readNewName wl_Ps_48 hP hD hS eZ.1 rfl hl.1 ⟨by decide, by decide⟩ ⟨Nat.le_refl _, Nat.le_refl _⟩ rfl (Nat.le_of_ble_eq_true rfl) d_Ps_readPart_50 (fun r50 w3 H locs hr50 hP hD hS => ?_)
    obtain ⟨rfl, hq, eZ, hpl, hcn⟩ := hr50
    have hQ := hQ.tr hq
    have hc9 := ps_name_cn (f := f) (n := n) (kd := nI 0) (z := (z.1 + 1, z.2))
    generalize hA50 : ps_name f n (nI 0) (z.1 + 1, z.2) = A50 at eZ hpl hcn hc9 ⊢
    refine lv_if_eq (tgt := 148) hx hb d_Ps_readPart_53 (by decide) (fun c53 => ?_) (fun c53 => ?_)
    · refine lv_iconst (v := 0) hx hb d_Ps_readPart_148 (by decide) ?_
      exact x_rz E hr hS rfl (by rw [ps_part, if_neg (by rw [hk0]; decide), hk0, show ((0 : Int32)).toNatClampNeg = 0 from rfl, ps_p1, hA50, ps_and, if_pos c53]; exact ⟨rfl, hQ, eZ, hpl, hcn⟩) hP hD d_Ps_readPart_149
    · have hc1 := hc9.2 c53
      replace hc1 := Nat.le_of_eq hc1.symm
      replace hc1 := Nat.le_trans (Nat.le_add_left 1 _) hc1
      refine lv_aload_n hx hb d_Ps_readPart_56 rfl (lv_at hl 1 rfl) ?_
      refine lv_aload_n hx hb d_Ps_readPart_57 rfl (lv_at hl 2 rfl) ?_
      refine lv_bipush (v := 61) hx hb d_Ps_readPart_58 (by decide) ?_
      refine lv_iconst (v := 2) hx hb d_Ps_readPart_60 (by decide) ?_
      refine x_gets_A_Ps E hS d_Ps_readPart_61 ?_
      refine lv_iload_n hx hb d_Ps_readPart_64 rfl (lv_at hl 0 rfl) ?_
      refine x_tab_A E hS rfl (by decide) d_Ps_readPart_65 ?_
      refine x_gets_B_Ps E hS d_Ps_readPart_66 ?_
      refine lv_iload_n hx hb d_Ps_readPart_69 rfl (lv_at hl 0 rfl) ?_
      refine x_tab_B E hS rfl (by decide) d_Ps_readPart_70 ?_
      refine x_cVi (As := [.ref hm, .int 61, .int 2, .int (xLo 0), .int (xHi 0)]) (rest := []) E (c_Ps_readValue l g b0 _ hd hn eZ hpl hcn hc1 61 2 (xLo 0) (xHi 0) (by decide) 2 rfl (by decide)) wy_Ps_readValue wl_Ps_52 hP hD hS eZ.1 rfl hl.1 ⟨by decide, by decide⟩ ⟨Nat.le_refl _, Nat.le_refl _⟩ rfl (Nat.le_of_ble_eq_true rfl) d_Ps_readPart_71 (fun r71 w4 H locs hr71 hP hD hS => ?_)
      obtain ⟨rfl, hq, eZ, hpl, hcn⟩ := hr71
      have hQ := hQ.tr hq
      have hc1 : 1 ≤ (ps_value f n 61 2 (xLo 0) (xHi 0) A50.2).2.2.2.2 := by rw [ps_value_cn]; exact hc1
      generalize hA71 : ps_value f n 61 2 (xLo 0) (xHi 0) A50.2 = A71 at eZ hpl hcn hc1 ⊢
      refine lv_if_eq (tgt := 148) hx hb d_Ps_readPart_74 (by decide) (fun c74 => ?_) (fun c74 => ?_)
      · refine lv_iconst (v := 0) hx hb d_Ps_readPart_148 (by decide) ?_
        exact x_rz E hr hS rfl (by rw [ps_part, if_neg (by rw [hk0]; decide), hk0, show ((0 : Int32)).toNatClampNeg = 0 from rfl, ps_p1, hA50, ps_and, if_neg c53, ps_p2, hA71, ps_and, if_pos c74]; exact ⟨rfl, hQ, eZ, hpl, hcn⟩) hP hD d_Ps_readPart_149
      · refine lv_iload_n hx hb d_Ps_readPart_77 rfl (lv_at hl 0 rfl) ?_
        refine lv_iconst (v := 1) hx hb d_Ps_readPart_78 (by decide) ?_
        refine lv_icmp_ne (tgt := 97) hx hb d_Ps_readPart_79 (by decide) (fun c79 => ?_) (fun c79 => absurd c79 (by decide))
        refine lv_iload_n hx hb d_Ps_readPart_97 rfl (lv_at hl 0 rfl) ?_
        refine lv_iconst (v := 4) hx hb d_Ps_readPart_98 (by decide) ?_
        refine lv_icmp_eq (tgt := 116) hx hb d_Ps_readPart_99 (by decide) (fun c99 => absurd c99 (by decide)) (fun c99 => ?_)
        refine lv_aload_n hx hb d_Ps_readPart_102 rfl (lv_at hl 1 rfl) ?_
        refine lv_aload_n hx hb d_Ps_readPart_103 rfl (lv_at hl 2 rfl) ?_
        refine lv_bipush (v := 62) hx hb d_Ps_readPart_104 (by decide) ?_
        refine lv_iconst (v := 4) hx hb d_Ps_readPart_106 (by decide) ?_
        refine lv_iconst (v := 0) hx hb d_Ps_readPart_107 (by decide) ?_
        refine lv_bipush (v := 29) hx hb d_Ps_readPart_108 (by decide) ?_
        refine x_cVi (As := [.ref hm, .int 62, .int 4, .int 0, .int 29]) (rest := []) E (c_Ps_readValue l g b0 _ hd hn eZ hpl hcn hc1 62 4 0 29 (by decide) 4 rfl (by decide)) wy_Ps_readValue wl_Ps_52 hP hD hS eZ.1 rfl hl.1 ⟨by decide, by decide⟩ ⟨Nat.le_refl _, Nat.le_refl _⟩ rfl (Nat.le_of_ble_eq_true rfl) d_Ps_readPart_110 (fun r110 w5 H locs hr110 hP hD hS => ?_)
        obtain ⟨rfl, hq, eZ, hpl, hcn⟩ := hr110
        have hQ := hQ.tr hq
        have hc1 : 1 ≤ (ps_value f n 62 4 0 29 A71.2).2.2.2.2 := by rw [ps_value_cn]; exact hc1
        generalize hA110 : ps_value f n 62 4 0 29 A71.2 = A110 at eZ hpl hcn hc1 ⊢
        refine lv_if_eq (tgt := 148) hx hb d_Ps_readPart_113 (by decide) (fun c113 => ?_) (fun c113 => ?_)
        · refine lv_iconst (v := 0) hx hb d_Ps_readPart_148 (by decide) ?_
          exact x_rz E hr hS rfl (by rw [ps_part, if_neg (by rw [hk0]; decide), hk0, show ((0 : Int32)).toNatClampNeg = 0 from rfl, ps_p1, hA50, ps_and, if_neg c53, ps_p2, hA71, ps_and, if_neg c74, ps_p3, if_neg (by decide), ps_and_1, ps_p4, if_neg (by decide), hA110, ps_and, if_pos c113]; exact ⟨rfl, hQ, eZ, hpl, hcn⟩) hP hD d_Ps_readPart_149
        · refine lv_iload_n hx hb d_Ps_readPart_116 rfl (lv_at hl 0 rfl) ?_
          refine lv_iconst (v := 3) hx hb d_Ps_readPart_117 (by decide) ?_
          refine lv_icmp_ne (tgt := 135) hx hb d_Ps_readPart_118 (by decide) (fun c118 => ?_) (fun c118 => absurd c118 (by decide))
          refine lv_aload_n hx hb d_Ps_readPart_135 rfl (lv_at hl 1 rfl) ?_
          refine lv_bipush (v := 59) hx hb d_Ps_readPart_136 (by decide) ?_
          refine x_cVi (As := [.int 59]) (rest := []) E (c_Ps_skip l g b0 _ hd hn eZ hpl hcn 59 (by decide)) wy_Ps_skip wl_Ps_56 hP hD hS eZ.1 rfl hl.1 ⟨by decide, by decide⟩ ⟨Nat.le_refl _, Nat.le_refl _⟩ rfl (Nat.le_of_ble_eq_true rfl) d_Ps_readPart_138 (fun r138 w6 H locs hr138 hP hD hS => ?_)
          obtain ⟨rfl, hq, eZ, hpl, hcn⟩ := hr138
          have hQ := hQ.tr hq
          have h01 := ps_skip_01 f n 59 A110.2
          generalize hA138 : ps_skip f n 59 A110.2 = A138 at eZ hpl hcn h01 ⊢
          refine lv_if_eq (tgt := 148) hx hb d_Ps_readPart_141 (by decide) (fun c141 => ?_) (fun c141 => ?_)
          · refine lv_iconst (v := 0) hx hb d_Ps_readPart_148 (by decide) ?_
            exact x_rz E hr hS rfl (by rw [ps_part, if_neg (by rw [hk0]; decide), hk0, show ((0 : Int32)).toNatClampNeg = 0 from rfl, ps_p1, hA50, ps_and, if_neg c53, ps_p2, hA71, ps_and, if_neg c74, ps_p3, if_neg (by decide), ps_and_1, ps_p4, if_neg (by decide), hA110, ps_and, if_neg c113, ps_p5, if_neg (by decide), ps_and_1, hA138]; exact ⟨c141.symm, hQ, eZ, hpl, hcn⟩) hP hD d_Ps_readPart_149
          · refine lv_iconst (v := 1) hx hb d_Ps_readPart_144 (by decide) ?_
            refine lv_goto (tgt := 149) hx hb d_Ps_readPart_145 (by decide) ?_
            exact x_rz E hr hS rfl (by rw [ps_part, if_neg (by rw [hk0]; decide), hk0, show ((0 : Int32)).toNatClampNeg = 0 from rfl, ps_p1, hA50, ps_and, if_neg c53, ps_p2, hA71, ps_and, if_neg c74, ps_p3, if_neg (by decide), ps_and_1, ps_p4, if_neg (by decide), hA110, ps_and, if_neg c113, ps_p5, if_neg (by decide), ps_and_1, hA138]; exact ⟨(h01.resolve_left c141).symm, hQ, eZ, hpl, hcn⟩) hP hD d_Ps_readPart_149
  · refine x_top (y := 1) hk0 ?_
    refine lv_istore_n (lv' := [(2, .int 1), (0, .ref hp), (1, .ref hm)]) hx hb d_Ps_readPart_14 rfl hl (by decide) rfl (fun ls hl => ?_)
    refine lv_iload_n hx hb d_Ps_readPart_15 rfl (lv_at hl 0 rfl) ?_
    refine lv_if_lt (tgt := 35) hx hb d_Ps_readPart_16 (by decide) (fun c16 => absurd c16 (by decide)) (fun c16 => ?_)
    refine lv_iload_n hx hb d_Ps_readPart_19 rfl (lv_at hl 0 rfl) ?_
    refine x_gets_A_Ps E hS d_Ps_readPart_20 ?_
    refine x_len_A E hS d_Ps_readPart_23 ?_
    refine lv_icmp_ge (tgt := 35) hx hb d_Ps_readPart_24 (by decide) (fun c24 => absurd c24 (by decide)) (fun c24 => ?_)
    refine lv_iload_n hx hb d_Ps_readPart_27 rfl (lv_at hl 0 rfl) ?_
    refine x_gets_B_Ps E hS d_Ps_readPart_28 ?_
    refine x_len_B E hS d_Ps_readPart_31 ?_
    refine lv_icmp_lt (tgt := 37) hx hb d_Ps_readPart_32 (by decide) (fun c32 => ?_) (fun c32 => absurd (by decide) c32)
    refine lv_aload_n hx hb d_Ps_readPart_37 rfl (lv_at hl 1 rfl) ?_
    refine lv_dup hx hb d_Ps_readPart_38 rfl ?_
    refine x_get E hP eZ.1 rfl cl3_in 1 (by decide) wf_Ps_18 rfl d_Ps_readPart_39 ?_
    refine lv_iconst (v := 1) hx hb d_Ps_readPart_42 (by decide) ?_
    refine lv_iadd hx hb d_Ps_readPart_43 ?_
    refine x_top (y := nI (z.1 + 1)) (nI_1 z.1) ?_
    have hpl : z.1 + 1 ≤ n := tx_at_ne hpl hn (fun q => by rw [q, ps_kind_m1] at hk0; exact absurd hk0 (by decide))
    refine x_put E hP hD hS eZ.1 rfl cl3_in cl3_ty cl3_nm 1 (by decide) wf_Ps_18 rfl rfl rfl (Nat.le_of_ble_eq_true rfl) d_Ps_readPart_44 (fun w2 H locs hU2 hP hD hS => ?_)
    have hQ := hQ.up hU2
    have eZ := eZ.pl hd (p' := z.1 + 1) hU2
    refine lv_aload_n hx hb d_Ps_readPart_47 rfl (lv_at hl 1 rfl) ?_
    refine lv_aload_n hx hb d_Ps_readPart_48 rfl (lv_at hl 2 rfl) ?_
    refine lv_iload_n hx hb d_Ps_readPart_49 rfl (lv_at hl 0 rfl) ?_
    refine x_cVi (As := [.ref hm, .int 1]) (rest := []) E (c_Ps_readNewName l g b0 _ hd hn eZ hpl hcn (nI 1)) wy_Ps_readNewName wl_Ps_48 hP hD hS eZ.1 rfl hl.1 ⟨by decide, by decide⟩ ⟨Nat.le_refl _, Nat.le_refl _⟩ rfl (Nat.le_of_ble_eq_true rfl) d_Ps_readPart_50 (fun r50 w3 H locs hr50 hP hD hS => ?_)
    obtain ⟨rfl, hq, eZ, hpl, hcn⟩ := hr50
    have hQ := hQ.tr hq
    have hc9 := ps_name_cn (f := f) (n := n) (kd := nI 1) (z := (z.1 + 1, z.2))
    generalize hA50 : ps_name f n (nI 1) (z.1 + 1, z.2) = A50 at eZ hpl hcn hc9 ⊢
    refine lv_if_eq (tgt := 148) hx hb d_Ps_readPart_53 (by decide) (fun c53 => ?_) (fun c53 => ?_)
    · refine lv_iconst (v := 0) hx hb d_Ps_readPart_148 (by decide) ?_
      exact x_rz E hr hS rfl (by rw [ps_part, if_neg (by rw [hk0]; decide), hk0, show ((1 : Int32)).toNatClampNeg = 1 from rfl, ps_p1, hA50, ps_and, if_pos c53]; exact ⟨rfl, hQ, eZ, hpl, hcn⟩) hP hD d_Ps_readPart_149
    · have hc1 := hc9.2 c53
      replace hc1 := Nat.le_of_eq hc1.symm
      replace hc1 := Nat.le_trans (Nat.le_add_left 1 _) hc1
      refine lv_aload_n hx hb d_Ps_readPart_56 rfl (lv_at hl 1 rfl) ?_
      refine lv_aload_n hx hb d_Ps_readPart_57 rfl (lv_at hl 2 rfl) ?_
      refine lv_bipush (v := 61) hx hb d_Ps_readPart_58 (by decide) ?_
      refine lv_iconst (v := 2) hx hb d_Ps_readPart_60 (by decide) ?_
      refine x_gets_A_Ps E hS d_Ps_readPart_61 ?_
      refine lv_iload_n hx hb d_Ps_readPart_64 rfl (lv_at hl 0 rfl) ?_
      refine x_tab_A E hS rfl (by decide) d_Ps_readPart_65 ?_
      refine x_gets_B_Ps E hS d_Ps_readPart_66 ?_
      refine lv_iload_n hx hb d_Ps_readPart_69 rfl (lv_at hl 0 rfl) ?_
      refine x_tab_B E hS rfl (by decide) d_Ps_readPart_70 ?_
      refine x_cVi (As := [.ref hm, .int 61, .int 2, .int (xLo 1), .int (xHi 1)]) (rest := []) E (c_Ps_readValue l g b0 _ hd hn eZ hpl hcn hc1 61 2 (xLo 1) (xHi 1) (by decide) 2 rfl (by decide)) wy_Ps_readValue wl_Ps_52 hP hD hS eZ.1 rfl hl.1 ⟨by decide, by decide⟩ ⟨Nat.le_refl _, Nat.le_refl _⟩ rfl (Nat.le_of_ble_eq_true rfl) d_Ps_readPart_71 (fun r71 w4 H locs hr71 hP hD hS => ?_)
      obtain ⟨rfl, hq, eZ, hpl, hcn⟩ := hr71
      have hQ := hQ.tr hq
      have hc1 : 1 ≤ (ps_value f n 61 2 (xLo 1) (xHi 1) A50.2).2.2.2.2 := by rw [ps_value_cn]; exact hc1
      generalize hA71 : ps_value f n 61 2 (xLo 1) (xHi 1) A50.2 = A71 at eZ hpl hcn hc1 ⊢
      refine lv_if_eq (tgt := 148) hx hb d_Ps_readPart_74 (by decide) (fun c74 => ?_) (fun c74 => ?_)
      · refine lv_iconst (v := 0) hx hb d_Ps_readPart_148 (by decide) ?_
        exact x_rz E hr hS rfl (by rw [ps_part, if_neg (by rw [hk0]; decide), hk0, show ((1 : Int32)).toNatClampNeg = 1 from rfl, ps_p1, hA50, ps_and, if_neg c53, ps_p2, hA71, ps_and, if_pos c74]; exact ⟨rfl, hQ, eZ, hpl, hcn⟩) hP hD d_Ps_readPart_149
      · refine lv_iload_n hx hb d_Ps_readPart_77 rfl (lv_at hl 0 rfl) ?_
        refine lv_iconst (v := 1) hx hb d_Ps_readPart_78 (by decide) ?_
        refine lv_icmp_ne (tgt := 97) hx hb d_Ps_readPart_79 (by decide) (fun c79 => absurd (by decide) c79) (fun c79 => ?_)
        refine lv_aload_n hx hb d_Ps_readPart_82 rfl (lv_at hl 1 rfl) ?_
        refine lv_aload_n hx hb d_Ps_readPart_83 rfl (lv_at hl 2 rfl) ?_
        refine lv_bipush (v := 44) hx hb d_Ps_readPart_84 (by decide) ?_
        refine lv_iconst (v := 3) hx hb d_Ps_readPart_86 (by decide) ?_
        refine lv_iconst (v := 1) hx hb d_Ps_readPart_87 (by decide) ?_
        refine lv_sipush (v := 9999) hx hb d_Ps_readPart_88 (by decide) ?_
        refine x_cVi (As := [.ref hm, .int 44, .int 3, .int 1, .int 9999]) (rest := []) E (c_Ps_readValue l g b0 _ hd hn eZ hpl hcn hc1 44 3 1 9999 (by decide) 3 rfl (by decide)) wy_Ps_readValue wl_Ps_52 hP hD hS eZ.1 rfl hl.1 ⟨by decide, by decide⟩ ⟨Nat.le_refl _, Nat.le_refl _⟩ rfl (Nat.le_of_ble_eq_true rfl) d_Ps_readPart_91 (fun r91 w5 H locs hr91 hP hD hS => ?_)
        obtain ⟨rfl, hq, eZ, hpl, hcn⟩ := hr91
        have hQ := hQ.tr hq
        have hc1 : 1 ≤ (ps_value f n 44 3 1 9999 A71.2).2.2.2.2 := by rw [ps_value_cn]; exact hc1
        generalize hA91 : ps_value f n 44 3 1 9999 A71.2 = A91 at eZ hpl hcn hc1 ⊢
        refine lv_if_eq (tgt := 148) hx hb d_Ps_readPart_94 (by decide) (fun c94 => ?_) (fun c94 => ?_)
        · refine lv_iconst (v := 0) hx hb d_Ps_readPart_148 (by decide) ?_
          exact x_rz E hr hS rfl (by rw [ps_part, if_neg (by rw [hk0]; decide), hk0, show ((1 : Int32)).toNatClampNeg = 1 from rfl, ps_p1, hA50, ps_and, if_neg c53, ps_p2, hA71, ps_and, if_neg c74, ps_p3, if_pos rfl, hA91, ps_and, if_pos c94]; exact ⟨rfl, hQ, eZ, hpl, hcn⟩) hP hD d_Ps_readPart_149
        · refine lv_iload_n hx hb d_Ps_readPart_97 rfl (lv_at hl 0 rfl) ?_
          refine lv_iconst (v := 4) hx hb d_Ps_readPart_98 (by decide) ?_
          refine lv_icmp_eq (tgt := 116) hx hb d_Ps_readPart_99 (by decide) (fun c99 => absurd c99 (by decide)) (fun c99 => ?_)
          refine lv_aload_n hx hb d_Ps_readPart_102 rfl (lv_at hl 1 rfl) ?_
          refine lv_aload_n hx hb d_Ps_readPart_103 rfl (lv_at hl 2 rfl) ?_
          refine lv_bipush (v := 62) hx hb d_Ps_readPart_104 (by decide) ?_
          refine lv_iconst (v := 4) hx hb d_Ps_readPart_106 (by decide) ?_
          refine lv_iconst (v := 0) hx hb d_Ps_readPart_107 (by decide) ?_
          refine lv_bipush (v := 29) hx hb d_Ps_readPart_108 (by decide) ?_
          refine x_cVi (As := [.ref hm, .int 62, .int 4, .int 0, .int 29]) (rest := []) E (c_Ps_readValue l g b0 _ hd hn eZ hpl hcn hc1 62 4 0 29 (by decide) 4 rfl (by decide)) wy_Ps_readValue wl_Ps_52 hP hD hS eZ.1 rfl hl.1 ⟨by decide, by decide⟩ ⟨Nat.le_refl _, Nat.le_refl _⟩ rfl (Nat.le_of_ble_eq_true rfl) d_Ps_readPart_110 (fun r110 w6 H locs hr110 hP hD hS => ?_)
          obtain ⟨rfl, hq, eZ, hpl, hcn⟩ := hr110
          have hQ := hQ.tr hq
          have hc1 : 1 ≤ (ps_value f n 62 4 0 29 A91.2).2.2.2.2 := by rw [ps_value_cn]; exact hc1
          generalize hA110 : ps_value f n 62 4 0 29 A91.2 = A110 at eZ hpl hcn hc1 ⊢
          refine lv_if_eq (tgt := 148) hx hb d_Ps_readPart_113 (by decide) (fun c113 => ?_) (fun c113 => ?_)
          · refine lv_iconst (v := 0) hx hb d_Ps_readPart_148 (by decide) ?_
            exact x_rz E hr hS rfl (by rw [ps_part, if_neg (by rw [hk0]; decide), hk0, show ((1 : Int32)).toNatClampNeg = 1 from rfl, ps_p1, hA50, ps_and, if_neg c53, ps_p2, hA71, ps_and, if_neg c74, ps_p3, if_pos rfl, hA91, ps_and, if_neg c94, ps_p4, if_neg (by decide), hA110, ps_and, if_pos c113]; exact ⟨rfl, hQ, eZ, hpl, hcn⟩) hP hD d_Ps_readPart_149
          · refine lv_iload_n hx hb d_Ps_readPart_116 rfl (lv_at hl 0 rfl) ?_
            refine lv_iconst (v := 3) hx hb d_Ps_readPart_117 (by decide) ?_
            refine lv_icmp_ne (tgt := 135) hx hb d_Ps_readPart_118 (by decide) (fun c118 => ?_) (fun c118 => absurd c118 (by decide))
            refine lv_aload_n hx hb d_Ps_readPart_135 rfl (lv_at hl 1 rfl) ?_
            refine lv_bipush (v := 59) hx hb d_Ps_readPart_136 (by decide) ?_
            refine x_cVi (As := [.int 59]) (rest := []) E (c_Ps_skip l g b0 _ hd hn eZ hpl hcn 59 (by decide)) wy_Ps_skip wl_Ps_56 hP hD hS eZ.1 rfl hl.1 ⟨by decide, by decide⟩ ⟨Nat.le_refl _, Nat.le_refl _⟩ rfl (Nat.le_of_ble_eq_true rfl) d_Ps_readPart_138 (fun r138 w7 H locs hr138 hP hD hS => ?_)
            obtain ⟨rfl, hq, eZ, hpl, hcn⟩ := hr138
            have hQ := hQ.tr hq
            have h01 := ps_skip_01 f n 59 A110.2
            generalize hA138 : ps_skip f n 59 A110.2 = A138 at eZ hpl hcn h01 ⊢
            refine lv_if_eq (tgt := 148) hx hb d_Ps_readPart_141 (by decide) (fun c141 => ?_) (fun c141 => ?_)
            · refine lv_iconst (v := 0) hx hb d_Ps_readPart_148 (by decide) ?_
              exact x_rz E hr hS rfl (by rw [ps_part, if_neg (by rw [hk0]; decide), hk0, show ((1 : Int32)).toNatClampNeg = 1 from rfl, ps_p1, hA50, ps_and, if_neg c53, ps_p2, hA71, ps_and, if_neg c74, ps_p3, if_pos rfl, hA91, ps_and, if_neg c94, ps_p4, if_neg (by decide), hA110, ps_and, if_neg c113, ps_p5, if_neg (by decide), ps_and_1, hA138]; exact ⟨c141.symm, hQ, eZ, hpl, hcn⟩) hP hD d_Ps_readPart_149
            · refine lv_iconst (v := 1) hx hb d_Ps_readPart_144 (by decide) ?_
              refine lv_goto (tgt := 149) hx hb d_Ps_readPart_145 (by decide) ?_
              exact x_rz E hr hS rfl (by rw [ps_part, if_neg (by rw [hk0]; decide), hk0, show ((1 : Int32)).toNatClampNeg = 1 from rfl, ps_p1, hA50, ps_and, if_neg c53, ps_p2, hA71, ps_and, if_neg c74, ps_p3, if_pos rfl, hA91, ps_and, if_neg c94, ps_p4, if_neg (by decide), hA110, ps_and, if_neg c113, ps_p5, if_neg (by decide), ps_and_1, hA138]; exact ⟨(h01.resolve_left c141).symm, hQ, eZ, hpl, hcn⟩) hP hD d_Ps_readPart_149
  · refine x_top (y := 2) hk0 ?_
    refine lv_istore_n (lv' := [(2, .int 2), (0, .ref hp), (1, .ref hm)]) hx hb d_Ps_readPart_14 rfl hl (by decide) rfl (fun ls hl => ?_)
    refine lv_iload_n hx hb d_Ps_readPart_15 rfl (lv_at hl 0 rfl) ?_
    refine lv_if_lt (tgt := 35) hx hb d_Ps_readPart_16 (by decide) (fun c16 => absurd c16 (by decide)) (fun c16 => ?_)
    refine lv_iload_n hx hb d_Ps_readPart_19 rfl (lv_at hl 0 rfl) ?_
    refine x_gets_A_Ps E hS d_Ps_readPart_20 ?_
    refine x_len_A E hS d_Ps_readPart_23 ?_
    refine lv_icmp_ge (tgt := 35) hx hb d_Ps_readPart_24 (by decide) (fun c24 => absurd c24 (by decide)) (fun c24 => ?_)
    refine lv_iload_n hx hb d_Ps_readPart_27 rfl (lv_at hl 0 rfl) ?_
    refine x_gets_B_Ps E hS d_Ps_readPart_28 ?_
    refine x_len_B E hS d_Ps_readPart_31 ?_
    refine lv_icmp_lt (tgt := 37) hx hb d_Ps_readPart_32 (by decide) (fun c32 => ?_) (fun c32 => absurd (by decide) c32)
    refine lv_aload_n hx hb d_Ps_readPart_37 rfl (lv_at hl 1 rfl) ?_
    refine lv_dup hx hb d_Ps_readPart_38 rfl ?_
    refine x_get E hP eZ.1 rfl cl3_in 1 (by decide) wf_Ps_18 rfl d_Ps_readPart_39 ?_
    refine lv_iconst (v := 1) hx hb d_Ps_readPart_42 (by decide) ?_
    refine lv_iadd hx hb d_Ps_readPart_43 ?_
    refine x_top (y := nI (z.1 + 1)) (nI_1 z.1) ?_
    have hpl : z.1 + 1 ≤ n := tx_at_ne hpl hn (fun q => by rw [q, ps_kind_m1] at hk0; exact absurd hk0 (by decide))
    refine x_put E hP hD hS eZ.1 rfl cl3_in cl3_ty cl3_nm 1 (by decide) wf_Ps_18 rfl rfl rfl (Nat.le_of_ble_eq_true rfl) d_Ps_readPart_44 (fun w2 H locs hU2 hP hD hS => ?_)
    have hQ := hQ.up hU2
    have eZ := eZ.pl hd (p' := z.1 + 1) hU2
    refine lv_aload_n hx hb d_Ps_readPart_47 rfl (lv_at hl 1 rfl) ?_
    refine lv_aload_n hx hb d_Ps_readPart_48 rfl (lv_at hl 2 rfl) ?_
    refine lv_iload_n hx hb d_Ps_readPart_49 rfl (lv_at hl 0 rfl) ?_
    refine x_cVi (As := [.ref hm, .int 2]) (rest := []) E (c_Ps_readNewName l g b0 _ hd hn eZ hpl hcn (nI 2)) wy_Ps_readNewName wl_Ps_48 hP hD hS eZ.1 rfl hl.1 ⟨by decide, by decide⟩ ⟨Nat.le_refl _, Nat.le_refl _⟩ rfl (Nat.le_of_ble_eq_true rfl) d_Ps_readPart_50 (fun r50 w3 H locs hr50 hP hD hS => ?_)
    obtain ⟨rfl, hq, eZ, hpl, hcn⟩ := hr50
    have hQ := hQ.tr hq
    have hc9 := ps_name_cn (f := f) (n := n) (kd := nI 2) (z := (z.1 + 1, z.2))
    generalize hA50 : ps_name f n (nI 2) (z.1 + 1, z.2) = A50 at eZ hpl hcn hc9 ⊢
    refine lv_if_eq (tgt := 148) hx hb d_Ps_readPart_53 (by decide) (fun c53 => ?_) (fun c53 => ?_)
    · refine lv_iconst (v := 0) hx hb d_Ps_readPart_148 (by decide) ?_
      exact x_rz E hr hS rfl (by rw [ps_part, if_neg (by rw [hk0]; decide), hk0, show ((2 : Int32)).toNatClampNeg = 2 from rfl, ps_p1, hA50, ps_and, if_pos c53]; exact ⟨rfl, hQ, eZ, hpl, hcn⟩) hP hD d_Ps_readPart_149
    · have hc1 := hc9.2 c53
      replace hc1 := Nat.le_of_eq hc1.symm
      replace hc1 := Nat.le_trans (Nat.le_add_left 1 _) hc1
      refine lv_aload_n hx hb d_Ps_readPart_56 rfl (lv_at hl 1 rfl) ?_
      refine lv_aload_n hx hb d_Ps_readPart_57 rfl (lv_at hl 2 rfl) ?_
      refine lv_bipush (v := 61) hx hb d_Ps_readPart_58 (by decide) ?_
      refine lv_iconst (v := 2) hx hb d_Ps_readPart_60 (by decide) ?_
      refine x_gets_A_Ps E hS d_Ps_readPart_61 ?_
      refine lv_iload_n hx hb d_Ps_readPart_64 rfl (lv_at hl 0 rfl) ?_
      refine x_tab_A E hS rfl (by decide) d_Ps_readPart_65 ?_
      refine x_gets_B_Ps E hS d_Ps_readPart_66 ?_
      refine lv_iload_n hx hb d_Ps_readPart_69 rfl (lv_at hl 0 rfl) ?_
      refine x_tab_B E hS rfl (by decide) d_Ps_readPart_70 ?_
      refine x_cVi (As := [.ref hm, .int 61, .int 2, .int (xLo 2), .int (xHi 2)]) (rest := []) E (c_Ps_readValue l g b0 _ hd hn eZ hpl hcn hc1 61 2 (xLo 2) (xHi 2) (by decide) 2 rfl (by decide)) wy_Ps_readValue wl_Ps_52 hP hD hS eZ.1 rfl hl.1 ⟨by decide, by decide⟩ ⟨Nat.le_refl _, Nat.le_refl _⟩ rfl (Nat.le_of_ble_eq_true rfl) d_Ps_readPart_71 (fun r71 w4 H locs hr71 hP hD hS => ?_)
      obtain ⟨rfl, hq, eZ, hpl, hcn⟩ := hr71
      have hQ := hQ.tr hq
      have hc1 : 1 ≤ (ps_value f n 61 2 (xLo 2) (xHi 2) A50.2).2.2.2.2 := by rw [ps_value_cn]; exact hc1
      generalize hA71 : ps_value f n 61 2 (xLo 2) (xHi 2) A50.2 = A71 at eZ hpl hcn hc1 ⊢
      refine lv_if_eq (tgt := 148) hx hb d_Ps_readPart_74 (by decide) (fun c74 => ?_) (fun c74 => ?_)
      · refine lv_iconst (v := 0) hx hb d_Ps_readPart_148 (by decide) ?_
        exact x_rz E hr hS rfl (by rw [ps_part, if_neg (by rw [hk0]; decide), hk0, show ((2 : Int32)).toNatClampNeg = 2 from rfl, ps_p1, hA50, ps_and, if_neg c53, ps_p2, hA71, ps_and, if_pos c74]; exact ⟨rfl, hQ, eZ, hpl, hcn⟩) hP hD d_Ps_readPart_149
      · refine lv_iload_n hx hb d_Ps_readPart_77 rfl (lv_at hl 0 rfl) ?_
        refine lv_iconst (v := 1) hx hb d_Ps_readPart_78 (by decide) ?_
        refine lv_icmp_ne (tgt := 97) hx hb d_Ps_readPart_79 (by decide) (fun c79 => ?_) (fun c79 => absurd c79 (by decide))
        refine lv_iload_n hx hb d_Ps_readPart_97 rfl (lv_at hl 0 rfl) ?_
        refine lv_iconst (v := 4) hx hb d_Ps_readPart_98 (by decide) ?_
        refine lv_icmp_eq (tgt := 116) hx hb d_Ps_readPart_99 (by decide) (fun c99 => absurd c99 (by decide)) (fun c99 => ?_)
        refine lv_aload_n hx hb d_Ps_readPart_102 rfl (lv_at hl 1 rfl) ?_
        refine lv_aload_n hx hb d_Ps_readPart_103 rfl (lv_at hl 2 rfl) ?_
        refine lv_bipush (v := 62) hx hb d_Ps_readPart_104 (by decide) ?_
        refine lv_iconst (v := 4) hx hb d_Ps_readPart_106 (by decide) ?_
        refine lv_iconst (v := 0) hx hb d_Ps_readPart_107 (by decide) ?_
        refine lv_bipush (v := 29) hx hb d_Ps_readPart_108 (by decide) ?_
        refine x_cVi (As := [.ref hm, .int 62, .int 4, .int 0, .int 29]) (rest := []) E (c_Ps_readValue l g b0 _ hd hn eZ hpl hcn hc1 62 4 0 29 (by decide) 4 rfl (by decide)) wy_Ps_readValue wl_Ps_52 hP hD hS eZ.1 rfl hl.1 ⟨by decide, by decide⟩ ⟨Nat.le_refl _, Nat.le_refl _⟩ rfl (Nat.le_of_ble_eq_true rfl) d_Ps_readPart_110 (fun r110 w5 H locs hr110 hP hD hS => ?_)
        obtain ⟨rfl, hq, eZ, hpl, hcn⟩ := hr110
        have hQ := hQ.tr hq
        have hc1 : 1 ≤ (ps_value f n 62 4 0 29 A71.2).2.2.2.2 := by rw [ps_value_cn]; exact hc1
        generalize hA110 : ps_value f n 62 4 0 29 A71.2 = A110 at eZ hpl hcn hc1 ⊢
        refine lv_if_eq (tgt := 148) hx hb d_Ps_readPart_113 (by decide) (fun c113 => ?_) (fun c113 => ?_)
        · refine lv_iconst (v := 0) hx hb d_Ps_readPart_148 (by decide) ?_
          exact x_rz E hr hS rfl (by rw [ps_part, if_neg (by rw [hk0]; decide), hk0, show ((2 : Int32)).toNatClampNeg = 2 from rfl, ps_p1, hA50, ps_and, if_neg c53, ps_p2, hA71, ps_and, if_neg c74, ps_p3, if_neg (by decide), ps_and_1, ps_p4, if_neg (by decide), hA110, ps_and, if_pos c113]; exact ⟨rfl, hQ, eZ, hpl, hcn⟩) hP hD d_Ps_readPart_149
        · refine lv_iload_n hx hb d_Ps_readPart_116 rfl (lv_at hl 0 rfl) ?_
          refine lv_iconst (v := 3) hx hb d_Ps_readPart_117 (by decide) ?_
          refine lv_icmp_ne (tgt := 135) hx hb d_Ps_readPart_118 (by decide) (fun c118 => ?_) (fun c118 => absurd c118 (by decide))
          refine lv_aload_n hx hb d_Ps_readPart_135 rfl (lv_at hl 1 rfl) ?_
          refine lv_bipush (v := 59) hx hb d_Ps_readPart_136 (by decide) ?_
          refine x_cVi (As := [.int 59]) (rest := []) E (c_Ps_skip l g b0 _ hd hn eZ hpl hcn 59 (by decide)) wy_Ps_skip wl_Ps_56 hP hD hS eZ.1 rfl hl.1 ⟨by decide, by decide⟩ ⟨Nat.le_refl _, Nat.le_refl _⟩ rfl (Nat.le_of_ble_eq_true rfl) d_Ps_readPart_138 (fun r138 w6 H locs hr138 hP hD hS => ?_)
          obtain ⟨rfl, hq, eZ, hpl, hcn⟩ := hr138
          have hQ := hQ.tr hq
          have h01 := ps_skip_01 f n 59 A110.2
          generalize hA138 : ps_skip f n 59 A110.2 = A138 at eZ hpl hcn h01 ⊢
          refine lv_if_eq (tgt := 148) hx hb d_Ps_readPart_141 (by decide) (fun c141 => ?_) (fun c141 => ?_)
          · refine lv_iconst (v := 0) hx hb d_Ps_readPart_148 (by decide) ?_
            exact x_rz E hr hS rfl (by rw [ps_part, if_neg (by rw [hk0]; decide), hk0, show ((2 : Int32)).toNatClampNeg = 2 from rfl, ps_p1, hA50, ps_and, if_neg c53, ps_p2, hA71, ps_and, if_neg c74, ps_p3, if_neg (by decide), ps_and_1, ps_p4, if_neg (by decide), hA110, ps_and, if_neg c113, ps_p5, if_neg (by decide), ps_and_1, hA138]; exact ⟨c141.symm, hQ, eZ, hpl, hcn⟩) hP hD d_Ps_readPart_149
          · refine lv_iconst (v := 1) hx hb d_Ps_readPart_144 (by decide) ?_
            refine lv_goto (tgt := 149) hx hb d_Ps_readPart_145 (by decide) ?_
            exact x_rz E hr hS rfl (by rw [ps_part, if_neg (by rw [hk0]; decide), hk0, show ((2 : Int32)).toNatClampNeg = 2 from rfl, ps_p1, hA50, ps_and, if_neg c53, ps_p2, hA71, ps_and, if_neg c74, ps_p3, if_neg (by decide), ps_and_1, ps_p4, if_neg (by decide), hA110, ps_and, if_neg c113, ps_p5, if_neg (by decide), ps_and_1, hA138]; exact ⟨(h01.resolve_left c141).symm, hQ, eZ, hpl, hcn⟩) hP hD d_Ps_readPart_149
  · refine x_top (y := 3) hk0 ?_
    refine lv_istore_n (lv' := [(2, .int 3), (0, .ref hp), (1, .ref hm)]) hx hb d_Ps_readPart_14 rfl hl (by decide) rfl (fun ls hl => ?_)
    refine lv_iload_n hx hb d_Ps_readPart_15 rfl (lv_at hl 0 rfl) ?_
    refine lv_if_lt (tgt := 35) hx hb d_Ps_readPart_16 (by decide) (fun c16 => absurd c16 (by decide)) (fun c16 => ?_)
    refine lv_iload_n hx hb d_Ps_readPart_19 rfl (lv_at hl 0 rfl) ?_
    refine x_gets_A_Ps E hS d_Ps_readPart_20 ?_
    refine x_len_A E hS d_Ps_readPart_23 ?_
    refine lv_icmp_ge (tgt := 35) hx hb d_Ps_readPart_24 (by decide) (fun c24 => absurd c24 (by decide)) (fun c24 => ?_)
    refine lv_iload_n hx hb d_Ps_readPart_27 rfl (lv_at hl 0 rfl) ?_
    refine x_gets_B_Ps E hS d_Ps_readPart_28 ?_
    refine x_len_B E hS d_Ps_readPart_31 ?_
    refine lv_icmp_lt (tgt := 37) hx hb d_Ps_readPart_32 (by decide) (fun c32 => ?_) (fun c32 => absurd (by decide) c32)
    refine lv_aload_n hx hb d_Ps_readPart_37 rfl (lv_at hl 1 rfl) ?_
    refine lv_dup hx hb d_Ps_readPart_38 rfl ?_
    refine x_get E hP eZ.1 rfl cl3_in 1 (by decide) wf_Ps_18 rfl d_Ps_readPart_39 ?_
    refine lv_iconst (v := 1) hx hb d_Ps_readPart_42 (by decide) ?_
    refine lv_iadd hx hb d_Ps_readPart_43 ?_
    refine x_top (y := nI (z.1 + 1)) (nI_1 z.1) ?_
    have hpl : z.1 + 1 ≤ n := tx_at_ne hpl hn (fun q => by rw [q, ps_kind_m1] at hk0; exact absurd hk0 (by decide))
    refine x_put E hP hD hS eZ.1 rfl cl3_in cl3_ty cl3_nm 1 (by decide) wf_Ps_18 rfl rfl rfl (Nat.le_of_ble_eq_true rfl) d_Ps_readPart_44 (fun w2 H locs hU2 hP hD hS => ?_)
    have hQ := hQ.up hU2
    have eZ := eZ.pl hd (p' := z.1 + 1) hU2
    refine lv_aload_n hx hb d_Ps_readPart_47 rfl (lv_at hl 1 rfl) ?_
    refine lv_aload_n hx hb d_Ps_readPart_48 rfl (lv_at hl 2 rfl) ?_
    refine lv_iload_n hx hb d_Ps_readPart_49 rfl (lv_at hl 0 rfl) ?_
    refine x_cVi (As := [.ref hm, .int 3]) (rest := []) E (c_Ps_readNewName l g b0 _ hd hn eZ hpl hcn (nI 3)) wy_Ps_readNewName wl_Ps_48 hP hD hS eZ.1 rfl hl.1 ⟨by decide, by decide⟩ ⟨Nat.le_refl _, Nat.le_refl _⟩ rfl (Nat.le_of_ble_eq_true rfl) d_Ps_readPart_50 (fun r50 w3 H locs hr50 hP hD hS => ?_)
    obtain ⟨rfl, hq, eZ, hpl, hcn⟩ := hr50
    have hQ := hQ.tr hq
    have hc9 := ps_name_cn (f := f) (n := n) (kd := nI 3) (z := (z.1 + 1, z.2))
    generalize hA50 : ps_name f n (nI 3) (z.1 + 1, z.2) = A50 at eZ hpl hcn hc9 ⊢
    refine lv_if_eq (tgt := 148) hx hb d_Ps_readPart_53 (by decide) (fun c53 => ?_) (fun c53 => ?_)
    · refine lv_iconst (v := 0) hx hb d_Ps_readPart_148 (by decide) ?_
      exact x_rz E hr hS rfl (by rw [ps_part, if_neg (by rw [hk0]; decide), hk0, show ((3 : Int32)).toNatClampNeg = 3 from rfl, ps_p1, hA50, ps_and, if_pos c53]; exact ⟨rfl, hQ, eZ, hpl, hcn⟩) hP hD d_Ps_readPart_149
    · have hc1 := hc9.2 c53
      replace hc1 := Nat.le_of_eq hc1.symm
      replace hc1 := Nat.le_trans (Nat.le_add_left 1 _) hc1
      refine lv_aload_n hx hb d_Ps_readPart_56 rfl (lv_at hl 1 rfl) ?_
      refine lv_aload_n hx hb d_Ps_readPart_57 rfl (lv_at hl 2 rfl) ?_
      refine lv_bipush (v := 61) hx hb d_Ps_readPart_58 (by decide) ?_
      refine lv_iconst (v := 2) hx hb d_Ps_readPart_60 (by decide) ?_
      refine x_gets_A_Ps E hS d_Ps_readPart_61 ?_
      refine lv_iload_n hx hb d_Ps_readPart_64 rfl (lv_at hl 0 rfl) ?_
      refine x_tab_A E hS rfl (by decide) d_Ps_readPart_65 ?_
      refine x_gets_B_Ps E hS d_Ps_readPart_66 ?_
      refine lv_iload_n hx hb d_Ps_readPart_69 rfl (lv_at hl 0 rfl) ?_
      refine x_tab_B E hS rfl (by decide) d_Ps_readPart_70 ?_
      refine x_cVi (As := [.ref hm, .int 61, .int 2, .int (xLo 3), .int (xHi 3)]) (rest := []) E (c_Ps_readValue l g b0 _ hd hn eZ hpl hcn hc1 61 2 (xLo 3) (xHi 3) (by decide) 2 rfl (by decide)) wy_Ps_readValue wl_Ps_52 hP hD hS eZ.1 rfl hl.1 ⟨by decide, by decide⟩ ⟨Nat.le_refl _, Nat.le_refl _⟩ rfl (Nat.le_of_ble_eq_true rfl) d_Ps_readPart_71 (fun r71 w4 H locs hr71 hP hD hS => ?_)
      obtain ⟨rfl, hq, eZ, hpl, hcn⟩ := hr71
      have hQ := hQ.tr hq
      have hc1 : 1 ≤ (ps_value f n 61 2 (xLo 3) (xHi 3) A50.2).2.2.2.2 := by rw [ps_value_cn]; exact hc1
      generalize hA71 : ps_value f n 61 2 (xLo 3) (xHi 3) A50.2 = A71 at eZ hpl hcn hc1 ⊢
      refine lv_if_eq (tgt := 148) hx hb d_Ps_readPart_74 (by decide) (fun c74 => ?_) (fun c74 => ?_)
      · refine lv_iconst (v := 0) hx hb d_Ps_readPart_148 (by decide) ?_
        exact x_rz E hr hS rfl (by rw [ps_part, if_neg (by rw [hk0]; decide), hk0, show ((3 : Int32)).toNatClampNeg = 3 from rfl, ps_p1, hA50, ps_and, if_neg c53, ps_p2, hA71, ps_and, if_pos c74]; exact ⟨rfl, hQ, eZ, hpl, hcn⟩) hP hD d_Ps_readPart_149
      · refine lv_iload_n hx hb d_Ps_readPart_77 rfl (lv_at hl 0 rfl) ?_
        refine lv_iconst (v := 1) hx hb d_Ps_readPart_78 (by decide) ?_
        refine lv_icmp_ne (tgt := 97) hx hb d_Ps_readPart_79 (by decide) (fun c79 => ?_) (fun c79 => absurd c79 (by decide))
        refine lv_iload_n hx hb d_Ps_readPart_97 rfl (lv_at hl 0 rfl) ?_
        refine lv_iconst (v := 4) hx hb d_Ps_readPart_98 (by decide) ?_
        refine lv_icmp_eq (tgt := 116) hx hb d_Ps_readPart_99 (by decide) (fun c99 => absurd c99 (by decide)) (fun c99 => ?_)
        refine lv_aload_n hx hb d_Ps_readPart_102 rfl (lv_at hl 1 rfl) ?_
        refine lv_aload_n hx hb d_Ps_readPart_103 rfl (lv_at hl 2 rfl) ?_
        refine lv_bipush (v := 62) hx hb d_Ps_readPart_104 (by decide) ?_
        refine lv_iconst (v := 4) hx hb d_Ps_readPart_106 (by decide) ?_
        refine lv_iconst (v := 0) hx hb d_Ps_readPart_107 (by decide) ?_
        refine lv_bipush (v := 29) hx hb d_Ps_readPart_108 (by decide) ?_
        refine x_cVi (As := [.ref hm, .int 62, .int 4, .int 0, .int 29]) (rest := []) E (c_Ps_readValue l g b0 _ hd hn eZ hpl hcn hc1 62 4 0 29 (by decide) 4 rfl (by decide)) wy_Ps_readValue wl_Ps_52 hP hD hS eZ.1 rfl hl.1 ⟨by decide, by decide⟩ ⟨Nat.le_refl _, Nat.le_refl _⟩ rfl (Nat.le_of_ble_eq_true rfl) d_Ps_readPart_110 (fun r110 w5 H locs hr110 hP hD hS => ?_)
        obtain ⟨rfl, hq, eZ, hpl, hcn⟩ := hr110
        have hQ := hQ.tr hq
        have hc1 : 1 ≤ (ps_value f n 62 4 0 29 A71.2).2.2.2.2 := by rw [ps_value_cn]; exact hc1
        generalize hA110 : ps_value f n 62 4 0 29 A71.2 = A110 at eZ hpl hcn hc1 ⊢
        refine lv_if_eq (tgt := 148) hx hb d_Ps_readPart_113 (by decide) (fun c113 => ?_) (fun c113 => ?_)
        · refine lv_iconst (v := 0) hx hb d_Ps_readPart_148 (by decide) ?_
          exact x_rz E hr hS rfl (by rw [ps_part, if_neg (by rw [hk0]; decide), hk0, show ((3 : Int32)).toNatClampNeg = 3 from rfl, ps_p1, hA50, ps_and, if_neg c53, ps_p2, hA71, ps_and, if_neg c74, ps_p3, if_neg (by decide), ps_and_1, ps_p4, if_neg (by decide), hA110, ps_and, if_pos c113]; exact ⟨rfl, hQ, eZ, hpl, hcn⟩) hP hD d_Ps_readPart_149
        · refine lv_iload_n hx hb d_Ps_readPart_116 rfl (lv_at hl 0 rfl) ?_
          refine lv_iconst (v := 3) hx hb d_Ps_readPart_117 (by decide) ?_
          refine lv_icmp_ne (tgt := 135) hx hb d_Ps_readPart_118 (by decide) (fun c118 => absurd (by decide) c118) (fun c118 => ?_)
          refine lv_aload_n hx hb d_Ps_readPart_121 rfl (lv_at hl 1 rfl) ?_
          refine lv_aload_n hx hb d_Ps_readPart_122 rfl (lv_at hl 2 rfl) ?_
          refine lv_bipush (v := 44) hx hb d_Ps_readPart_123 (by decide) ?_
          refine lv_iconst (v := 5) hx hb d_Ps_readPart_125 (by decide) ?_
          refine lv_iconst (v := 0) hx hb d_Ps_readPart_126 (by decide) ?_
          refine lv_bipush (v := 29) hx hb d_Ps_readPart_127 (by decide) ?_
          refine x_cVi (As := [.ref hm, .int 44, .int 5, .int 0, .int 29]) (rest := []) E (c_Ps_readValue l g b0 _ hd hn eZ hpl hcn hc1 44 5 0 29 (by decide) 5 rfl (by decide)) wy_Ps_readValue wl_Ps_52 hP hD hS eZ.1 rfl hl.1 ⟨by decide, by decide⟩ ⟨Nat.le_refl _, Nat.le_refl _⟩ rfl (Nat.le_of_ble_eq_true rfl) d_Ps_readPart_129 (fun r129 w6 H locs hr129 hP hD hS => ?_)
          obtain ⟨rfl, hq, eZ, hpl, hcn⟩ := hr129
          have hQ := hQ.tr hq
          have hc1 : 1 ≤ (ps_value f n 44 5 0 29 A110.2).2.2.2.2 := by rw [ps_value_cn]; exact hc1
          generalize hA129 : ps_value f n 44 5 0 29 A110.2 = A129 at eZ hpl hcn hc1 ⊢
          refine lv_if_eq (tgt := 148) hx hb d_Ps_readPart_132 (by decide) (fun c132 => ?_) (fun c132 => ?_)
          · refine lv_iconst (v := 0) hx hb d_Ps_readPart_148 (by decide) ?_
            exact x_rz E hr hS rfl (by rw [ps_part, if_neg (by rw [hk0]; decide), hk0, show ((3 : Int32)).toNatClampNeg = 3 from rfl, ps_p1, hA50, ps_and, if_neg c53, ps_p2, hA71, ps_and, if_neg c74, ps_p3, if_neg (by decide), ps_and_1, ps_p4, if_neg (by decide), hA110, ps_and, if_neg c113, ps_p5, if_pos rfl, hA129, ps_and, if_pos c132]; exact ⟨rfl, hQ, eZ, hpl, hcn⟩) hP hD d_Ps_readPart_149
          · refine lv_aload_n hx hb d_Ps_readPart_135 rfl (lv_at hl 1 rfl) ?_
            refine lv_bipush (v := 59) hx hb d_Ps_readPart_136 (by decide) ?_
            refine x_cVi (As := [.int 59]) (rest := []) E (c_Ps_skip l g b0 _ hd hn eZ hpl hcn 59 (by decide)) wy_Ps_skip wl_Ps_56 hP hD hS eZ.1 rfl hl.1 ⟨by decide, by decide⟩ ⟨Nat.le_refl _, Nat.le_refl _⟩ rfl (Nat.le_of_ble_eq_true rfl) d_Ps_readPart_138 (fun r138 w7 H locs hr138 hP hD hS => ?_)
            obtain ⟨rfl, hq, eZ, hpl, hcn⟩ := hr138
            have hQ := hQ.tr hq
            have h01 := ps_skip_01 f n 59 A129.2
            generalize hA138 : ps_skip f n 59 A129.2 = A138 at eZ hpl hcn h01 ⊢
            refine lv_if_eq (tgt := 148) hx hb d_Ps_readPart_141 (by decide) (fun c141 => ?_) (fun c141 => ?_)
            · refine lv_iconst (v := 0) hx hb d_Ps_readPart_148 (by decide) ?_
              exact x_rz E hr hS rfl (by rw [ps_part, if_neg (by rw [hk0]; decide), hk0, show ((3 : Int32)).toNatClampNeg = 3 from rfl, ps_p1, hA50, ps_and, if_neg c53, ps_p2, hA71, ps_and, if_neg c74, ps_p3, if_neg (by decide), ps_and_1, ps_p4, if_neg (by decide), hA110, ps_and, if_neg c113, ps_p5, if_pos rfl, hA129, ps_and, if_neg c132, hA138]; exact ⟨c141.symm, hQ, eZ, hpl, hcn⟩) hP hD d_Ps_readPart_149
            · refine lv_iconst (v := 1) hx hb d_Ps_readPart_144 (by decide) ?_
              refine lv_goto (tgt := 149) hx hb d_Ps_readPart_145 (by decide) ?_
              exact x_rz E hr hS rfl (by rw [ps_part, if_neg (by rw [hk0]; decide), hk0, show ((3 : Int32)).toNatClampNeg = 3 from rfl, ps_p1, hA50, ps_and, if_neg c53, ps_p2, hA71, ps_and, if_neg c74, ps_p3, if_neg (by decide), ps_and_1, ps_p4, if_neg (by decide), hA110, ps_and, if_neg c113, ps_p5, if_pos rfl, hA129, ps_and, if_neg c132, hA138]; exact ⟨(h01.resolve_left c141).symm, hQ, eZ, hpl, hcn⟩) hP hD d_Ps_readPart_149
  · refine x_top (y := 4) hk0 ?_
    refine lv_istore_n (lv' := [(2, .int 4), (0, .ref hp), (1, .ref hm)]) hx hb d_Ps_readPart_14 rfl hl (by decide) rfl (fun ls hl => ?_)
    refine lv_iload_n hx hb d_Ps_readPart_15 rfl (lv_at hl 0 rfl) ?_
    refine lv_if_lt (tgt := 35) hx hb d_Ps_readPart_16 (by decide) (fun c16 => absurd c16 (by decide)) (fun c16 => ?_)
    refine lv_iload_n hx hb d_Ps_readPart_19 rfl (lv_at hl 0 rfl) ?_
    refine x_gets_A_Ps E hS d_Ps_readPart_20 ?_
    refine x_len_A E hS d_Ps_readPart_23 ?_
    refine lv_icmp_ge (tgt := 35) hx hb d_Ps_readPart_24 (by decide) (fun c24 => absurd c24 (by decide)) (fun c24 => ?_)
    refine lv_iload_n hx hb d_Ps_readPart_27 rfl (lv_at hl 0 rfl) ?_
    refine x_gets_B_Ps E hS d_Ps_readPart_28 ?_
    refine x_len_B E hS d_Ps_readPart_31 ?_
    refine lv_icmp_lt (tgt := 37) hx hb d_Ps_readPart_32 (by decide) (fun c32 => ?_) (fun c32 => absurd (by decide) c32)
    refine lv_aload_n hx hb d_Ps_readPart_37 rfl (lv_at hl 1 rfl) ?_
    refine lv_dup hx hb d_Ps_readPart_38 rfl ?_
    refine x_get E hP eZ.1 rfl cl3_in 1 (by decide) wf_Ps_18 rfl d_Ps_readPart_39 ?_
    refine lv_iconst (v := 1) hx hb d_Ps_readPart_42 (by decide) ?_
    refine lv_iadd hx hb d_Ps_readPart_43 ?_
    refine x_top (y := nI (z.1 + 1)) (nI_1 z.1) ?_
    have hpl : z.1 + 1 ≤ n := tx_at_ne hpl hn (fun q => by rw [q, ps_kind_m1] at hk0; exact absurd hk0 (by decide))
    refine x_put E hP hD hS eZ.1 rfl cl3_in cl3_ty cl3_nm 1 (by decide) wf_Ps_18 rfl rfl rfl (Nat.le_of_ble_eq_true rfl) d_Ps_readPart_44 (fun w2 H locs hU2 hP hD hS => ?_)
    have hQ := hQ.up hU2
    have eZ := eZ.pl hd (p' := z.1 + 1) hU2
    refine lv_aload_n hx hb d_Ps_readPart_47 rfl (lv_at hl 1 rfl) ?_
    refine lv_aload_n hx hb d_Ps_readPart_48 rfl (lv_at hl 2 rfl) ?_
    refine lv_iload_n hx hb d_Ps_readPart_49 rfl (lv_at hl 0 rfl) ?_
    refine x_cVi (As := [.ref hm, .int 4]) (rest := []) E (c_Ps_readNewName l g b0 _ hd hn eZ hpl hcn (nI 4)) wy_Ps_readNewName wl_Ps_48 hP hD hS eZ.1 rfl hl.1 ⟨by decide, by decide⟩ ⟨Nat.le_refl _, Nat.le_refl _⟩ rfl (Nat.le_of_ble_eq_true rfl) d_Ps_readPart_50 (fun r50 w3 H locs hr50 hP hD hS => ?_)
    obtain ⟨rfl, hq, eZ, hpl, hcn⟩ := hr50
    have hQ := hQ.tr hq
    have hc9 := ps_name_cn (f := f) (n := n) (kd := nI 4) (z := (z.1 + 1, z.2))
    generalize hA50 : ps_name f n (nI 4) (z.1 + 1, z.2) = A50 at eZ hpl hcn hc9 ⊢
    refine lv_if_eq (tgt := 148) hx hb d_Ps_readPart_53 (by decide) (fun c53 => ?_) (fun c53 => ?_)
    · refine lv_iconst (v := 0) hx hb d_Ps_readPart_148 (by decide) ?_
      exact x_rz E hr hS rfl (by rw [ps_part, if_neg (by rw [hk0]; decide), hk0, show ((4 : Int32)).toNatClampNeg = 4 from rfl, ps_p1, hA50, ps_and, if_pos c53]; exact ⟨rfl, hQ, eZ, hpl, hcn⟩) hP hD d_Ps_readPart_149
    · have hc1 := hc9.2 c53
      replace hc1 := Nat.le_of_eq hc1.symm
      replace hc1 := Nat.le_trans (Nat.le_add_left 1 _) hc1
      refine lv_aload_n hx hb d_Ps_readPart_56 rfl (lv_at hl 1 rfl) ?_
      refine lv_aload_n hx hb d_Ps_readPart_57 rfl (lv_at hl 2 rfl) ?_
      refine lv_bipush (v := 61) hx hb d_Ps_readPart_58 (by decide) ?_
      refine lv_iconst (v := 2) hx hb d_Ps_readPart_60 (by decide) ?_
      refine x_gets_A_Ps E hS d_Ps_readPart_61 ?_
      refine lv_iload_n hx hb d_Ps_readPart_64 rfl (lv_at hl 0 rfl) ?_
      refine x_tab_A E hS rfl (by decide) d_Ps_readPart_65 ?_
      refine x_gets_B_Ps E hS d_Ps_readPart_66 ?_
      refine lv_iload_n hx hb d_Ps_readPart_69 rfl (lv_at hl 0 rfl) ?_
      refine x_tab_B E hS rfl (by decide) d_Ps_readPart_70 ?_
      refine x_cVi (As := [.ref hm, .int 61, .int 2, .int (xLo 4), .int (xHi 4)]) (rest := []) E (c_Ps_readValue l g b0 _ hd hn eZ hpl hcn hc1 61 2 (xLo 4) (xHi 4) (by decide) 2 rfl (by decide)) wy_Ps_readValue wl_Ps_52 hP hD hS eZ.1 rfl hl.1 ⟨by decide, by decide⟩ ⟨Nat.le_refl _, Nat.le_refl _⟩ rfl (Nat.le_of_ble_eq_true rfl) d_Ps_readPart_71 (fun r71 w4 H locs hr71 hP hD hS => ?_)
      obtain ⟨rfl, hq, eZ, hpl, hcn⟩ := hr71
      have hQ := hQ.tr hq
      have hc1 : 1 ≤ (ps_value f n 61 2 (xLo 4) (xHi 4) A50.2).2.2.2.2 := by rw [ps_value_cn]; exact hc1
      generalize hA71 : ps_value f n 61 2 (xLo 4) (xHi 4) A50.2 = A71 at eZ hpl hcn hc1 ⊢
      refine lv_if_eq (tgt := 148) hx hb d_Ps_readPart_74 (by decide) (fun c74 => ?_) (fun c74 => ?_)
      · refine lv_iconst (v := 0) hx hb d_Ps_readPart_148 (by decide) ?_
        exact x_rz E hr hS rfl (by rw [ps_part, if_neg (by rw [hk0]; decide), hk0, show ((4 : Int32)).toNatClampNeg = 4 from rfl, ps_p1, hA50, ps_and, if_neg c53, ps_p2, hA71, ps_and, if_pos c74]; exact ⟨rfl, hQ, eZ, hpl, hcn⟩) hP hD d_Ps_readPart_149
      · refine lv_iload_n hx hb d_Ps_readPart_77 rfl (lv_at hl 0 rfl) ?_
        refine lv_iconst (v := 1) hx hb d_Ps_readPart_78 (by decide) ?_
        refine lv_icmp_ne (tgt := 97) hx hb d_Ps_readPart_79 (by decide) (fun c79 => ?_) (fun c79 => absurd c79 (by decide))
        refine lv_iload_n hx hb d_Ps_readPart_97 rfl (lv_at hl 0 rfl) ?_
        refine lv_iconst (v := 4) hx hb d_Ps_readPart_98 (by decide) ?_
        refine lv_icmp_eq (tgt := 116) hx hb d_Ps_readPart_99 (by decide) (fun c99 => ?_) (fun c99 => absurd (by decide) c99)
        refine lv_iload_n hx hb d_Ps_readPart_116 rfl (lv_at hl 0 rfl) ?_
        refine lv_iconst (v := 3) hx hb d_Ps_readPart_117 (by decide) ?_
        refine lv_icmp_ne (tgt := 135) hx hb d_Ps_readPart_118 (by decide) (fun c118 => ?_) (fun c118 => absurd c118 (by decide))
        refine lv_aload_n hx hb d_Ps_readPart_135 rfl (lv_at hl 1 rfl) ?_
        refine lv_bipush (v := 59) hx hb d_Ps_readPart_136 (by decide) ?_
        refine x_cVi (As := [.int 59]) (rest := []) E (c_Ps_skip l g b0 _ hd hn eZ hpl hcn 59 (by decide)) wy_Ps_skip wl_Ps_56 hP hD hS eZ.1 rfl hl.1 ⟨by decide, by decide⟩ ⟨Nat.le_refl _, Nat.le_refl _⟩ rfl (Nat.le_of_ble_eq_true rfl) d_Ps_readPart_138 (fun r138 w5 H locs hr138 hP hD hS => ?_)
        obtain ⟨rfl, hq, eZ, hpl, hcn⟩ := hr138
        have hQ := hQ.tr hq
        have h01 := ps_skip_01 f n 59 A71.2
        generalize hA138 : ps_skip f n 59 A71.2 = A138 at eZ hpl hcn h01 ⊢
        refine lv_if_eq (tgt := 148) hx hb d_Ps_readPart_141 (by decide) (fun c141 => ?_) (fun c141 => ?_)
        · refine lv_iconst (v := 0) hx hb d_Ps_readPart_148 (by decide) ?_
          exact x_rz E hr hS rfl (by rw [ps_part, if_neg (by rw [hk0]; decide), hk0, show ((4 : Int32)).toNatClampNeg = 4 from rfl, ps_p1, hA50, ps_and, if_neg c53, ps_p2, hA71, ps_and, if_neg c74, ps_p3, if_neg (by decide), ps_and_1, ps_p4, if_pos rfl, ps_and_1, ps_p5, if_neg (by decide), ps_and_1, hA138]; exact ⟨c141.symm, hQ, eZ, hpl, hcn⟩) hP hD d_Ps_readPart_149
        · refine lv_iconst (v := 1) hx hb d_Ps_readPart_144 (by decide) ?_
          refine lv_goto (tgt := 149) hx hb d_Ps_readPart_145 (by decide) ?_
          exact x_rz E hr hS rfl (by rw [ps_part, if_neg (by rw [hk0]; decide), hk0, show ((4 : Int32)).toNatClampNeg = 4 from rfl, ps_p1, hA50, ps_and, if_neg c53, ps_p2, hA71, ps_and, if_neg c74, ps_p3, if_neg (by decide), ps_and_1, ps_p4, if_pos rfl, ps_and_1, ps_p5, if_neg (by decide), ps_and_1, hA138]; exact ⟨(h01.resolve_left c141).symm, hQ, eZ, hpl, hcn⟩) hP hD d_Ps_readPart_149
