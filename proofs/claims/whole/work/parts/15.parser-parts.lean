def ps_loop (f : Nat → Int32) (n : Nat) : Nat → Int32 × ps_S → Int32 × ps_S
  | 0, a => a
  | k + 1, a => if a.1 = 0 then a else if n ≤ a.2.1 then a else ps_loop f n k (ps_part f n a.2)
def ps_end (n : Nat) (a : Int32 × ps_S) : Int32 × ps_S := if a.1 = 0 then (0, a.2) else if a.2.1 = n then (1, a.2) else (0, a.2)
def ps_parts (f : Nat → Int32) (n : Nat) (z : ps_S) : Int32 × ps_S := ps_end n (ps_loop f n 23 (ps_part f n z))
set_option maxRecDepth 100000 in
set_option maxHeartbeats 4000000 in
theorem c_Ps_readParts (l : Launch) (g : xG) (b0 : Nat) (ws : va_W) {qp qt qm hp ht ta n hm om dm : Nat} {f : Nat → Int32} {rm : Nat → Nat} (hd : xAp qp qt qm) (hn : n ≤ 300) {z : ps_S} (eZ : xPz g ws qp qt qm hp ht ta f n hm om dm rm z) (hcn : z.2.2.2 ≤ 24) : xMi l g b0 y_Ps_readParts b_Ps_readParts 4 (some .boolean) 4 [.ref hp, .ref hm] ws (fun r u => ∃ ix0, (∀ j, j < 30 → ix0 j = -1) ∧ r = (ps_parts f n (0, z.2.1, ix0, 0)).1 ∧ xQ2 qp qm ws u ∧ xPz g u qp qt qm hp ht ta f n hm om dm rm ((ps_parts f n (0, z.2.1, ix0, 0)).2) ∧ (ps_parts f n (0, z.2.1, ix0, 0)).2.1 ≤ n ∧ (ps_parts f n (0, z.2.1, ix0, 0)).2.2.2.2 ≤ 24) := by
  unfold xMi
  refine x_in (by decide) (Nat.le_of_ble_eq_true rfl) ?_
  intro p e s m below meth c ls E hr hin hP hD hl
  obtain ⟨hx, hb, hml, hown, hts, hK, hZ, hb0, hlocks⟩ := id E
  have hS : va_S (xA b0) s.heap s.heap [] := va_S.rf
  have hl : lv_has ls 4 [(0, .ref hp), (1, .ref hm)] := hl
  have hQ : xQ2 qp qm ws ws := xQ2.rf
  refine lv_aload_n hx hb d_Ps_readParts_0 rfl (lv_at hl 1 rfl) ?_
  refine x_cVv (As := []) (rest := []) E (c_Mc_clear l g b0 _ eZ.2.2 hcn) wy_Mc_clear wl_Ps_22 hP hD hS eZ.2.2.1 rfl hl.1 ⟨by decide, by decide⟩ ⟨Nat.le_refl _, Nat.le_refl _⟩ rfl (Nat.le_of_ble_eq_true rfl) d_Ps_readParts_1 (fun w1 H locs hr1 hP hD hS => ?_)
  obtain ⟨hq, ix0, eM, hix0⟩ := hr1
  have hQ := hQ.mc hq
  have eZ := eZ.mc hd hq eM
  refine lv_aload_n hx hb d_Ps_readParts_4 rfl (lv_at hl 0 rfl) ?_
  refine lv_iconst (v := 0) hx hb d_Ps_readParts_5 (by decide) ?_
  refine x_put E hP hD hS eZ.1 rfl cl3_in cl3_ty cl3_nm 1 (by decide) wf_Ps_18 rfl rfl rfl (Nat.le_of_ble_eq_true rfl) d_Ps_readParts_6 (fun w2 H locs hU2 hP hD hS => ?_)
  have hQ := hQ.up hU2
  have eZ := eZ.pl hd (p' := 0) hU2
  refine lv_aload_n hx hb d_Ps_readParts_9 rfl (lv_at hl 0 rfl) ?_
  refine lv_aload_n hx hb d_Ps_readParts_10 rfl (lv_at hl 1 rfl) ?_
  refine x_cVi (As := [.ref hm]) (rest := []) E (c_Ps_readPart l g b0 _ hd hn eZ (Nat.zero_le _) (show (0 : Nat) < 24 by decide)) wy_Ps_readPart wl_Ps_27 hP hD hS eZ.1 rfl hl.1 ⟨by decide, by decide⟩ ⟨Nat.le_refl _, Nat.le_refl _⟩ rfl (Nat.le_of_ble_eq_true rfl) d_Ps_readParts_11 (fun r11 w3 H locs hr11 hP hD hS => ?_)
  obtain ⟨rfl, hq, eZ, hpl, hcn⟩ := hr11
  have hQ := hQ.tr hq
  have hc9 : (ps_part f n (0, z.2.1, ix0, 0)).2.2.2.2 ≤ 1 := ps_part_cn (f := f) (n := n) (z := (0, z.2.1, ix0, 0))
  generalize hB : ps_part f n (0, z.2.1, ix0, 0) = B at eZ hpl hcn hc9 ⊢
  refine lv_istore_n (lv' := [(2, .int B.1), (0, .ref hp), (1, .ref hm)]) hx hb d_Ps_readParts_14 rfl hl (by decide) rfl (fun ls hl => ?_)
  refine lv_iconst (v := 1) hx hb d_Ps_readParts_15 (by decide) ?_
  refine lv_istore_n (lv' := [(3, .int 1), (2, .int B.1), (0, .ref hp), (1, .ref hm)]) hx hb d_Ps_readParts_16 rfl hl (by decide) rfl (fun ls hl => ?_)
  have loop : ∀ (k i : Nat) (a : Int32 × ps_S) (v : va_W) (H : Heap) (locs : List Loc) (ls : Array Slot), (24 < i + k) → (1 ≤ i ∧ i ≤ 24) → (a.2.1 ≤ n) → (a.2.2.2.2 ≤ i) → (ps_loop f n 23 (ps_part f n (0, z.2.1, ix0, 0)) = ps_loop f n (24 - i) a) → (lv_has ls 4 [(3, .int (nI i)), (2, .int a.1), (0, .ref hp), (1, .ref hm)]) → (va_P (xD g) vwCl v H) → (va_D (xA b0) v) → (va_S (xA b0) s.heap H locs) → (xQ2 qp qm ws v) → (xPz g v qp qt qm hp ht ta f n hm om dm rm a.2) → W p l e (rmL 4) s m ([.ref hp, .ref hm] : List Value).toArray below meth c H locs 0 0 (MQ below (va_Qi (fun r u => ∃ ix0, (∀ j, j < 30 → ix0 j = -1) ∧ r = (ps_parts f n (0, z.2.1, ix0, 0)).1 ∧ xQ2 qp qm ws u ∧ xPz g u qp qt qm hp ht ta f n hm om dm rm ((ps_parts f n (0, z.2.1, ix0, 0)).2) ∧ (ps_parts f n (0, z.2.1, ix0, 0)).2.1 ≤ n ∧ (ps_parts f n (0, z.2.1, ix0, 0)).2.2.2.2 ≤ 24) (fun u t => va_P (xD g) vwCl u t.heap ∧ va_D (xA b0) u) (xA b0)) ([.ref hp, .ref hm] : List Value).toArray s 0 0 (xA b0)) (F0 m 17 ls []) := by
    intro k
    induction k with
    | zero =>
      intro i a v H locs ls hk hi hpl hcn hv hl hP hD hS hQ eZ
      omega
    | succ k ih =>
      intro i a v H locs ls hk hi hpl hcn hv hl hP hD hS hQ eZ
      refine lv_iload_n hx hb d_Ps_readParts_17 rfl (lv_at hl 0 rfl) ?_
      refine lv_bipush (v := 24) hx hb d_Ps_readParts_18 (by decide) ?_
      refine lv_icmp_ge (tgt := 53) hx hb d_Ps_readParts_20 (by decide) (fun c20 => ?_) (fun c20 => ?_)
      · have hi9 : i = 24 := by
          have := (nI_leI (a := 24) (by decide) (by omega)).mp c20
          omega
        rw [hi9] at hv
        have hv : ps_loop f n 23 (ps_part f n (0, z.2.1, ix0, 0)) = a := hv
        refine lv_iload_n hx hb d_Ps_readParts_53 rfl (lv_at hl 1 rfl) ?_
        refine lv_if_eq (tgt := 75) hx hb d_Ps_readParts_54 (by decide) (fun c54 => ?_) (fun c54 => ?_)
        · refine lv_iconst (v := 0) hx hb d_Ps_readParts_75 (by decide) ?_
          exact x_rz E hr hS rfl ⟨ix0, hix0, by rw [ps_parts, hv, ps_end, if_pos c54]; exact ⟨rfl, hQ, eZ, hpl, Nat.le_trans hcn hi.2⟩⟩ hP hD d_Ps_readParts_76
        · refine lv_aload_n hx hb d_Ps_readParts_57 rfl (lv_at hl 2 rfl) ?_
          refine x_get E hP eZ.1 rfl cl3_in 1 (by decide) wf_Ps_18 rfl d_Ps_readParts_58 ?_
          refine lv_aload_n hx hb d_Ps_readParts_61 rfl (lv_at hl 2 rfl) ?_
          refine x_get E hP eZ.1 rfl cl3_in 0 (by decide) wf_Ps_12 rfl d_Ps_readParts_62 ?_
          refine x_get E hP eZ.2.1.1 rfl cl1_in 1 (by decide) wf_Ps_31 rfl d_Ps_readParts_65 ?_
          refine lv_icmp_ne (tgt := 75) hx hb d_Ps_readParts_68 (by decide) (fun c68 => ?_) (fun c68 => ?_)
          · have h68 : ¬ a.2.1 = n := fun h => c68 (by rw [h])
            refine lv_iconst (v := 0) hx hb d_Ps_readParts_75 (by decide) ?_
            exact x_rz E hr hS rfl ⟨ix0, hix0, by rw [ps_parts, hv, ps_end, if_neg c54, if_neg h68]; exact ⟨rfl, hQ, eZ, hpl, Nat.le_trans hcn hi.2⟩⟩ hP hD d_Ps_readParts_76
          · have h68 : a.2.1 = n := (nI_eq (by omega) (by omega)).mp c68
            refine lv_iconst (v := 1) hx hb d_Ps_readParts_71 (by decide) ?_
            refine lv_goto (tgt := 76) hx hb d_Ps_readParts_72 (by decide) ?_
            exact x_rz E hr hS rfl ⟨ix0, hix0, by rw [ps_parts, hv, ps_end, if_neg c54, if_pos h68]; exact ⟨rfl, hQ, eZ, hpl, Nat.le_trans hcn hi.2⟩⟩ hP hD d_Ps_readParts_76
      · have hi9 : i < 24 := Nat.not_le.mp fun h => c20 (nI_le (a := 24) h (by omega))
        rw [show 24 - i = (24 - (i + 1)) + 1 by omega] at hv
        refine lv_iload_n hx hb d_Ps_readParts_23 rfl (lv_at hl 1 rfl) ?_
        refine lv_if_eq (tgt := 53) hx hb d_Ps_readParts_24 (by decide) (fun c24 => ?_) (fun c24 => ?_)
        · have hv : ps_loop f n 23 (ps_part f n (0, z.2.1, ix0, 0)) = a := by rw [hv, ps_loop, if_pos c24]
          refine lv_iload_n hx hb d_Ps_readParts_53 rfl (lv_at hl 1 rfl) ?_
          refine lv_if_eq (tgt := 75) hx hb d_Ps_readParts_54 (by decide) (fun c54 => ?_) (fun c54 => ?_)
          · refine lv_iconst (v := 0) hx hb d_Ps_readParts_75 (by decide) ?_
            exact x_rz E hr hS rfl ⟨ix0, hix0, by rw [ps_parts, hv, ps_end, if_pos c54]; exact ⟨rfl, hQ, eZ, hpl, Nat.le_trans hcn hi.2⟩⟩ hP hD d_Ps_readParts_76
          · refine lv_aload_n hx hb d_Ps_readParts_57 rfl (lv_at hl 2 rfl) ?_
            refine x_get E hP eZ.1 rfl cl3_in 1 (by decide) wf_Ps_18 rfl d_Ps_readParts_58 ?_
            refine lv_aload_n hx hb d_Ps_readParts_61 rfl (lv_at hl 2 rfl) ?_
            refine x_get E hP eZ.1 rfl cl3_in 0 (by decide) wf_Ps_12 rfl d_Ps_readParts_62 ?_
            refine x_get E hP eZ.2.1.1 rfl cl1_in 1 (by decide) wf_Ps_31 rfl d_Ps_readParts_65 ?_
            refine lv_icmp_ne (tgt := 75) hx hb d_Ps_readParts_68 (by decide) (fun c68 => ?_) (fun c68 => ?_)
            · have h68 : ¬ a.2.1 = n := fun h => c68 (by rw [h])
              refine lv_iconst (v := 0) hx hb d_Ps_readParts_75 (by decide) ?_
              exact x_rz E hr hS rfl ⟨ix0, hix0, by rw [ps_parts, hv, ps_end, if_neg c54, if_neg h68]; exact ⟨rfl, hQ, eZ, hpl, Nat.le_trans hcn hi.2⟩⟩ hP hD d_Ps_readParts_76
            · have h68 : a.2.1 = n := (nI_eq (by omega) (by omega)).mp c68
              refine lv_iconst (v := 1) hx hb d_Ps_readParts_71 (by decide) ?_
              refine lv_goto (tgt := 76) hx hb d_Ps_readParts_72 (by decide) ?_
              exact x_rz E hr hS rfl ⟨ix0, hix0, by rw [ps_parts, hv, ps_end, if_neg c54, if_pos h68]; exact ⟨rfl, hQ, eZ, hpl, Nat.le_trans hcn hi.2⟩⟩ hP hD d_Ps_readParts_76
        · refine lv_aload_n hx hb d_Ps_readParts_27 rfl (lv_at hl 2 rfl) ?_
          refine x_get E hP eZ.1 rfl cl3_in 1 (by decide) wf_Ps_18 rfl d_Ps_readParts_28 ?_
          refine lv_aload_n hx hb d_Ps_readParts_31 rfl (lv_at hl 2 rfl) ?_
          refine x_get E hP eZ.1 rfl cl3_in 0 (by decide) wf_Ps_12 rfl d_Ps_readParts_32 ?_
          refine x_get E hP eZ.2.1.1 rfl cl1_in 1 (by decide) wf_Ps_31 rfl d_Ps_readParts_35 ?_
          refine lv_icmp_ge (tgt := 53) hx hb d_Ps_readParts_38 (by decide) (fun c38 => ?_) (fun c38 => ?_)
          · have h38 : n ≤ a.2.1 := (nI_leI (by omega) (by omega)).mp c38
            have hv : ps_loop f n 23 (ps_part f n (0, z.2.1, ix0, 0)) = a := by rw [hv, ps_loop, if_neg c24, if_pos h38]
            refine lv_iload_n hx hb d_Ps_readParts_53 rfl (lv_at hl 1 rfl) ?_
            refine lv_if_eq (tgt := 75) hx hb d_Ps_readParts_54 (by decide) (fun c54 => ?_) (fun c54 => ?_)
            · refine lv_iconst (v := 0) hx hb d_Ps_readParts_75 (by decide) ?_
              exact x_rz E hr hS rfl ⟨ix0, hix0, by rw [ps_parts, hv, ps_end, if_pos c54]; exact ⟨rfl, hQ, eZ, hpl, Nat.le_trans hcn hi.2⟩⟩ hP hD d_Ps_readParts_76
            · refine lv_aload_n hx hb d_Ps_readParts_57 rfl (lv_at hl 2 rfl) ?_
              refine x_get E hP eZ.1 rfl cl3_in 1 (by decide) wf_Ps_18 rfl d_Ps_readParts_58 ?_
              refine lv_aload_n hx hb d_Ps_readParts_61 rfl (lv_at hl 2 rfl) ?_
              refine x_get E hP eZ.1 rfl cl3_in 0 (by decide) wf_Ps_12 rfl d_Ps_readParts_62 ?_
              refine x_get E hP eZ.2.1.1 rfl cl1_in 1 (by decide) wf_Ps_31 rfl d_Ps_readParts_65 ?_
              refine lv_icmp_ne (tgt := 75) hx hb d_Ps_readParts_68 (by decide) (fun c68 => ?_) (fun c68 => ?_)
              · have h68 : ¬ a.2.1 = n := fun h => c68 (by rw [h])
                refine lv_iconst (v := 0) hx hb d_Ps_readParts_75 (by decide) ?_
                exact x_rz E hr hS rfl ⟨ix0, hix0, by rw [ps_parts, hv, ps_end, if_neg c54, if_neg h68]; exact ⟨rfl, hQ, eZ, hpl, Nat.le_trans hcn hi.2⟩⟩ hP hD d_Ps_readParts_76
              · have h68 : a.2.1 = n := (nI_eq (by omega) (by omega)).mp c68
                refine lv_iconst (v := 1) hx hb d_Ps_readParts_71 (by decide) ?_
                refine lv_goto (tgt := 76) hx hb d_Ps_readParts_72 (by decide) ?_
                exact x_rz E hr hS rfl ⟨ix0, hix0, by rw [ps_parts, hv, ps_end, if_neg c54, if_pos h68]; exact ⟨rfl, hQ, eZ, hpl, Nat.le_trans hcn hi.2⟩⟩ hP hD d_Ps_readParts_76
          · have h38 : ¬ n ≤ a.2.1 := fun h => c38 (nI_le h (by omega))
            have hv : ps_loop f n 23 (ps_part f n (0, z.2.1, ix0, 0)) = ps_loop f n (24 - (i + 1)) (ps_part f n a.2) := by rw [hv, ps_loop, if_neg c24, if_neg h38]
            have hc9 := ps_part_cn (f := f) (n := n) (z := a.2)
            refine lv_aload_n hx hb d_Ps_readParts_41 rfl (lv_at hl 2 rfl) ?_
            refine lv_aload_n hx hb d_Ps_readParts_42 rfl (lv_at hl 3 rfl) ?_
            refine x_cVi (As := [.ref hm]) (rest := []) E (c_Ps_readPart l g b0 _ hd hn eZ hpl (by omega)) wy_Ps_readPart wl_Ps_27 hP hD hS eZ.1 rfl hl.1 ⟨by decide, by decide⟩ ⟨Nat.le_refl _, Nat.le_refl _⟩ rfl (Nat.le_of_ble_eq_true rfl) d_Ps_readParts_43 (fun r43 w54 H locs hr43 hP hD hS => ?_)
            obtain ⟨rfl, hq, eZ, hpl, hcn⟩ := hr43
            have hQ := hQ.tr hq
            generalize hB : ps_part f n a.2 = B at eZ hpl hcn hc9 hv ⊢
            refine lv_istore_n (lv' := [(2, .int B.1), (3, .int (nI i)), (0, .ref hp), (1, .ref hm)]) hx hb d_Ps_readParts_46 rfl hl (by decide) rfl (fun ls hl => ?_)
            refine lv_iinc (v := nI (i + 1)) (lv' := [(3, .int (nI (i + 1))), (2, .int B.1), (0, .ref hp), (1, .ref hm)]) hx hb d_Ps_readParts_47 hl (k := 1) rfl (nI_1 i) (by decide) rfl (fun ls hl => ?_)
            refine lv_goto (tgt := 17) hx hb d_Ps_readParts_50 (by decide) ?_
            exact ih (i + 1) B _ _ _ _ (by omega) (by omega) hpl (by omega) hv hl hP hD hS hQ eZ
  exact loop 24 1 B _ _ _ _ (by omega) (by omega) hpl hc9 (by rw [hB]) hl hP hD hS hQ eZ
