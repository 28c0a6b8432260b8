def mo_part (f6 f7 f8 f9 f10 : Nat → Int32) (m : Nat) (i w : Int32) : Int32 := if w < 0 then -12 else if w ≤ 5 then (if i < 0 then -1 else if i < nI m then (if w = 0 then f6 i.toNatClampNeg else if w = 1 then f7 i.toNatClampNeg else if w = 2 then f8 i.toNatClampNeg else if w = 3 then f9 i.toNatClampNeg else f10 (2 * i.toNatClampNeg + (w.toNatClampNeg - 4))) else -1) else -12
def mo_fault (f12 f13 f14 : Nat → Int32) (m k : Nat) (i w : Int32) : Int32 := if w < 0 then -12 else if w ≤ 2 then (if i < 0 then -1 else if nI k ≤ i then -1 else if nI m = 0 then -1 else if w = 0 then f12 i.toNatClampNeg else if w = 1 then f13 i.toNatClampNeg else f14 i.toNatClampNeg) else -12
def mo_reach (f6 f7 f8 f11 : Nat → Int32) (m : Nat) (x : Int32) : Int32 := if mo_find f7 m x = -1 then -11 else if f6 (mo_find f7 m x).toNatClampNeg = 4 then (if mo_gap f6 f8 f11 m (mo_find f7 m x).toNatClampNeg = -1 then 0 else 1) else -13
def mo_gapn (f6 f7 f8 f11 : Nat → Int32) (m : Nat) (x : Int32) : Int32 := if mo_find f7 m x = -1 then -11 else mo_gap f6 f8 f11 m (mo_find f7 m x).toNatClampNeg
def mo_suff (f6 f7 f8 : Nat → Int32) (m : Nat) (x : Int32) (v : Int64) : Int32 := if mo_find f7 m x = -1 then 0 else if f6 (mo_find f7 m x).toNatClampNeg = 3 then (if 0 < lg_cmp (f8 (mo_find f7 m x).toNatClampNeg).toInt64 v then 0 else 1) else 0
def mo_at (f16 : Nat → Int32) (n : Nat) (i : Int32) : Int32 := if i < 0 then -1 else if nI n ≤ i then -1 else f16 i.toNatClampNeg
def mo_letter (x : Int32) : Int32 := if x = 0 then 70 else if x = 1 then 66 else if x = 2 then 82 else if x = 3 then 71 else 83
theorem mo_w45 {w : Int32} (h0 : ¬ w < 0) (h5 : w ≤ 5) (a0 : ¬ w = 0) (a1 : ¬ w = 1) (a2 : ¬ w = 2) (a3 : ¬ w = 3) : ∃ j : Nat, j < 2 ∧ w = nI (4 + j) := by
  obtain ⟨j, hj, e⟩ := nI_of2 (x := w) (M := 5) (n := 5) (by decide) h0 h5
  obtain rfl | rfl | rfl | rfl | rfl | rfl : j = 0 ∨ j = 1 ∨ j = 2 ∨ j = 3 ∨ j = 4 ∨ j = 5 := by omega
  · exact absurd e a0
  · exact absurd e a1
  · exact absurd e a2
  · exact absurd e a3
  · exact ⟨0, by omega, e⟩
  · exact ⟨1, by omega, e⟩
set_option maxRecDepth 100000 in
set_option maxHeartbeats 4000000 in
theorem c_Mo_part (l : Launch) (g : xG) (b0 : Nat) (ws : va_W) {q h : Nat} {ad : Nat → Nat} {s0 s1 s2 s3 s5 s6 : Int32} {f0 f1 f2 f3 f4 f5 f6 f7 f8 f9 f10 f11 f12 f13 f14 f16 : Nat → Int32} {f15 : Nat → Int64} {m9 : Nat} (eB : xMo g ws q h ad s0 s1 s2 s3 (nI m9) s5 s6 f0 f1 f2 f3 f4 f5 f6 f7 f8 f9 f10 f11 f12 f13 f14 f15 f16) (hm9 : m9 ≤ 24) (i x : Int32) : xRi l g b0 y_Mo_part b_Mo_part 3 (some .int) 0 [.ref h, .int i, .int x] ws (fun r => r = mo_part f6 f7 f8 f9 f10 m9 i x) := by
  unfold xRi
  refine x_in (by decide) (Nat.le_of_ble_eq_true rfl) ?_
  intro p e s m below meth c ls E hr hin hP hD hl
  obtain ⟨hx, hb, hml, hown, hts, hK, hZ, hb0, hlocks⟩ := id E
  have hS : va_S (xA b0) s.heap s.heap [] := va_S.rf
  have hl : lv_has ls 3 [(0, .ref h), (1, .int i), (2, .int x)] := hl
  refine lv_iload_n hx hb d_Mo_part_0 rfl (lv_at hl 2 rfl) ?_
  refine lv_if_lt (tgt := 9) hx hb d_Mo_part_1 (by decide) (fun c1 => ?_) (fun c1 => ?_)
  · refine lv_bipush (v := (-12)) hx hb d_Mo_part_9 (by decide) ?_
    exact x_pi E hr (by rw [mo_part, if_pos c1]) d_Mo_part_11
  · refine lv_iload_n hx hb d_Mo_part_4 rfl (lv_at hl 2 rfl) ?_
    refine lv_iconst (v := 5) hx hb d_Mo_part_5 (by decide) ?_
    refine lv_icmp_le (tgt := 12) hx hb d_Mo_part_6 (by decide) (fun c6 => ?_) (fun c6 => ?_)
    · refine lv_iload_n hx hb d_Mo_part_12 rfl (lv_at hl 1 rfl) ?_
      refine lv_if_lt (tgt := 24) hx hb d_Mo_part_13 (by decide) (fun c13 => ?_) (fun c13 => ?_)
      · refine lv_iconst (v := (-1)) hx hb d_Mo_part_24 (by decide) ?_
        exact x_pi E hr (by rw [mo_part, if_neg c1, if_pos c6, if_pos c13]) d_Mo_part_25
      · refine lv_iload_n hx hb d_Mo_part_16 rfl (lv_at hl 1 rfl) ?_
        refine lv_aload_n hx hb d_Mo_part_17 rfl (lv_at hl 0 rfl) ?_
        refine x_get E hP eB.1 rfl cl6_in 10 (by decide) wf_Mo_101 rfl d_Mo_part_18 ?_
        refine lv_icmp_lt (tgt := 26) hx hb d_Mo_part_21 (by decide) (fun c21 => ?_) (fun c21 => ?_)
        · obtain ⟨i0, hi0, hi⟩ := x_ixl (n := m9) (by omega) c13 c21
          refine lv_iload_n hx hb d_Mo_part_26 rfl (lv_at hl 2 rfl) ?_
          refine lv_if_ne (tgt := 39) hx hb d_Mo_part_27 (by decide) (fun c27 => ?_) (fun c27 => ?_)
          · refine lv_iload_n hx hb d_Mo_part_39 rfl (lv_at hl 2 rfl) ?_
            refine lv_iconst (v := 1) hx hb d_Mo_part_40 (by decide) ?_
            refine lv_icmp_ne (tgt := 53) hx hb d_Mo_part_41 (by decide) (fun c41 => ?_) (fun c41 => ?_)
            · refine lv_iload_n hx hb d_Mo_part_53 rfl (lv_at hl 2 rfl) ?_
              refine lv_iconst (v := 2) hx hb d_Mo_part_54 (by decide) ?_
              refine lv_icmp_ne (tgt := 67) hx hb d_Mo_part_55 (by decide) (fun c55 => ?_) (fun c55 => ?_)
              · refine lv_iload_n hx hb d_Mo_part_67 rfl (lv_at hl 2 rfl) ?_
                refine lv_iconst (v := 3) hx hb d_Mo_part_68 (by decide) ?_
                refine lv_icmp_ne (tgt := 81) hx hb d_Mo_part_69 (by decide) (fun c69 => ?_) (fun c69 => ?_)
                · obtain ⟨w7, hw6, hw7⟩ := mo_w45 c1 c6 c27 c41 c55 c69
                  refine lv_aload_n hx hb d_Mo_part_81 rfl (lv_at hl 0 rfl) ?_
                  refine x_get E hP eB.1 rfl cl6_in 15 (by decide) wf_Mo_40 rfl d_Mo_part_82 ?_
                  refine lv_iconst (v := 2) hx hb d_Mo_part_85 (by decide) ?_
                  refine lv_iload_n hx hb d_Mo_part_86 rfl (lv_at hl 1 rfl) ?_
                  refine lv_imul hx hb d_Mo_part_87 ?_
                  refine x_top (y := nI (2 * i0)) (by rw [hi]; exact pk_mul 2 i0) ?_
                  refine lv_iload_n hx hb d_Mo_part_88 rfl (lv_at hl 2 rfl) ?_
                  refine lv_iadd hx hb d_Mo_part_89 ?_
                  refine x_top (y := nI (2 * i0 + (4 + w7))) (by rw [hw7]; exact nI_add (2 * i0) (4 + w7)) ?_
                  refine lv_iconst (v := 4) hx hb d_Mo_part_90 (by decide) ?_
                  refine lv_isub hx hb d_Mo_part_91 ?_
                  refine x_top (y := nI (2 * i0 + w7)) ((pk_sub (a := 2 * i0 + (4 + w7)) (b := 4) (by omega)).trans (congrArg nI (by omega))) ?_
                  refine x_iald E hP eB.2.2.2.2.2.2.2.2.2.2.2.1 (j := 2 * i0 + w7) rfl (by omega) (by decide) d_Mo_part_92 ?_
                  exact x_pi E hr (by rw [mo_part, if_neg c1, if_pos c6, if_neg c13, if_pos c21, if_neg c27, if_neg c41, if_neg c55, if_neg c69, hi, hw7, nI_clamp (by omega), nI_clamp (by omega), Nat.add_sub_cancel_left]) d_Mo_part_93
                · refine lv_aload_n hx hb d_Mo_part_72 rfl (lv_at hl 0 rfl) ?_
                  refine x_get E hP eB.1 rfl cl6_in 14 (by decide) wf_Mo_37 rfl d_Mo_part_73 ?_
                  refine lv_iload_n hx hb d_Mo_part_76 rfl (lv_at hl 1 rfl) ?_
                  refine x_iald E hP eB.2.2.2.2.2.2.2.2.2.2.1 (j := i0) hi (by omega) (by decide) d_Mo_part_77 ?_
                  refine lv_goto (tgt := 93) hx hb d_Mo_part_78 (by decide) ?_
                  exact x_pi E hr (by rw [mo_part, if_neg c1, if_pos c6, if_neg c13, if_pos c21, if_neg c27, if_neg c41, if_neg c55, if_pos c69, hi, nI_clamp (by omega)]) d_Mo_part_93
              · refine lv_aload_n hx hb d_Mo_part_58 rfl (lv_at hl 0 rfl) ?_
                refine x_get E hP eB.1 rfl cl6_in 13 (by decide) wf_Mo_34 rfl d_Mo_part_59 ?_
                refine lv_iload_n hx hb d_Mo_part_62 rfl (lv_at hl 1 rfl) ?_
                refine x_iald E hP eB.2.2.2.2.2.2.2.2.2.1 (j := i0) hi (by omega) (by decide) d_Mo_part_63 ?_
                refine lv_goto (tgt := 93) hx hb d_Mo_part_64 (by decide) ?_
                exact x_pi E hr (by rw [mo_part, if_neg c1, if_pos c6, if_neg c13, if_pos c21, if_neg c27, if_neg c41, if_pos c55, hi, nI_clamp (by omega)]) d_Mo_part_93
            · refine lv_aload_n hx hb d_Mo_part_44 rfl (lv_at hl 0 rfl) ?_
              refine x_get E hP eB.1 rfl cl6_in 12 (by decide) wf_Mo_31 rfl d_Mo_part_45 ?_
              refine lv_iload_n hx hb d_Mo_part_48 rfl (lv_at hl 1 rfl) ?_
              refine x_iald E hP eB.2.2.2.2.2.2.2.2.1 (j := i0) hi (by omega) (by decide) d_Mo_part_49 ?_
              refine lv_goto (tgt := 93) hx hb d_Mo_part_50 (by decide) ?_
              exact x_pi E hr (by rw [mo_part, if_neg c1, if_pos c6, if_neg c13, if_pos c21, if_neg c27, if_pos c41, hi, nI_clamp (by omega)]) d_Mo_part_93
          · refine lv_aload_n hx hb d_Mo_part_30 rfl (lv_at hl 0 rfl) ?_
            refine x_get E hP eB.1 rfl cl6_in 11 (by decide) wf_Mo_28 rfl d_Mo_part_31 ?_
            refine lv_iload_n hx hb d_Mo_part_34 rfl (lv_at hl 1 rfl) ?_
            refine x_iald E hP eB.2.2.2.2.2.2.2.1 (j := i0) hi (by omega) (by decide) d_Mo_part_35 ?_
            refine lv_goto (tgt := 93) hx hb d_Mo_part_36 (by decide) ?_
            exact x_pi E hr (by rw [mo_part, if_neg c1, if_pos c6, if_neg c13, if_pos c21, if_pos c27, hi, nI_clamp (by omega)]) d_Mo_part_93
        · refine lv_iconst (v := (-1)) hx hb d_Mo_part_24 (by decide) ?_
          exact x_pi E hr (by rw [mo_part, if_neg c1, if_pos c6, if_neg c13, if_neg c21]) d_Mo_part_25
    · refine lv_bipush (v := (-12)) hx hb d_Mo_part_9 (by decide) ?_
      exact x_pi E hr (by rw [mo_part, if_neg c1, if_neg c6]) d_Mo_part_11
set_option maxRecDepth 100000 in
set_option maxHeartbeats 4000000 in
theorem c_Mo_check (l : Launch) (g : xG) (b0 : Nat) (ws : va_W) {q h : Nat} {ad : Nat → Nat} {s0 s1 s2 s3 s5 s6 : Int32} {f0 f1 f2 f3 f4 f5 f6 f7 f8 f9 f10 f11 f12 f13 f14 f16 : Nat → Int32} {f15 : Nat → Int64} {m9 : Nat} (eB : xMo g ws q h ad s0 s1 s2 s3 (nI m9) s5 s6 f0 f1 f2 f3 f4 f5 f6 f7 f8 f9 f10 f11 f12 f13 f14 f15 f16) : xRi l g b0 y_Mo_check b_Mo_check 1 (some .int) 0 [.ref h] ws (fun r => r = if nI m9 = 0 then -1 else s5) := by
  unfold xRi
  refine x_in (by decide) (Nat.le_of_ble_eq_true rfl) ?_
  intro p e s m below meth c ls E hr hin hP hD hl
  obtain ⟨hx, hb, hml, hown, hts, hK, hZ, hb0, hlocks⟩ := id E
  have hS : va_S (xA b0) s.heap s.heap [] := va_S.rf
  have hl : lv_has ls 1 [(0, .ref h)] := hl
  refine lv_aload_n hx hb d_Mo_check_0 rfl (lv_at hl 0 rfl) ?_
  refine x_get E hP eB.1 rfl cl6_in 10 (by decide) wf_Mo_101 rfl d_Mo_check_1 ?_
  refine lv_if_ne (tgt := 11) hx hb d_Mo_check_4 (by decide) (fun c4 => ?_) (fun c4 => ?_)
  · refine lv_aload_n hx hb d_Mo_check_11 rfl (lv_at hl 0 rfl) ?_
    refine x_get E hP eB.1 rfl cl6_in 17 (by decide) wf_Mo_119 rfl d_Mo_check_12 ?_
    exact x_pi E hr (by rw [if_neg c4]) d_Mo_check_15
  · refine lv_iconst (v := (-1)) hx hb d_Mo_check_7 (by decide) ?_
    refine lv_goto (tgt := 15) hx hb d_Mo_check_8 (by decide) ?_
    exact x_pi E hr (by rw [if_pos c4]) d_Mo_check_15
set_option maxRecDepth 100000 in
set_option maxHeartbeats 4000000 in
theorem c_Mo_fault (l : Launch) (g : xG) (b0 : Nat) (ws : va_W) {q h : Nat} {ad : Nat → Nat} {s0 s1 s2 s3 s6 : Int32} {f0 f1 f2 f3 f4 f5 f6 f7 f8 f9 f10 f11 f12 f13 f14 f16 : Nat → Int32} {f15 : Nat → Int64} {m9 k9 : Nat} (eB : xMo g ws q h ad s0 s1 s2 s3 (nI m9) (nI k9) s6 f0 f1 f2 f3 f4 f5 f6 f7 f8 f9 f10 f11 f12 f13 f14 f15 f16) (hk9 : k9 ≤ 300) (i x : Int32) : xRi l g b0 y_Mo_fault b_Mo_fault 3 (some .int) 0 [.ref h, .int i, .int x] ws (fun r => r = mo_fault f12 f13 f14 m9 k9 i x) := by
  unfold xRi
  refine x_in (by decide) (Nat.le_of_ble_eq_true rfl) ?_
  intro p e s m below meth c ls E hr hin hP hD hl
  obtain ⟨hx, hb, hml, hown, hts, hK, hZ, hb0, hlocks⟩ := id E
  have hS : va_S (xA b0) s.heap s.heap [] := va_S.rf
  have hl : lv_has ls 3 [(0, .ref h), (1, .int i), (2, .int x)] := hl
  refine lv_iload_n hx hb d_Mo_fault_0 rfl (lv_at hl 2 rfl) ?_
  refine lv_if_lt (tgt := 9) hx hb d_Mo_fault_1 (by decide) (fun c1 => ?_) (fun c1 => ?_)
  · refine lv_bipush (v := (-12)) hx hb d_Mo_fault_9 (by decide) ?_
    exact x_pi E hr (by rw [mo_fault, if_pos c1]) d_Mo_fault_11
  · refine lv_iload_n hx hb d_Mo_fault_4 rfl (lv_at hl 2 rfl) ?_
    refine lv_iconst (v := 2) hx hb d_Mo_fault_5 (by decide) ?_
    refine lv_icmp_le (tgt := 12) hx hb d_Mo_fault_6 (by decide) (fun c6 => ?_) (fun c6 => ?_)
    · refine lv_iload_n hx hb d_Mo_fault_12 rfl (lv_at hl 1 rfl) ?_
      refine lv_if_lt (tgt := 31) hx hb d_Mo_fault_13 (by decide) (fun c13 => ?_) (fun c13 => ?_)
      · refine lv_iconst (v := (-1)) hx hb d_Mo_fault_31 (by decide) ?_
        exact x_pi E hr (by rw [mo_fault, if_neg c1, if_pos c6, if_pos c13]) d_Mo_fault_32
      · refine lv_iload_n hx hb d_Mo_fault_16 rfl (lv_at hl 1 rfl) ?_
        refine lv_aload_n hx hb d_Mo_fault_17 rfl (lv_at hl 0 rfl) ?_
        refine x_get E hP eB.1 rfl cl6_in 17 (by decide) wf_Mo_119 rfl d_Mo_fault_18 ?_
        refine lv_icmp_ge (tgt := 31) hx hb d_Mo_fault_21 (by decide) (fun c21 => ?_) (fun c21 => ?_)
        · refine lv_iconst (v := (-1)) hx hb d_Mo_fault_31 (by decide) ?_
          exact x_pi E hr (by rw [mo_fault, if_neg c1, if_pos c6, if_neg c13, if_pos c21]) d_Mo_fault_32
        · obtain ⟨i0, hi0, hi⟩ := x_ix (n := k9) (by omega) c13 c21
          refine lv_aload_n hx hb d_Mo_fault_24 rfl (lv_at hl 0 rfl) ?_
          refine x_get E hP eB.1 rfl cl6_in 10 (by decide) wf_Mo_101 rfl d_Mo_fault_25 ?_
          refine lv_if_ne (tgt := 33) hx hb d_Mo_fault_28 (by decide) (fun c28 => ?_) (fun c28 => ?_)
          · refine lv_iload_n hx hb d_Mo_fault_33 rfl (lv_at hl 2 rfl) ?_
            refine lv_if_ne (tgt := 46) hx hb d_Mo_fault_34 (by decide) (fun c34 => ?_) (fun c34 => ?_)
            · refine lv_iload_n hx hb d_Mo_fault_46 rfl (lv_at hl 2 rfl) ?_
              refine lv_iconst (v := 1) hx hb d_Mo_fault_47 (by decide) ?_
              refine lv_icmp_ne (tgt := 60) hx hb d_Mo_fault_48 (by decide) (fun c48 => ?_) (fun c48 => ?_)
              · refine lv_aload_n hx hb d_Mo_fault_60 rfl (lv_at hl 0 rfl) ?_
                refine x_get E hP eB.1 rfl cl6_in 20 (by decide) wf_Mo_53 rfl d_Mo_fault_61 ?_
                refine lv_iload_n hx hb d_Mo_fault_64 rfl (lv_at hl 1 rfl) ?_
                refine x_iald E hP eB.2.2.2.2.2.2.2.2.2.2.2.2.2.2.2.1 (j := i0) hi (by omega) (by decide) d_Mo_fault_65 ?_
                exact x_pi E hr (by rw [mo_fault, if_neg c1, if_pos c6, if_neg c13, if_neg c21, if_neg c28, if_neg c34, if_neg c48, hi, nI_clamp (by omega)]) d_Mo_fault_66
              · refine lv_aload_n hx hb d_Mo_fault_51 rfl (lv_at hl 0 rfl) ?_
                refine x_get E hP eB.1 rfl cl6_in 19 (by decide) wf_Mo_50 rfl d_Mo_fault_52 ?_
                refine lv_iload_n hx hb d_Mo_fault_55 rfl (lv_at hl 1 rfl) ?_
                refine x_iald E hP eB.2.2.2.2.2.2.2.2.2.2.2.2.2.2.1 (j := i0) hi (by omega) (by decide) d_Mo_fault_56 ?_
                refine lv_goto (tgt := 66) hx hb d_Mo_fault_57 (by decide) ?_
                exact x_pi E hr (by rw [mo_fault, if_neg c1, if_pos c6, if_neg c13, if_neg c21, if_neg c28, if_neg c34, if_pos c48, hi, nI_clamp (by omega)]) d_Mo_fault_66
            · refine lv_aload_n hx hb d_Mo_fault_37 rfl (lv_at hl 0 rfl) ?_
              refine x_get E hP eB.1 rfl cl6_in 18 (by decide) wf_Mo_47 rfl d_Mo_fault_38 ?_
              refine lv_iload_n hx hb d_Mo_fault_41 rfl (lv_at hl 1 rfl) ?_
              refine x_iald E hP eB.2.2.2.2.2.2.2.2.2.2.2.2.2.1 (j := i0) hi (by omega) (by decide) d_Mo_fault_42 ?_
              refine lv_goto (tgt := 66) hx hb d_Mo_fault_43 (by decide) ?_
              exact x_pi E hr (by rw [mo_fault, if_neg c1, if_pos c6, if_neg c13, if_neg c21, if_neg c28, if_pos c34, hi, nI_clamp (by omega)]) d_Mo_fault_66
          · refine lv_iconst (v := (-1)) hx hb d_Mo_fault_31 (by decide) ?_
            exact x_pi E hr (by rw [mo_fault, if_neg c1, if_pos c6, if_neg c13, if_neg c21, if_pos c28]) d_Mo_fault_32
    · refine lv_bipush (v := (-12)) hx hb d_Mo_fault_9 (by decide) ?_
      exact x_pi E hr (by rw [mo_fault, if_neg c1, if_neg c6]) d_Mo_fault_11
set_option maxRecDepth 100000 in
set_option maxHeartbeats 4000000 in
theorem c_Mo_reach (l : Launch) (g : xG) (b0 : Nat) (ws : va_W) {q h : Nat} {ad : Nat → Nat} {s0 s1 s2 s3 s5 s6 : Int32} {f0 f1 f2 f3 f4 f5 f6 f7 f8 f9 f10 f11 f12 f13 f14 f16 : Nat → Int32} {f15 : Nat → Int64} {m9 : Nat} (eB : xMo g ws q h ad s0 s1 s2 s3 (nI m9) s5 s6 f0 f1 f2 f3 f4 f5 f6 f7 f8 f9 f10 f11 f12 f13 f14 f15 f16) (hm9 : m9 ≤ 24) (x : Int32) : xRi l g b0 y_Mo_reach b_Mo_reach 3 (some .int) 2 [.ref h, .int x] ws (fun r => r = mo_reach f6 f7 f8 f11 m9 x) := by
  unfold xRi
  refine x_in (by decide) (Nat.le_of_ble_eq_true rfl) ?_
  intro p e s m below meth c ls E hr hin hP hD hl
  obtain ⟨hx, hb, hml, hown, hts, hK, hZ, hb0, hlocks⟩ := id E
  have hS : va_S (xA b0) s.heap s.heap [] := va_S.rf
  have hl : lv_has ls 3 [(0, .ref h), (1, .int x)] := hl
  refine lv_aload_n hx hb d_Mo_reach_0 rfl (lv_at hl 0 rfl) ?_
  refine lv_iload_n hx hb d_Mo_reach_1 rfl (lv_at hl 1 rfl) ?_
  refine x_cRi (As := [.int x]) (rest := []) E (c_Mo_find l g b0 _ eB hm9 x) wy_Mo_find wl_Mo_110 hP hD hS eB.1 rfl hl.1 ⟨by decide, by decide⟩ ⟨Nat.le_refl _, Nat.le_refl _⟩ rfl (Nat.le_of_ble_eq_true rfl) d_Mo_reach_2 (fun r2 hr2 => ?_)
  subst hr2
  refine lv_istore_n (lv' := [(2, .int (mo_find f7 m9 x)), (0, .ref h), (1, .int x)]) hx hb d_Mo_reach_5 rfl hl (by decide) rfl (fun ls hl => ?_)
  refine lv_iload_n hx hb d_Mo_reach_6 rfl (lv_at hl 0 rfl) ?_
  refine lv_iconst (v := (-1)) hx hb d_Mo_reach_7 (by decide) ?_
  refine lv_icmp_ne (tgt := 14) hx hb d_Mo_reach_8 (by decide) (fun c8 => ?_) (fun c8 => ?_)
  · obtain ⟨b7, hb6, hb7⟩ := (mo_find_in f7 m9 x).resolve_left c8
    refine lv_aload_n hx hb d_Mo_reach_14 rfl (lv_at hl 1 rfl) ?_
    refine x_get E hP eB.1 rfl cl6_in 11 (by decide) wf_Mo_28 rfl d_Mo_reach_15 ?_
    refine lv_iload_n hx hb d_Mo_reach_18 rfl (lv_at hl 0 rfl) ?_
    refine x_iald E hP eB.2.2.2.2.2.2.2.1 (j := b7) hb7 (by omega) (by decide) d_Mo_reach_19 ?_
    refine lv_iconst (v := 4) hx hb d_Mo_reach_20 (by decide) ?_
    refine lv_icmp_eq (tgt := 29) hx hb d_Mo_reach_21 (by decide) (fun c21 => ?_) (fun c21 => ?_)
    · refine lv_aload_n hx hb d_Mo_reach_29 rfl (lv_at hl 1 rfl) ?_
      refine lv_iload_n hx hb d_Mo_reach_30 rfl (lv_at hl 0 rfl) ?_
      refine x_cRi (As := [.int (mo_find f7 m9 x)]) (rest := []) E (c_Mo_gapOf l g b0 _ eB hm9 (mo_find f7 m9 x) b7 hb7 (by omega)) wy_Mo_gapOf wl_Mo_116 hP hD hS eB.1 rfl hl.1 ⟨by decide, by decide⟩ ⟨Nat.le_refl _, Nat.le_refl _⟩ rfl (Nat.le_of_ble_eq_true rfl) d_Mo_reach_31 (fun r31 hr31 => ?_)
      subst hr31
      refine lv_iconst (v := (-1)) hx hb d_Mo_reach_34 (by decide) ?_
      refine lv_icmp_eq (tgt := 42) hx hb d_Mo_reach_35 (by decide) (fun c35 => ?_) (fun c35 => ?_)
      · refine lv_iconst (v := 0) hx hb d_Mo_reach_42 (by decide) ?_
        exact x_pi E hr (by rw [mo_reach, if_neg c8, hb7, nI_clamp (by omega), if_pos c21, if_pos c35]) d_Mo_reach_43
      · refine lv_iconst (v := 1) hx hb d_Mo_reach_38 (by decide) ?_
        refine lv_goto (tgt := 43) hx hb d_Mo_reach_39 (by decide) ?_
        exact x_pi E hr (by rw [mo_reach, if_neg c8, hb7, nI_clamp (by omega), if_pos c21, if_neg c35]) d_Mo_reach_43
    · refine lv_bipush (v := (-13)) hx hb d_Mo_reach_24 (by decide) ?_
      refine lv_goto (tgt := 43) hx hb d_Mo_reach_26 (by decide) ?_
      exact x_pi E hr (by rw [mo_reach, if_neg c8, hb7, nI_clamp (by omega), if_neg c21]) d_Mo_reach_43
  · refine lv_bipush (v := (-11)) hx hb d_Mo_reach_11 (by decide) ?_
    exact x_pi E hr (by rw [mo_reach, if_pos c8]) d_Mo_reach_13
set_option maxRecDepth 100000 in
set_option maxHeartbeats 4000000 in
theorem c_Mo_gap (l : Launch) (g : xG) (b0 : Nat) (ws : va_W) {q h : Nat} {ad : Nat → Nat} {s0 s1 s2 s3 s5 s6 : Int32} {f0 f1 f2 f3 f4 f5 f6 f7 f8 f9 f10 f11 f12 f13 f14 f16 : Nat → Int32} {f15 : Nat → Int64} {m9 : Nat} (eB : xMo g ws q h ad s0 s1 s2 s3 (nI m9) s5 s6 f0 f1 f2 f3 f4 f5 f6 f7 f8 f9 f10 f11 f12 f13 f14 f15 f16) (hm9 : m9 ≤ 24) (x : Int32) : xRi l g b0 y_Mo_gap b_Mo_gap 3 (some .int) 2 [.ref h, .int x] ws (fun r => r = mo_gapn f6 f7 f8 f11 m9 x) := by
  unfold xRi
  refine x_in (by decide) (Nat.le_of_ble_eq_true rfl) ?_
  intro p e s m below meth c ls E hr hin hP hD hl
  obtain ⟨hx, hb, hml, hown, hts, hK, hZ, hb0, hlocks⟩ := id E
  have hS : va_S (xA b0) s.heap s.heap [] := va_S.rf
  have hl : lv_has ls 3 [(0, .ref h), (1, .int x)] := hl
  refine lv_aload_n hx hb d_Mo_gap_0 rfl (lv_at hl 0 rfl) ?_
  refine lv_iload_n hx hb d_Mo_gap_1 rfl (lv_at hl 1 rfl) ?_
  refine x_cRi (As := [.int x]) (rest := []) E (c_Mo_find l g b0 _ eB hm9 x) wy_Mo_find wl_Mo_110 hP hD hS eB.1 rfl hl.1 ⟨by decide, by decide⟩ ⟨Nat.le_refl _, Nat.le_refl _⟩ rfl (Nat.le_of_ble_eq_true rfl) d_Mo_gap_2 (fun r2 hr2 => ?_)
  subst hr2
  refine lv_istore_n (lv' := [(2, .int (mo_find f7 m9 x)), (0, .ref h), (1, .int x)]) hx hb d_Mo_gap_5 rfl hl (by decide) rfl (fun ls hl => ?_)
  refine lv_iload_n hx hb d_Mo_gap_6 rfl (lv_at hl 0 rfl) ?_
  refine lv_iconst (v := (-1)) hx hb d_Mo_gap_7 (by decide) ?_
  refine lv_icmp_ne (tgt := 16) hx hb d_Mo_gap_8 (by decide) (fun c8 => ?_) (fun c8 => ?_)
  · obtain ⟨b7, hb6, hb7⟩ := (mo_find_in f7 m9 x).resolve_left c8
    refine lv_aload_n hx hb d_Mo_gap_16 rfl (lv_at hl 1 rfl) ?_
    refine lv_iload_n hx hb d_Mo_gap_17 rfl (lv_at hl 0 rfl) ?_
    refine x_cRi (As := [.int (mo_find f7 m9 x)]) (rest := []) E (c_Mo_gapOf l g b0 _ eB hm9 (mo_find f7 m9 x) b7 hb7 (by omega)) wy_Mo_gapOf wl_Mo_116 hP hD hS eB.1 rfl hl.1 ⟨by decide, by decide⟩ ⟨Nat.le_refl _, Nat.le_refl _⟩ rfl (Nat.le_of_ble_eq_true rfl) d_Mo_gap_18 (fun r18 hr18 => ?_)
    subst hr18
    exact x_pi E hr (by rw [mo_gapn, if_neg c8, hb7, nI_clamp (by omega)]) d_Mo_gap_21
  · refine lv_bipush (v := (-11)) hx hb d_Mo_gap_11 (by decide) ?_
    refine lv_goto (tgt := 21) hx hb d_Mo_gap_13 (by decide) ?_
    exact x_pi E hr (by rw [mo_gapn, if_pos c8]) d_Mo_gap_21
set_option maxRecDepth 100000 in
set_option maxHeartbeats 4000000 in
theorem c_Mo_suffices (l : Launch) (g : xG) (b0 : Nat) (ws : va_W) {q h : Nat} {ad : Nat → Nat} {s0 s1 s2 s3 s5 s6 : Int32} {f0 f1 f2 f3 f4 f5 f6 f7 f8 f9 f10 f11 f12 f13 f14 f16 : Nat → Int32} {f15 : Nat → Int64} {m9 : Nat} (eB : xMo g ws q h ad s0 s1 s2 s3 (nI m9) s5 s6 f0 f1 f2 f3 f4 f5 f6 f7 f8 f9 f10 f11 f12 f13 f14 f15 f16) (hm9 : m9 ≤ 24) (x : Int32) (v : Int64) : xRi l g b0 y_Mo_suffices b_Mo_suffices 5 (some .boolean) 1 [.ref h, .int x, .long v] ws (fun r => r = mo_suff f6 f7 f8 m9 x v) := by
  unfold xRi
  refine x_in (by decide) (Nat.le_of_ble_eq_true rfl) ?_
  intro p e s m below meth c ls E hr hin hP hD hl
  obtain ⟨hx, hb, hml, hown, hts, hK, hZ, hb0, hlocks⟩ := id E
  have hS : va_S (xA b0) s.heap s.heap [] := va_S.rf
  have hl : lv_has ls 5 [(0, .ref h), (1, .int x), (2, .long v)] := hl
  refine lv_aload_n hx hb d_Mo_suffices_0 rfl (lv_at hl 0 rfl) ?_
  refine lv_iload_n hx hb d_Mo_suffices_1 rfl (lv_at hl 1 rfl) ?_
  refine x_cRi (As := [.int x]) (rest := []) E (c_Mo_find l g b0 _ eB hm9 x) wy_Mo_find wl_Mo_110 hP hD hS eB.1 rfl hl.1 ⟨by decide, by decide⟩ ⟨Nat.le_refl _, Nat.le_refl _⟩ rfl (Nat.le_of_ble_eq_true rfl) d_Mo_suffices_2 (fun r2 hr2 => ?_)
  subst hr2
  refine lv_istore (lv' := [(4, .int (mo_find f7 m9 x)), (0, .ref h), (1, .int x), (2, .long v)]) hx hb d_Mo_suffices_5 hl (by decide) rfl (fun ls hl => ?_)
  refine lv_iload hx hb d_Mo_suffices_7 (lv_at hl 0 rfl) ?_
  refine lv_iconst (v := (-1)) hx hb d_Mo_suffices_9 (by decide) ?_
  refine lv_icmp_eq (tgt := 41) hx hb d_Mo_suffices_10 (by decide) (fun c10 => ?_) (fun c10 => ?_)
  · refine lv_iconst (v := 0) hx hb d_Mo_suffices_41 (by decide) ?_
    exact x_pz E hr rfl (by rw [mo_suff, if_pos c10]) d_Mo_suffices_42
  · obtain ⟨b7, hb6, hb7⟩ := (mo_find_in f7 m9 x).resolve_left c10
    refine lv_aload_n hx hb d_Mo_suffices_13 rfl (lv_at hl 1 rfl) ?_
    refine x_get E hP eB.1 rfl cl6_in 11 (by decide) wf_Mo_28 rfl d_Mo_suffices_14 ?_
    refine lv_iload hx hb d_Mo_suffices_17 (lv_at hl 0 rfl) ?_
    refine x_iald E hP eB.2.2.2.2.2.2.2.1 (j := b7) hb7 (by omega) (by decide) d_Mo_suffices_19 ?_
    refine lv_iconst (v := 3) hx hb d_Mo_suffices_20 (by decide) ?_
    refine lv_icmp_ne (tgt := 41) hx hb d_Mo_suffices_21 (by decide) (fun c21 => ?_) (fun c21 => ?_)
    · refine lv_iconst (v := 0) hx hb d_Mo_suffices_41 (by decide) ?_
      exact x_pz E hr rfl (by rw [mo_suff, if_neg c10, hb7, nI_clamp (by omega), if_neg c21]) d_Mo_suffices_42
    · refine lv_aload_n hx hb d_Mo_suffices_24 rfl (lv_at hl 1 rfl) ?_
      refine x_get E hP eB.1 rfl cl6_in 13 (by decide) wf_Mo_34 rfl d_Mo_suffices_25 ?_
      refine lv_iload hx hb d_Mo_suffices_28 (lv_at hl 0 rfl) ?_
      refine x_iald E hP eB.2.2.2.2.2.2.2.2.2.1 (j := b7) hb7 (by omega) (by decide) d_Mo_suffices_30 ?_
      refine lv_i2l (v := (f8 b7).toInt64) hx hb d_Mo_suffices_31 rfl ?_
      refine lv_lload_n hx hb d_Mo_suffices_32 rfl (lv_at hl 3 rfl) ?_
      refine W.lcmp hx hb d_Mo_suffices_33 ?_
      refine lv_if_gt (tgt := 41) hx hb d_Mo_suffices_34 (by decide) (fun c34 => ?_) (fun c34 => ?_)
      · refine lv_iconst (v := 0) hx hb d_Mo_suffices_41 (by decide) ?_
        exact x_pz E hr rfl (by rw [mo_suff, if_neg c10, hb7, nI_clamp (by omega), if_pos c21, if_pos c34]) d_Mo_suffices_42
      · refine lv_iconst (v := 1) hx hb d_Mo_suffices_37 (by decide) ?_
        refine lv_goto (tgt := 42) hx hb d_Mo_suffices_38 (by decide) ?_
        exact x_pz E hr rfl (by rw [mo_suff, if_neg c10, hb7, nI_clamp (by omega), if_pos c21, if_neg c34]) d_Mo_suffices_42
set_option maxRecDepth 100000 in
set_option maxHeartbeats 4000000 in
theorem c_Mo_at (l : Launch) (g : xG) (b0 : Nat) (ws : va_W) {q h : Nat} {ad : Nat → Nat} {s0 s1 s2 s3 s4 s5 : Int32} {f0 f1 f2 f3 f4 f5 f6 f7 f8 f9 f10 f11 f12 f13 f14 f16 : Nat → Int32} {f15 : Nat → Int64} {n : Nat} (eB : xMo g ws q h ad s0 s1 s2 s3 s4 s5 (nI n) f0 f1 f2 f3 f4 f5 f6 f7 f8 f9 f10 f11 f12 f13 f14 f15 f16) (hn : n ≤ 900) (i : Int32) : xRi l g b0 y_Mo_at b_Mo_at 2 (some .int) 0 [.ref h, .int i] ws (fun r => r = mo_at f16 n i) := by
  unfold xRi
  refine x_in (by decide) (Nat.le_of_ble_eq_true rfl) ?_
  intro p e s m below meth c ls E hr hin hP hD hl
  obtain ⟨hx, hb, hml, hown, hts, hK, hZ, hb0, hlocks⟩ := id E
  have hS : va_S (xA b0) s.heap s.heap [] := va_S.rf
  have hl : lv_has ls 2 [(0, .ref h), (1, .int i)] := hl
  refine lv_iload_n hx hb d_Mo_at_0 rfl (lv_at hl 1 rfl) ?_
  refine lv_if_lt (tgt := 21) hx hb d_Mo_at_1 (by decide) (fun c1 => ?_) (fun c1 => ?_)
  · refine lv_iconst (v := (-1)) hx hb d_Mo_at_21 (by decide) ?_
    exact x_pi E hr (by rw [mo_at, if_pos c1]) d_Mo_at_22
  · refine lv_iload_n hx hb d_Mo_at_4 rfl (lv_at hl 1 rfl) ?_
    refine lv_aload_n hx hb d_Mo_at_5 rfl (lv_at hl 0 rfl) ?_
    refine x_get E hP eB.1 rfl cl6_in 22 (by decide) wf_Mo_138 rfl d_Mo_at_6 ?_
    refine lv_icmp_ge (tgt := 21) hx hb d_Mo_at_9 (by decide) (fun c9 => ?_) (fun c9 => ?_)
    · refine lv_iconst (v := (-1)) hx hb d_Mo_at_21 (by decide) ?_
      exact x_pi E hr (by rw [mo_at, if_neg c1, if_pos c9]) d_Mo_at_22
    · obtain ⟨i0, hi0, hi⟩ := x_ix (n := n) (by omega) c1 c9
      refine lv_aload_n hx hb d_Mo_at_12 rfl (lv_at hl 0 rfl) ?_
      refine x_get E hP eB.1 rfl cl6_in 23 (by decide) wf_Mo_60 rfl d_Mo_at_13 ?_
      refine lv_iload_n hx hb d_Mo_at_16 rfl (lv_at hl 1 rfl) ?_
      refine x_iald E hP eB.2.2.2.2.2.2.2.2.2.2.2.2.2.2.2.2.2 (j := i0) hi (by omega) (by decide) d_Mo_at_17 ?_
      refine lv_goto (tgt := 22) hx hb d_Mo_at_18 (by decide) ?_
      exact x_pi E hr (by rw [mo_at, if_neg c1, if_neg c9, hi, nI_clamp (by omega)]) d_Mo_at_22
set_option maxRecDepth 100000 in
set_option maxHeartbeats 4000000 in
theorem c_Mo_letterOf (l : Launch) (g : xG) (b0 : Nat) (ws : va_W) (x : Int32) : xRi l g b0 y_Mo_letterOf b_Mo_letterOf 1 (some .int) 0 [.int x] ws (fun r => r = mo_letter x) := by
  unfold xRi
  refine x_in (by decide) (Nat.le_of_ble_eq_true rfl) ?_
  intro p e s m below meth c ls E hr hin hP hD hl
  obtain ⟨hx, hb, hml, hown, hts, hK, hZ, hb0, hlocks⟩ := id E
  have hS : va_S (xA b0) s.heap s.heap [] := va_S.rf
  have hl : lv_has ls 1 [(0, .int x)] := hl
  refine lv_iload_n hx hb d_Mo_letterOf_0 rfl (lv_at hl 0 rfl) ?_
  refine lv_if_ne (tgt := 9) hx hb d_Mo_letterOf_1 (by decide) (fun c1 => ?_) (fun c1 => ?_)
  · refine lv_iload_n hx hb d_Mo_letterOf_9 rfl (lv_at hl 0 rfl) ?_
    refine lv_iconst (v := 1) hx hb d_Mo_letterOf_10 (by decide) ?_
    refine lv_icmp_ne (tgt := 19) hx hb d_Mo_letterOf_11 (by decide) (fun c11 => ?_) (fun c11 => ?_)
    · refine lv_iload_n hx hb d_Mo_letterOf_19 rfl (lv_at hl 0 rfl) ?_
      refine lv_iconst (v := 2) hx hb d_Mo_letterOf_20 (by decide) ?_
      refine lv_icmp_ne (tgt := 29) hx hb d_Mo_letterOf_21 (by decide) (fun c21 => ?_) (fun c21 => ?_)
      · refine lv_iload_n hx hb d_Mo_letterOf_29 rfl (lv_at hl 0 rfl) ?_
        refine lv_iconst (v := 3) hx hb d_Mo_letterOf_30 (by decide) ?_
        refine lv_icmp_ne (tgt := 39) hx hb d_Mo_letterOf_31 (by decide) (fun c31 => ?_) (fun c31 => ?_)
        · refine lv_bipush (v := 83) hx hb d_Mo_letterOf_39 (by decide) ?_
          exact x_pi E hr (by rw [mo_letter, if_neg c1, if_neg c11, if_neg c21, if_neg c31]) d_Mo_letterOf_41
        · refine lv_bipush (v := 71) hx hb d_Mo_letterOf_34 (by decide) ?_
          refine lv_goto (tgt := 41) hx hb d_Mo_letterOf_36 (by decide) ?_
          exact x_pi E hr (by rw [mo_letter, if_neg c1, if_neg c11, if_neg c21, if_pos c31]) d_Mo_letterOf_41
      · refine lv_bipush (v := 82) hx hb d_Mo_letterOf_24 (by decide) ?_
        refine lv_goto (tgt := 41) hx hb d_Mo_letterOf_26 (by decide) ?_
        exact x_pi E hr (by rw [mo_letter, if_neg c1, if_neg c11, if_pos c21]) d_Mo_letterOf_41
    · refine lv_bipush (v := 66) hx hb d_Mo_letterOf_14 (by decide) ?_
      refine lv_goto (tgt := 41) hx hb d_Mo_letterOf_16 (by decide) ?_
      exact x_pi E hr (by rw [mo_letter, if_neg c1, if_pos c11]) d_Mo_letterOf_41
  · refine lv_bipush (v := 70) hx hb d_Mo_letterOf_4 (by decide) ?_
    refine lv_goto (tgt := 41) hx hb d_Mo_letterOf_6 (by decide) ?_
    exact x_pi E hr (by rw [mo_letter, if_pos c1]) d_Mo_letterOf_41
