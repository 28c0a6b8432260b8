def mo_g1 (f6 f7 f10 : Nat → Int32) (m a j : Nat) : Int32 := if mo_tg f7 f10 m a j = -1 then 0 else if f6 (mo_tg f7 f10 m a j).toNatClampNeg = 3 then 1 else 0
def mo_sm (f11 : Nat → Int32) (a : Nat) (k : Nat) (v : Int32) : Int32 := if v = 0 then (if f11 (24 * k + a) = 0 then 0 else 1) else 1
/-- is part a wrong, by the kind kd, in its way j -/
def mo_wr (f6 f7 f8 f10 f11 : Nat → Int32) (m kd a j : Nat) : Int32 :=
  if kd = 1 then (if f10 (2 * a + j) = -1 then 0 else if mo_tg f7 f10 m a j = -1 then 1 else 0)
  else if kd = 2 then (if f6 a = 3 then (if mo_gap f6 f8 f11 m a = -1 then 0 else if f8 a ≤ mo_gap f6 f8 f11 m a then 0 else 1) else 0)
  else if kd = 3 then (if f6 a = 3 then (if mo_g1 f6 f7 f10 m a 0 = 0 then (if mo_g1 f6 f7 f10 m a 1 = 0 then 0 else 1) else 1) else 0)
  else if kd = 4 then f11 (24 * a + a)
  else if kd = 5 then (if f6 a = 4 then (if mo_gap f6 f8 f11 m a = -1 then 1 else 0) else 0)
  else (if f6 a = 0 then (if it (mo_sm f11 a) m 0 = 0 then 0 else 1) else 0)
theorem mo_wr_1 {f6 f7 f8 f10 f11 : Nat → Int32} {m a j : Nat} : mo_wr f6 f7 f8 f10 f11 m 1 a j = if f10 (2 * a + j) = -1 then 0 else if mo_tg f7 f10 m a j = -1 then 1 else 0 := rfl
theorem mo_wr_2 {f6 f7 f8 f10 f11 : Nat → Int32} {m a j : Nat} : mo_wr f6 f7 f8 f10 f11 m 2 a j = if f6 a = 3 then (if mo_gap f6 f8 f11 m a = -1 then 0 else if f8 a ≤ mo_gap f6 f8 f11 m a then 0 else 1) else 0 := rfl
theorem mo_wr_3 {f6 f7 f8 f10 f11 : Nat → Int32} {m a j : Nat} : mo_wr f6 f7 f8 f10 f11 m 3 a j = if f6 a = 3 then (if mo_g1 f6 f7 f10 m a 0 = 0 then (if mo_g1 f6 f7 f10 m a 1 = 0 then 0 else 1) else 1) else 0 := rfl
theorem mo_wr_4 {f6 f7 f8 f10 f11 : Nat → Int32} {m a j : Nat} : mo_wr f6 f7 f8 f10 f11 m 4 a j = f11 (24 * a + a) := rfl
theorem mo_wr_5 {f6 f7 f8 f10 f11 : Nat → Int32} {m a j : Nat} : mo_wr f6 f7 f8 f10 f11 m 5 a j = if f6 a = 4 then (if mo_gap f6 f8 f11 m a = -1 then 1 else 0) else 0 := rfl
theorem mo_wr_6 {f6 f7 f8 f10 f11 : Nat → Int32} {m a j : Nat} : mo_wr f6 f7 f8 f10 f11 m 6 a j = if f6 a = 0 then (if it (mo_sm f11 a) m 0 = 0 then 0 else 1) else 0 := rfl
set_option maxRecDepth 100000 in
set_option maxHeartbeats 4000000 in
theorem c_Mo_isWrong_1 (l : Launch) (g : xG) (b0 : Nat) (ws : va_W) {q h : Nat} {ad : Nat → Nat} {s0 s1 s2 s3 s5 s6 : Int32} {f0 f1 f2 f3 f4 f5 f6 f7 f8 f9 f10 f11 f12 f13 f14 f16 : Nat → Int32} {f15 : Nat → Int64} {m9 : Nat} (eB : xMo g ws q h ad s0 s1 s2 s3 (nI m9) s5 s6 f0 f1 f2 f3 f4 f5 f6 f7 f8 f9 f10 f11 f12 f13 f14 f15 f16) (hm9 : m9 ≤ 24) (a j : Nat) (ha : a < m9) (hj : j < 2) : xRi l g b0 y_Mo_isWrong b_Mo_isWrong 8 (some .boolean) 2 [.ref h, .int 1, .int (nI a), .int (nI j)] ws (fun r => r = mo_wr f6 f7 f8 f10 f11 m9 1 a j) := by
  unfold xRi
  refine x_in (by decide) (Nat.le_of_ble_eq_true rfl) ?_
  intro p e s m below meth c ls E hr hin hP hD hl
  obtain ⟨hx, hb, hml, hown, hts, hK, hZ, hb0, hlocks⟩ := id E
  have hS : va_S (xA b0) s.heap s.heap [] := va_S.rf
  have hl : lv_has ls 8 [(0, .ref h), (1, .int 1), (2, .int (nI a)), (3, .int (nI j))] := hl
  refine lv_iload_n hx hb d_Mo_isWrong_0 rfl (lv_at hl 1 rfl) ?_
  refine lv_tableIn (off := 35) (tgt := 36) hx hb d_Mo_isWrong_1 (by decide) (by decide) (by decide) (by decide) ?_
  refine lv_aload_n hx hb d_Mo_isWrong_36 rfl (lv_at hl 0 rfl) ?_
  refine x_get E hP eB.1 rfl cl6_in 15 (by decide) wf_Mo_40 rfl d_Mo_isWrong_37 ?_
  refine lv_iconst (v := 2) hx hb d_Mo_isWrong_40 (by decide) ?_
  refine lv_iload_n hx hb d_Mo_isWrong_41 rfl (lv_at hl 2 rfl) ?_
  refine lv_imul hx hb d_Mo_isWrong_42 ?_
  refine lv_iload_n hx hb d_Mo_isWrong_43 rfl (lv_at hl 3 rfl) ?_
  refine lv_iadd hx hb d_Mo_isWrong_44 ?_
  refine x_top (y := nI (2 * a + j)) ((congrArg (· + nI j) (pk_mul 2 a)).trans (nI_add (2 * a) j)) ?_
  refine x_iald E hP eB.2.2.2.2.2.2.2.2.2.2.2.1 (j := 2 * a + j) rfl (by omega) (by decide) d_Mo_isWrong_45 ?_
  refine lv_iconst (v := (-1)) hx hb d_Mo_isWrong_46 (by decide) ?_
  refine lv_icmp_eq (tgt := 64) hx hb d_Mo_isWrong_47 (by decide) (fun c47 => ?_) (fun c47 => ?_)
  · refine lv_iconst (v := 0) hx hb d_Mo_isWrong_64 (by decide) ?_
    exact x_pz E hr rfl (by rw [mo_wr_1, if_pos c47]) d_Mo_isWrong_65
  · refine lv_aload_n hx hb d_Mo_isWrong_50 rfl (lv_at hl 0 rfl) ?_
    refine lv_iload_n hx hb d_Mo_isWrong_51 rfl (lv_at hl 2 rfl) ?_
    refine lv_iload_n hx hb d_Mo_isWrong_52 rfl (lv_at hl 3 rfl) ?_
    refine x_cRi (As := [.int (nI a), .int (nI j)]) (rest := []) E (c_Mo_target l g b0 _ eB hm9 (nI a) (nI j) a j rfl rfl (by omega) (by omega)) wy_Mo_target wl_Mo_113 hP hD hS eB.1 rfl hl.1 ⟨by decide, by decide⟩ ⟨Nat.le_refl _, Nat.le_refl _⟩ rfl (Nat.le_of_ble_eq_true rfl) d_Mo_isWrong_53 (fun r53 hr53 => ?_)
    subst hr53
    refine lv_iconst (v := (-1)) hx hb d_Mo_isWrong_56 (by decide) ?_
    refine lv_icmp_ne (tgt := 64) hx hb d_Mo_isWrong_57 (by decide) (fun c57 => ?_) (fun c57 => ?_)
    · refine lv_iconst (v := 0) hx hb d_Mo_isWrong_64 (by decide) ?_
      exact x_pz E hr rfl (by rw [mo_wr_1, if_neg c47, if_neg c57]) d_Mo_isWrong_65
    · refine lv_iconst (v := 1) hx hb d_Mo_isWrong_60 (by decide) ?_
      refine lv_goto (tgt := 65) hx hb d_Mo_isWrong_61 (by decide) ?_
      exact x_pz E hr rfl (by rw [mo_wr_1, if_neg c47, if_pos c57]) d_Mo_isWrong_65
set_option maxRecDepth 100000 in
set_option maxHeartbeats 4000000 in
theorem c_Mo_isWrong_2 (l : Launch) (g : xG) (b0 : Nat) (ws : va_W) {q h : Nat} {ad : Nat → Nat} {s0 s1 s2 s3 s5 s6 : Int32} {f0 f1 f2 f3 f4 f5 f6 f7 f8 f9 f10 f11 f12 f13 f14 f16 : Nat → Int32} {f15 : Nat → Int64} {m9 : Nat} (eB : xMo g ws q h ad s0 s1 s2 s3 (nI m9) s5 s6 f0 f1 f2 f3 f4 f5 f6 f7 f8 f9 f10 f11 f12 f13 f14 f15 f16) (hm9 : m9 ≤ 24) (a j : Nat) (ha : a < m9) (hj : j < 2) : xRi l g b0 y_Mo_isWrong b_Mo_isWrong 8 (some .boolean) 2 [.ref h, .int 2, .int (nI a), .int (nI j)] ws (fun r => r = mo_wr f6 f7 f8 f10 f11 m9 2 a j) := by
  unfold xRi
  refine x_in (by decide) (Nat.le_of_ble_eq_true rfl) ?_
  intro p e s m below meth c ls E hr hin hP hD hl
  obtain ⟨hx, hb, hml, hown, hts, hK, hZ, hb0, hlocks⟩ := id E
  have hS : va_S (xA b0) s.heap s.heap [] := va_S.rf
  have hl : lv_has ls 8 [(0, .ref h), (1, .int 2), (2, .int (nI a)), (3, .int (nI j))] := hl
  refine lv_iload_n hx hb d_Mo_isWrong_0 rfl (lv_at hl 1 rfl) ?_
  refine lv_tableIn (off := 65) (tgt := 66) hx hb d_Mo_isWrong_1 (by decide) (by decide) (by decide) (by decide) ?_
  refine lv_aload_n hx hb d_Mo_isWrong_66 rfl (lv_at hl 0 rfl) ?_
  refine x_get E hP eB.1 rfl cl6_in 11 (by decide) wf_Mo_28 rfl d_Mo_isWrong_67 ?_
  refine lv_iload_n hx hb d_Mo_isWrong_70 rfl (lv_at hl 2 rfl) ?_
  refine x_iald E hP eB.2.2.2.2.2.2.2.1 (j := a) rfl (by omega) (by decide) d_Mo_isWrong_71 ?_
  refine lv_iconst (v := 3) hx hb d_Mo_isWrong_72 (by decide) ?_
  refine lv_icmp_ne (tgt := 103) hx hb d_Mo_isWrong_73 (by decide) (fun c73 => ?_) (fun c73 => ?_)
  · refine lv_iconst (v := 0) hx hb d_Mo_isWrong_103 (by decide) ?_
    exact x_pz E hr rfl (by rw [mo_wr_2, if_neg c73]) d_Mo_isWrong_104
  · refine lv_aload_n hx hb d_Mo_isWrong_76 rfl (lv_at hl 0 rfl) ?_
    refine lv_iload_n hx hb d_Mo_isWrong_77 rfl (lv_at hl 2 rfl) ?_
    refine x_cRi (As := [.int (nI a)]) (rest := []) E (c_Mo_gapOf l g b0 _ eB hm9 (nI a) a rfl (by omega)) wy_Mo_gapOf wl_Mo_116 hP hD hS eB.1 rfl hl.1 ⟨by decide, by decide⟩ ⟨Nat.le_refl _, Nat.le_refl _⟩ rfl (Nat.le_of_ble_eq_true rfl) d_Mo_isWrong_78 (fun r78 hr78 => ?_)
    subst hr78
    refine lv_iconst (v := (-1)) hx hb d_Mo_isWrong_81 (by decide) ?_
    refine lv_icmp_eq (tgt := 103) hx hb d_Mo_isWrong_82 (by decide) (fun c82 => ?_) (fun c82 => ?_)
    · refine lv_iconst (v := 0) hx hb d_Mo_isWrong_103 (by decide) ?_
      exact x_pz E hr rfl (by rw [mo_wr_2, if_pos c73, if_pos c82]) d_Mo_isWrong_104
    · refine lv_aload_n hx hb d_Mo_isWrong_85 rfl (lv_at hl 0 rfl) ?_
      refine x_get E hP eB.1 rfl cl6_in 13 (by decide) wf_Mo_34 rfl d_Mo_isWrong_86 ?_
      refine lv_iload_n hx hb d_Mo_isWrong_89 rfl (lv_at hl 2 rfl) ?_
      refine x_iald E hP eB.2.2.2.2.2.2.2.2.2.1 (j := a) rfl (by omega) (by decide) d_Mo_isWrong_90 ?_
      refine lv_aload_n hx hb d_Mo_isWrong_91 rfl (lv_at hl 0 rfl) ?_
      refine lv_iload_n hx hb d_Mo_isWrong_92 rfl (lv_at hl 2 rfl) ?_
      refine x_cRi (As := [.int (nI a)]) (rest := [.int (f8 a)]) E (c_Mo_gapOf l g b0 _ eB hm9 (nI a) a rfl (by omega)) wy_Mo_gapOf wl_Mo_116 hP hD hS eB.1 rfl hl.1 ⟨by decide, by decide⟩ ⟨Nat.le_refl _, Nat.le_refl _⟩ rfl (Nat.le_of_ble_eq_true rfl) d_Mo_isWrong_93 (fun r93 hr93 => ?_)
      subst hr93
      refine lv_icmp_le (tgt := 103) hx hb d_Mo_isWrong_96 (by decide) (fun c96 => ?_) (fun c96 => ?_)
      · refine lv_iconst (v := 0) hx hb d_Mo_isWrong_103 (by decide) ?_
        exact x_pz E hr rfl (by rw [mo_wr_2, if_pos c73, if_neg c82, if_pos c96]) d_Mo_isWrong_104
      · refine lv_iconst (v := 1) hx hb d_Mo_isWrong_99 (by decide) ?_
        refine lv_goto (tgt := 104) hx hb d_Mo_isWrong_100 (by decide) ?_
        exact x_pz E hr rfl (by rw [mo_wr_2, if_pos c73, if_neg c82, if_neg c96]) d_Mo_isWrong_104
set_option maxRecDepth 100000 in
set_option maxHeartbeats 4000000 in
theorem c_Mo_isWrong_3 (l : Launch) (g : xG) (b0 : Nat) (ws : va_W) {q h : Nat} {ad : Nat → Nat} {s0 s1 s2 s3 s5 s6 : Int32} {f0 f1 f2 f3 f4 f5 f6 f7 f8 f9 f10 f11 f12 f13 f14 f16 : Nat → Int32} {f15 : Nat → Int64} {m9 : Nat} (eB : xMo g ws q h ad s0 s1 s2 s3 (nI m9) s5 s6 f0 f1 f2 f3 f4 f5 f6 f7 f8 f9 f10 f11 f12 f13 f14 f15 f16) (hm9 : m9 ≤ 24) (a j : Nat) (ha : a < m9) (hj : j < 2) : xRi l g b0 y_Mo_isWrong b_Mo_isWrong 8 (some .boolean) 2 [.ref h, .int 3, .int (nI a), .int (nI j)] ws (fun r => r = mo_wr f6 f7 f8 f10 f11 m9 3 a j) := by
  unfold xRi
  refine x_in (by decide) (Nat.le_of_ble_eq_true rfl) ?_
  intro p e s m below meth c ls E hr hin hP hD hl
  obtain ⟨hx, hb, hml, hown, hts, hK, hZ, hb0, hlocks⟩ := id E
  have hS : va_S (xA b0) s.heap s.heap [] := va_S.rf
  have hl : lv_has ls 8 [(0, .ref h), (1, .int 3), (2, .int (nI a)), (3, .int (nI j))] := hl
  refine lv_iload_n hx hb d_Mo_isWrong_0 rfl (lv_at hl 1 rfl) ?_
  refine lv_tableIn (off := 104) (tgt := 105) hx hb d_Mo_isWrong_1 (by decide) (by decide) (by decide) (by decide) ?_
  have j169 : ∀ (o1 : Int32) (o2 : Int32) (ls : Array Slot), (o1 = mo_g1 f6 f7 f10 m9 a 0) → (o2 = mo_g1 f6 f7 f10 m9 a 1) → (lv_has ls 8 [(5, .int o2), (4, .int o1), (0, .ref h), (1, .int 3), (2, .int (nI a)), (3, .int (nI j))]) → W p l e (rmL 2) s m ([.ref h, .int 3, .int (nI a), .int (nI j)] : List Value).toArray below meth c s.heap [] 0 0 (MQ below (vp_Si (fun r => r = mo_wr f6 f7 f8 f10 f11 m9 3 a j)) ([.ref h, .int 3, .int (nI a), .int (nI j)] : List Value).toArray s 0 0 (fun _ => False)) (F0 m 169 ls []) := by
    intro o1 o2 ls ho1 ho2 hl
    refine lv_aload_n hx hb d_Mo_isWrong_169 rfl (lv_at hl 2 rfl) ?_
    refine x_get E hP eB.1 rfl cl6_in 11 (by decide) wf_Mo_28 rfl d_Mo_isWrong_170 ?_
    refine lv_iload_n hx hb d_Mo_isWrong_173 rfl (lv_at hl 4 rfl) ?_
    refine x_iald E hP eB.2.2.2.2.2.2.2.1 (j := a) rfl (by omega) (by decide) d_Mo_isWrong_174 ?_
    refine lv_iconst (v := 3) hx hb d_Mo_isWrong_175 (by decide) ?_
    refine lv_icmp_ne (tgt := 193) hx hb d_Mo_isWrong_176 (by decide) (fun c176 => ?_) (fun c176 => ?_)
    · refine lv_iconst (v := 0) hx hb d_Mo_isWrong_193 (by decide) ?_
      exact x_pz E hr rfl (by rw [mo_wr_3, if_neg c176]) d_Mo_isWrong_194
    · refine lv_iload hx hb d_Mo_isWrong_179 (lv_at hl 1 rfl) ?_
      refine lv_if_ne (tgt := 189) hx hb d_Mo_isWrong_181 (by decide) (fun c181 => ?_) (fun c181 => ?_)
      · refine lv_iconst (v := 1) hx hb d_Mo_isWrong_189 (by decide) ?_
        refine lv_goto (tgt := 194) hx hb d_Mo_isWrong_190 (by decide) ?_
        exact x_pz E hr rfl (by rw [mo_wr_3, if_pos c176, if_neg (by rw [← ho1]; exact c181)]) d_Mo_isWrong_194
      · refine lv_iload hx hb d_Mo_isWrong_184 (lv_at hl 0 rfl) ?_
        refine lv_if_eq (tgt := 193) hx hb d_Mo_isWrong_186 (by decide) (fun c186 => ?_) (fun c186 => ?_)
        · refine lv_iconst (v := 0) hx hb d_Mo_isWrong_193 (by decide) ?_
          exact x_pz E hr rfl (by rw [mo_wr_3, if_pos c176, if_pos (by rw [← ho1]; exact c181), if_pos (by rw [← ho2]; exact c186)]) d_Mo_isWrong_194
        · refine lv_iconst (v := 1) hx hb d_Mo_isWrong_189 (by decide) ?_
          refine lv_goto (tgt := 194) hx hb d_Mo_isWrong_190 (by decide) ?_
          exact x_pz E hr rfl (by rw [mo_wr_3, if_pos c176, if_pos (by rw [← ho1]; exact c181), if_neg (by rw [← ho2]; exact c186)]) d_Mo_isWrong_194
  have j137 : ∀ (o1 : Int32) (ls : Array Slot), (o1 = mo_g1 f6 f7 f10 m9 a 0) → (lv_has ls 8 [(4, .int o1), (0, .ref h), (1, .int 3), (2, .int (nI a)), (3, .int (nI j))]) → W p l e (rmL 2) s m ([.ref h, .int 3, .int (nI a), .int (nI j)] : List Value).toArray below meth c s.heap [] 0 0 (MQ below (vp_Si (fun r => r = mo_wr f6 f7 f8 f10 f11 m9 3 a j)) ([.ref h, .int 3, .int (nI a), .int (nI j)] : List Value).toArray s 0 0 (fun _ => False)) (F0 m 137 ls []) := by
    intro o1 ls ho1 hl
    refine lv_aload_n hx hb d_Mo_isWrong_137 rfl (lv_at hl 1 rfl) ?_
    refine lv_iload_n hx hb d_Mo_isWrong_138 rfl (lv_at hl 3 rfl) ?_
    refine lv_iconst (v := 1) hx hb d_Mo_isWrong_139 (by decide) ?_
    refine x_cRi (As := [.int (nI a), .int 1]) (rest := []) E (c_Mo_target l g b0 _ eB hm9 (nI a) (nI 1) a 1 rfl rfl (by omega) (by decide)) wy_Mo_target wl_Mo_113 hP hD hS eB.1 rfl hl.1 ⟨by decide, by decide⟩ ⟨Nat.le_refl _, Nat.le_refl _⟩ rfl (Nat.le_of_ble_eq_true rfl) d_Mo_isWrong_140 (fun r140 hr140 => ?_)
    subst hr140
    refine lv_iconst (v := (-1)) hx hb d_Mo_isWrong_143 (by decide) ?_
    refine lv_icmp_eq (tgt := 166) hx hb d_Mo_isWrong_144 (by decide) (fun c144 => ?_) (fun c144 => ?_)
    · refine lv_iconst (v := 0) hx hb d_Mo_isWrong_166 (by decide) ?_
      refine lv_istore (lv' := [(5, .int 0), (4, .int o1), (0, .ref h), (1, .int 3), (2, .int (nI a)), (3, .int (nI j))]) hx hb d_Mo_isWrong_167 hl (by decide) rfl (fun ls hl => ?_)
      exact j169 o1 0 _ ho1 (by rw [mo_g1, if_pos c144]) hl
    · obtain ⟨b7, hb6, hb7⟩ := (mo_tg_in f7 f10 m9 a 1).resolve_left c144
      refine lv_aload_n hx hb d_Mo_isWrong_147 rfl (lv_at hl 1 rfl) ?_
      refine x_get E hP eB.1 rfl cl6_in 11 (by decide) wf_Mo_28 rfl d_Mo_isWrong_148 ?_
      refine lv_aload_n hx hb d_Mo_isWrong_151 rfl (lv_at hl 1 rfl) ?_
      refine lv_iload_n hx hb d_Mo_isWrong_152 rfl (lv_at hl 3 rfl) ?_
      refine lv_iconst (v := 1) hx hb d_Mo_isWrong_153 (by decide) ?_
      refine x_cRi (As := [.int (nI a), .int 1]) (rest := [.ref (ad 6)]) E (c_Mo_target l g b0 _ eB hm9 (nI a) (nI 1) a 1 rfl rfl (by omega) (by decide)) wy_Mo_target wl_Mo_113 hP hD hS eB.1 rfl hl.1 ⟨by decide, by decide⟩ ⟨Nat.le_refl _, Nat.le_refl _⟩ rfl (Nat.le_of_ble_eq_true rfl) d_Mo_isWrong_154 (fun r154 hr154 => ?_)
      subst hr154
      refine x_iald E hP eB.2.2.2.2.2.2.2.1 (j := b7) hb7 (by omega) (by decide) d_Mo_isWrong_157 ?_
      refine x_top (y := f6 (mo_tg f7 f10 m9 a 1).toNatClampNeg) (by rw [hb7, nI_clamp (by omega)]) ?_
      refine lv_iconst (v := 3) hx hb d_Mo_isWrong_158 (by decide) ?_
      refine lv_icmp_ne (tgt := 166) hx hb d_Mo_isWrong_159 (by decide) (fun c159 => ?_) (fun c159 => ?_)
      · refine lv_iconst (v := 0) hx hb d_Mo_isWrong_166 (by decide) ?_
        refine lv_istore (lv' := [(5, .int 0), (4, .int o1), (0, .ref h), (1, .int 3), (2, .int (nI a)), (3, .int (nI j))]) hx hb d_Mo_isWrong_167 hl (by decide) rfl (fun ls hl => ?_)
        exact j169 o1 0 _ ho1 (by rw [mo_g1, if_neg c144, if_neg c159]) hl
      · refine lv_iconst (v := 1) hx hb d_Mo_isWrong_162 (by decide) ?_
        refine lv_goto (tgt := 167) hx hb d_Mo_isWrong_163 (by decide) ?_
        refine lv_istore (lv' := [(5, .int 1), (4, .int o1), (0, .ref h), (1, .int 3), (2, .int (nI a)), (3, .int (nI j))]) hx hb d_Mo_isWrong_167 hl (by decide) rfl (fun ls hl => ?_)
        exact j169 o1 1 _ ho1 (by rw [mo_g1, if_neg c144, if_pos c159]) hl
  refine lv_aload_n hx hb d_Mo_isWrong_105 rfl (lv_at hl 0 rfl) ?_
  refine lv_iload_n hx hb d_Mo_isWrong_106 rfl (lv_at hl 2 rfl) ?_
  refine lv_iconst (v := 0) hx hb d_Mo_isWrong_107 (by decide) ?_
  refine x_cRi (As := [.int (nI a), .int 0]) (rest := []) E (c_Mo_target l g b0 _ eB hm9 (nI a) (nI 0) a 0 rfl rfl (by omega) (by decide)) wy_Mo_target wl_Mo_113 hP hD hS eB.1 rfl hl.1 ⟨by decide, by decide⟩ ⟨Nat.le_refl _, Nat.le_refl _⟩ rfl (Nat.le_of_ble_eq_true rfl) d_Mo_isWrong_108 (fun r108 hr108 => ?_)
  subst hr108
  refine lv_iconst (v := (-1)) hx hb d_Mo_isWrong_111 (by decide) ?_
  refine lv_icmp_eq (tgt := 134) hx hb d_Mo_isWrong_112 (by decide) (fun c112 => ?_) (fun c112 => ?_)
  · refine lv_iconst (v := 0) hx hb d_Mo_isWrong_134 (by decide) ?_
    refine lv_istore (lv' := [(4, .int 0), (0, .ref h), (1, .int 3), (2, .int (nI a)), (3, .int (nI j))]) hx hb d_Mo_isWrong_135 hl (by decide) rfl (fun ls hl => ?_)
    exact j137 0 _ (by rw [mo_g1, if_pos c112]) hl
  · obtain ⟨b7, hb6, hb7⟩ := (mo_tg_in f7 f10 m9 a 0).resolve_left c112
    refine lv_aload_n hx hb d_Mo_isWrong_115 rfl (lv_at hl 0 rfl) ?_
    refine x_get E hP eB.1 rfl cl6_in 11 (by decide) wf_Mo_28 rfl d_Mo_isWrong_116 ?_
    refine lv_aload_n hx hb d_Mo_isWrong_119 rfl (lv_at hl 0 rfl) ?_
    refine lv_iload_n hx hb d_Mo_isWrong_120 rfl (lv_at hl 2 rfl) ?_
    refine lv_iconst (v := 0) hx hb d_Mo_isWrong_121 (by decide) ?_
    refine x_cRi (As := [.int (nI a), .int 0]) (rest := [.ref (ad 6)]) E (c_Mo_target l g b0 _ eB hm9 (nI a) (nI 0) a 0 rfl rfl (by omega) (by decide)) wy_Mo_target wl_Mo_113 hP hD hS eB.1 rfl hl.1 ⟨by decide, by decide⟩ ⟨Nat.le_refl _, Nat.le_refl _⟩ rfl (Nat.le_of_ble_eq_true rfl) d_Mo_isWrong_122 (fun r122 hr122 => ?_)
    subst hr122
    refine x_iald E hP eB.2.2.2.2.2.2.2.1 (j := b7) hb7 (by omega) (by decide) d_Mo_isWrong_125 ?_
    refine x_top (y := f6 (mo_tg f7 f10 m9 a 0).toNatClampNeg) (by rw [hb7, nI_clamp (by omega)]) ?_
    refine lv_iconst (v := 3) hx hb d_Mo_isWrong_126 (by decide) ?_
    refine lv_icmp_ne (tgt := 134) hx hb d_Mo_isWrong_127 (by decide) (fun c127 => ?_) (fun c127 => ?_)
    · refine lv_iconst (v := 0) hx hb d_Mo_isWrong_134 (by decide) ?_
      refine lv_istore (lv' := [(4, .int 0), (0, .ref h), (1, .int 3), (2, .int (nI a)), (3, .int (nI j))]) hx hb d_Mo_isWrong_135 hl (by decide) rfl (fun ls hl => ?_)
      exact j137 0 _ (by rw [mo_g1, if_neg c112, if_neg c127]) hl
    · refine lv_iconst (v := 1) hx hb d_Mo_isWrong_130 (by decide) ?_
      refine lv_goto (tgt := 135) hx hb d_Mo_isWrong_131 (by decide) ?_
      refine lv_istore (lv' := [(4, .int 1), (0, .ref h), (1, .int 3), (2, .int (nI a)), (3, .int (nI j))]) hx hb d_Mo_isWrong_135 hl (by decide) rfl (fun ls hl => ?_)
      exact j137 1 _ (by rw [mo_g1, if_neg c112, if_pos c127]) hl
set_option maxRecDepth 100000 in
set_option maxHeartbeats 4000000 in
theorem c_Mo_isWrong_4 (l : Launch) (g : xG) (b0 : Nat) (ws : va_W) {q h : Nat} {ad : Nat → Nat} {s0 s1 s2 s3 s5 s6 : Int32} {f0 f1 f2 f3 f4 f5 f6 f7 f8 f9 f10 f11 f12 f13 f14 f16 : Nat → Int32} {f15 : Nat → Int64} {m9 : Nat} (eB : xMo g ws q h ad s0 s1 s2 s3 (nI m9) s5 s6 f0 f1 f2 f3 f4 f5 f6 f7 f8 f9 f10 f11 f12 f13 f14 f15 f16) (hm9 : m9 ≤ 24) (a j : Nat) (ha : a < m9) (hj : j < 2) (hL : ∀ i, i < 576 → f11 i = 0 ∨ f11 i = 1) : xRi l g b0 y_Mo_isWrong b_Mo_isWrong 8 (some .boolean) 2 [.ref h, .int 4, .int (nI a), .int (nI j)] ws (fun r => r = mo_wr f6 f7 f8 f10 f11 m9 4 a j) := by
  unfold xRi
  refine x_in (by decide) (Nat.le_of_ble_eq_true rfl) ?_
  intro p e s m below meth c ls E hr hin hP hD hl
  obtain ⟨hx, hb, hml, hown, hts, hK, hZ, hb0, hlocks⟩ := id E
  have hS : va_S (xA b0) s.heap s.heap [] := va_S.rf
  have hl : lv_has ls 8 [(0, .ref h), (1, .int 4), (2, .int (nI a)), (3, .int (nI j))] := hl
  refine lv_iload_n hx hb d_Mo_isWrong_0 rfl (lv_at hl 1 rfl) ?_
  refine lv_tableIn (off := 194) (tgt := 195) hx hb d_Mo_isWrong_1 (by decide) (by decide) (by decide) (by decide) ?_
  refine lv_aload_n hx hb d_Mo_isWrong_195 rfl (lv_at hl 0 rfl) ?_
  refine x_get E hP eB.1 rfl cl6_in 16 (by decide) wf_Mo_43 rfl d_Mo_isWrong_196 ?_
  refine lv_bipush (v := 24) hx hb d_Mo_isWrong_199 (by decide) ?_
  refine lv_iload_n hx hb d_Mo_isWrong_201 rfl (lv_at hl 2 rfl) ?_
  refine lv_imul hx hb d_Mo_isWrong_202 ?_
  refine lv_iload_n hx hb d_Mo_isWrong_203 rfl (lv_at hl 2 rfl) ?_
  refine lv_iadd hx hb d_Mo_isWrong_204 ?_
  refine x_top (y := nI (24 * a + a)) ((congrArg (· + nI a) (pk_mul 24 a)).trans (nI_add (24 * a) a)) ?_
  refine x_zald E hP eB.2.2.2.2.2.2.2.2.2.2.2.2.1 (j := 24 * a + a) rfl (by omega) (by decide) d_Mo_isWrong_205 ?_
  exact x_pz E hr (by rcases hL (24 * a + a) (by omega) with h | h <;> rw [h] <;> rfl) mo_wr_4.symm d_Mo_isWrong_206
set_option maxRecDepth 100000 in
set_option maxHeartbeats 4000000 in
theorem c_Mo_isWrong_5 (l : Launch) (g : xG) (b0 : Nat) (ws : va_W) {q h : Nat} {ad : Nat → Nat} {s0 s1 s2 s3 s5 s6 : Int32} {f0 f1 f2 f3 f4 f5 f6 f7 f8 f9 f10 f11 f12 f13 f14 f16 : Nat → Int32} {f15 : Nat → Int64} {m9 : Nat} (eB : xMo g ws q h ad s0 s1 s2 s3 (nI m9) s5 s6 f0 f1 f2 f3 f4 f5 f6 f7 f8 f9 f10 f11 f12 f13 f14 f15 f16) (hm9 : m9 ≤ 24) (a j : Nat) (ha : a < m9) (hj : j < 2) : xRi l g b0 y_Mo_isWrong b_Mo_isWrong 8 (some .boolean) 2 [.ref h, .int 5, .int (nI a), .int (nI j)] ws (fun r => r = mo_wr f6 f7 f8 f10 f11 m9 5 a j) := by
  unfold xRi
  refine x_in (by decide) (Nat.le_of_ble_eq_true rfl) ?_
  intro p e s m below meth c ls E hr hin hP hD hl
  obtain ⟨hx, hb, hml, hown, hts, hK, hZ, hb0, hlocks⟩ := id E
  have hS : va_S (xA b0) s.heap s.heap [] := va_S.rf
  have hl : lv_has ls 8 [(0, .ref h), (1, .int 5), (2, .int (nI a)), (3, .int (nI j))] := hl
  refine lv_iload_n hx hb d_Mo_isWrong_0 rfl (lv_at hl 1 rfl) ?_
  refine lv_tableIn (off := 206) (tgt := 207) hx hb d_Mo_isWrong_1 (by decide) (by decide) (by decide) (by decide) ?_
  refine lv_aload_n hx hb d_Mo_isWrong_207 rfl (lv_at hl 0 rfl) ?_
  refine x_get E hP eB.1 rfl cl6_in 11 (by decide) wf_Mo_28 rfl d_Mo_isWrong_208 ?_
  refine lv_iload_n hx hb d_Mo_isWrong_211 rfl (lv_at hl 2 rfl) ?_
  refine x_iald E hP eB.2.2.2.2.2.2.2.1 (j := a) rfl (by omega) (by decide) d_Mo_isWrong_212 ?_
  refine lv_iconst (v := 4) hx hb d_Mo_isWrong_213 (by decide) ?_
  refine lv_icmp_ne (tgt := 230) hx hb d_Mo_isWrong_214 (by decide) (fun c214 => ?_) (fun c214 => ?_)
  · refine lv_iconst (v := 0) hx hb d_Mo_isWrong_230 (by decide) ?_
    exact x_pz E hr rfl (by rw [mo_wr_5, if_neg c214]) d_Mo_isWrong_231
  · refine lv_aload_n hx hb d_Mo_isWrong_217 rfl (lv_at hl 0 rfl) ?_
    refine lv_iload_n hx hb d_Mo_isWrong_218 rfl (lv_at hl 2 rfl) ?_
    refine x_cRi (As := [.int (nI a)]) (rest := []) E (c_Mo_gapOf l g b0 _ eB hm9 (nI a) a rfl (by omega)) wy_Mo_gapOf wl_Mo_116 hP hD hS eB.1 rfl hl.1 ⟨by decide, by decide⟩ ⟨Nat.le_refl _, Nat.le_refl _⟩ rfl (Nat.le_of_ble_eq_true rfl) d_Mo_isWrong_219 (fun r219 hr219 => ?_)
    subst hr219
    refine lv_iconst (v := (-1)) hx hb d_Mo_isWrong_222 (by decide) ?_
    refine lv_icmp_ne (tgt := 230) hx hb d_Mo_isWrong_223 (by decide) (fun c223 => ?_) (fun c223 => ?_)
    · refine lv_iconst (v := 0) hx hb d_Mo_isWrong_230 (by decide) ?_
      exact x_pz E hr rfl (by rw [mo_wr_5, if_pos c214, if_neg c223]) d_Mo_isWrong_231
    · refine lv_iconst (v := 1) hx hb d_Mo_isWrong_226 (by decide) ?_
      refine lv_goto (tgt := 231) hx hb d_Mo_isWrong_227 (by decide) ?_
      exact x_pz E hr rfl (by rw [mo_wr_5, if_pos c214, if_pos c223]) d_Mo_isWrong_231
set_option maxRecDepth 100000 in
set_option maxHeartbeats 4000000 in
theorem c_Mo_isWrong_6 (l : Launch) (g : xG) (b0 : Nat) (ws : va_W) {q h : Nat} {ad : Nat → Nat} {s0 s1 s2 s3 s5 s6 : Int32} {f0 f1 f2 f3 f4 f5 f6 f7 f8 f9 f10 f11 f12 f13 f14 f16 : Nat → Int32} {f15 : Nat → Int64} {m9 : Nat} (eB : xMo g ws q h ad s0 s1 s2 s3 (nI m9) s5 s6 f0 f1 f2 f3 f4 f5 f6 f7 f8 f9 f10 f11 f12 f13 f14 f15 f16) (hm9 : m9 ≤ 24) (a j : Nat) (ha : a < m9) (hj : j < 2) : xRi l g b0 y_Mo_isWrong b_Mo_isWrong 8 (some .boolean) 2 [.ref h, .int 6, .int (nI a), .int (nI j)] ws (fun r => r = mo_wr f6 f7 f8 f10 f11 m9 6 a j) := by
  unfold xRi
  refine x_in (by decide) (Nat.le_of_ble_eq_true rfl) ?_
  intro p e s m below meth c ls E hr hin hP hD hl
  obtain ⟨hx, hb, hml, hown, hts, hK, hZ, hb0, hlocks⟩ := id E
  have hS : va_S (xA b0) s.heap s.heap [] := va_S.rf
  have hl : lv_has ls 8 [(0, .ref h), (1, .int 6), (2, .int (nI a)), (3, .int (nI j))] := hl
  refine lv_iload_n hx hb d_Mo_isWrong_0 rfl (lv_at hl 1 rfl) ?_
  refine lv_tableOut (tgt := 232) hx hb d_Mo_isWrong_1 (by decide) (by decide) ?_
  refine lv_iconst (v := 0) hx hb d_Mo_isWrong_232 (by decide) ?_
  refine lv_istore (lv' := [(6, .int 0), (0, .ref h), (1, .int 6), (2, .int (nI a)), (3, .int (nI j))]) hx hb d_Mo_isWrong_233 hl (by decide) rfl (fun ls hl => ?_)
  refine lv_iconst (v := 0) hx hb d_Mo_isWrong_235 (by decide) ?_
  refine lv_istore (lv' := [(7, .int 0), (6, .int 0), (0, .ref h), (1, .int 6), (2, .int (nI a)), (3, .int (nI j))]) hx hb d_Mo_isWrong_236 hl (by decide) rfl (fun ls hl => ?_)
  have loop : ∀ (fu i : Nat) (v : Int32) (ls : Array Slot), (m9 < i + fu) → (i ≤ m9) → (v = it (mo_sm f11 a) i 0) → (lv_has ls 8 [(7, .int (nI i)), (6, .int v), (0, .ref h), (1, .int 6), (2, .int (nI a)), (3, .int (nI j))]) → W p l e (rmL 2) s m ([.ref h, .int 6, .int (nI a), .int (nI j)] : List Value).toArray below meth c s.heap [] 0 0 (MQ below (vp_Si (fun r => r = mo_wr f6 f7 f8 f10 f11 m9 6 a j)) ([.ref h, .int 6, .int (nI a), .int (nI j)] : List Value).toArray s 0 0 (fun _ => False)) (F0 m 238 ls []) := by
    intro fu
    induction fu with
    | zero =>
      intro i v ls hk hi hv hl
      omega
    | succ fu ih =>
      intro i v ls hk hi hv hl
      refine lv_iload hx hb d_Mo_isWrong_238 (lv_at hl 0 rfl) ?_
      refine lv_aload_n hx hb d_Mo_isWrong_240 rfl (lv_at hl 2 rfl) ?_
      refine x_get E hP eB.1 rfl cl6_in 10 (by decide) wf_Mo_101 rfl d_Mo_isWrong_241 ?_
      refine lv_icmp_ge (tgt := 280) hx hb d_Mo_isWrong_244 (by decide) (fun c244 => ?_) (fun c244 => ?_)
      · have hi9 : m9 ≤ i := (nI_leI (by omega) (by omega)).mp c244
        rw [show i = m9 by omega] at hv
        refine lv_aload_n hx hb d_Mo_isWrong_280 rfl (lv_at hl 2 rfl) ?_
        refine x_get E hP eB.1 rfl cl6_in 11 (by decide) wf_Mo_28 rfl d_Mo_isWrong_281 ?_
        refine lv_iload_n hx hb d_Mo_isWrong_284 rfl (lv_at hl 4 rfl) ?_
        refine x_iald E hP eB.2.2.2.2.2.2.2.1 (j := a) rfl (by omega) (by decide) d_Mo_isWrong_285 ?_
        refine lv_if_ne (tgt := 298) hx hb d_Mo_isWrong_286 (by decide) (fun c286 => ?_) (fun c286 => ?_)
        · refine lv_iconst (v := 0) hx hb d_Mo_isWrong_298 (by decide) ?_
          exact x_pz E hr rfl (by rw [mo_wr_6, if_neg c286]) d_Mo_isWrong_299
        · refine lv_iload hx hb d_Mo_isWrong_289 (lv_at hl 1 rfl) ?_
          refine lv_if_eq (tgt := 298) hx hb d_Mo_isWrong_291 (by decide) (fun c291 => ?_) (fun c291 => ?_)
          · refine lv_iconst (v := 0) hx hb d_Mo_isWrong_298 (by decide) ?_
            exact x_pz E hr rfl (by rw [mo_wr_6, if_pos c286, if_pos (by rw [← hv]; exact c291)]) d_Mo_isWrong_299
          · refine lv_iconst (v := 1) hx hb d_Mo_isWrong_294 (by decide) ?_
            refine lv_goto (tgt := 299) hx hb d_Mo_isWrong_295 (by decide) ?_
            exact x_pz E hr rfl (by rw [mo_wr_6, if_pos c286, if_neg (by rw [← hv]; exact c291)]) d_Mo_isWrong_299
      · have hi9 : i < m9 := Nat.not_le.mp fun h => c244 (nI_le h (by omega))
        refine lv_iload hx hb d_Mo_isWrong_247 (lv_at hl 1 rfl) ?_
        refine lv_if_ne (tgt := 267) hx hb d_Mo_isWrong_249 (by decide) (fun c249 => ?_) (fun c249 => ?_)
        · refine lv_iconst (v := 1) hx hb d_Mo_isWrong_267 (by decide) ?_
          refine lv_goto (tgt := 272) hx hb d_Mo_isWrong_268 (by decide) ?_
          refine lv_istore (lv' := [(6, .int 1), (7, .int (nI i)), (0, .ref h), (1, .int 6), (2, .int (nI a)), (3, .int (nI j))]) hx hb d_Mo_isWrong_272 hl (by decide) rfl (fun ls hl => ?_)
          refine lv_iinc (v := nI (i + 1)) (lv' := [(7, .int (nI (i + 1))), (6, .int 1), (0, .ref h), (1, .int 6), (2, .int (nI a)), (3, .int (nI j))]) hx hb d_Mo_isWrong_274 hl (k := 1) rfl (nI_1 i) (by decide) rfl (fun ls hl => ?_)
          refine lv_goto (tgt := 238) hx hb d_Mo_isWrong_277 (by decide) ?_
          exact ih (i + 1) 1 _ (by omega) (by omega) (by show _ = mo_sm f11 a i (it (mo_sm f11 a) i 0); rw [← hv, mo_sm, if_neg c249]) hl
        · refine lv_aload_n hx hb d_Mo_isWrong_252 rfl (lv_at hl 2 rfl) ?_
          refine x_get E hP eB.1 rfl cl6_in 16 (by decide) wf_Mo_43 rfl d_Mo_isWrong_253 ?_
          refine lv_bipush (v := 24) hx hb d_Mo_isWrong_256 (by decide) ?_
          refine lv_iload hx hb d_Mo_isWrong_258 (lv_at hl 0 rfl) ?_
          refine lv_imul hx hb d_Mo_isWrong_260 ?_
          refine lv_iload_n hx hb d_Mo_isWrong_261 rfl (lv_at hl 4 rfl) ?_
          refine lv_iadd hx hb d_Mo_isWrong_262 ?_
          refine x_top (y := nI (24 * i + a)) ((congrArg (· + nI a) (pk_mul 24 i)).trans (nI_add (24 * i) a)) ?_
          refine x_zald E hP eB.2.2.2.2.2.2.2.2.2.2.2.2.1 (j := 24 * i + a) rfl (by omega) (by decide) d_Mo_isWrong_263 ?_
          refine lv_if_eq (tgt := 271) hx hb d_Mo_isWrong_264 (by decide) (fun c264 => ?_) (fun c264 => ?_)
          · refine lv_iconst (v := 0) hx hb d_Mo_isWrong_271 (by decide) ?_
            refine lv_istore (lv' := [(6, .int 0), (7, .int (nI i)), (0, .ref h), (1, .int 6), (2, .int (nI a)), (3, .int (nI j))]) hx hb d_Mo_isWrong_272 hl (by decide) rfl (fun ls hl => ?_)
            refine lv_iinc (v := nI (i + 1)) (lv' := [(7, .int (nI (i + 1))), (6, .int 0), (0, .ref h), (1, .int 6), (2, .int (nI a)), (3, .int (nI j))]) hx hb d_Mo_isWrong_274 hl (k := 1) rfl (nI_1 i) (by decide) rfl (fun ls hl => ?_)
            refine lv_goto (tgt := 238) hx hb d_Mo_isWrong_277 (by decide) ?_
            exact ih (i + 1) 0 _ (by omega) (by omega) (by show _ = mo_sm f11 a i (it (mo_sm f11 a) i 0); rw [← hv, mo_sm, if_pos c249, if_pos c264]) hl
          · refine lv_iconst (v := 1) hx hb d_Mo_isWrong_267 (by decide) ?_
            refine lv_goto (tgt := 272) hx hb d_Mo_isWrong_268 (by decide) ?_
            refine lv_istore (lv' := [(6, .int 1), (7, .int (nI i)), (0, .ref h), (1, .int 6), (2, .int (nI a)), (3, .int (nI j))]) hx hb d_Mo_isWrong_272 hl (by decide) rfl (fun ls hl => ?_)
            refine lv_iinc (v := nI (i + 1)) (lv' := [(7, .int (nI (i + 1))), (6, .int 1), (0, .ref h), (1, .int 6), (2, .int (nI a)), (3, .int (nI j))]) hx hb d_Mo_isWrong_274 hl (k := 1) rfl (nI_1 i) (by decide) rfl (fun ls hl => ?_)
            refine lv_goto (tgt := 238) hx hb d_Mo_isWrong_277 (by decide) ?_
            exact ih (i + 1) 1 _ (by omega) (by omega) (by show _ = mo_sm f11 a i (it (mo_sm f11 a) i 0); rw [← hv, mo_sm, if_pos c249, if_neg c264]) hl
  exact loop (m9 + 1) 0 0 _ (by omega) (by omega) rfl hl
theorem c_Mo_isWrong (l : Launch) (g : xG) (b0 : Nat) (ws : va_W) {q h : Nat} {ad : Nat → Nat} {s0 s1 s2 s3 s5 s6 : Int32} {f0 f1 f2 f3 f4 f5 f6 f7 f8 f9 f10 f11 f12 f13 f14 f16 : Nat → Int32} {f15 : Nat → Int64} {m9 : Nat} (eB : xMo g ws q h ad s0 s1 s2 s3 (nI m9) s5 s6 f0 f1 f2 f3 f4 f5 f6 f7 f8 f9 f10 f11 f12 f13 f14 f15 f16) (hm9 : m9 ≤ 24) (a j : Nat) (ha : a < m9) (hj : j < 2) (hL : ∀ i, i < 576 → f11 i = 0 ∨ f11 i = 1) (kd : Nat) (hkd : 1 ≤ kd ∧ kd ≤ 6) : xRi l g b0 y_Mo_isWrong b_Mo_isWrong 8 (some .boolean) 2 [.ref h, .int (nI kd), .int (nI a), .int (nI j)] ws (fun r => r = mo_wr f6 f7 f8 f10 f11 m9 kd a j) := by
  obtain rfl | rfl | rfl | rfl | rfl | rfl : kd = 1 ∨ kd = 2 ∨ kd = 3 ∨ kd = 4 ∨ kd = 5 ∨ kd = 6 := by omega
  · exact c_Mo_isWrong_1 l g b0 ws eB hm9 a j ha hj
  · exact c_Mo_isWrong_2 l g b0 ws eB hm9 a j ha hj
  · exact c_Mo_isWrong_3 l g b0 ws eB hm9 a j ha hj
  · exact c_Mo_isWrong_4 l g b0 ws eB hm9 a j ha hj hL
  · exact c_Mo_isWrong_5 l g b0 ws eB hm9 a j ha hj
  · exact c_Mo_isWrong_6 l g b0 ws eB hm9 a j ha hj
abbrev mj_S : Type := Nat × (Nat → Int32) × (Nat → Int32) × (Nat → Int32)
def mj_add (z : mj_S) (kd nm w : Int32) : mj_S := (z.1 + 1, upd z.2.1 z.1 kd, upd z.2.2.1 z.1 nm, upd z.2.2.2 z.1 w)
def mj_3 (f6 f7 f8 f10 f11 : Nat → Int32) (m kd a : Nat) (j : Nat) (z : mj_S) : mj_S := if mo_wr f6 f7 f8 f10 f11 m kd a j = 0 then z else mj_add z (nI kd) (f7 a) (if kd = 1 then nI j else -1)
def mj_2 (f6 f7 f8 f10 f11 : Nat → Int32) (m kd : Nat) (a : Nat) (z : mj_S) : mj_S := it (mj_3 f6 f7 f8 f10 f11 m kd a) (if kd = 1 then 2 else 1) z
def mj_1 (f6 f7 f8 f10 f11 : Nat → Int32) (m : Nat) (c : Nat) (z : mj_S) : mj_S := it (mj_2 f6 f7 f8 f10 f11 m (c + 1)) m z
def mj_all (f6 f7 f8 f10 f11 : Nat → Int32) (m : Nat) (z : mj_S) : mj_S := it (mj_1 f6 f7 f8 f10 f11 m) 6 z
theorem mj_it {f : Nat → mj_S → mj_S} {c : Nat} (h : ∀ k s, (f k s).1 ≤ s.1 + c) : ∀ (m : Nat) (s : mj_S), (it f m s).1 ≤ s.1 + c * m
  | 0, s => Nat.le_refl _
  | m + 1, s => by
    have h1 := h m (it f m s)
    have h2 := mj_it h m s
    rw [Nat.mul_succ]
    show (f m (it f m s)).1 ≤ _
    omega
theorem mj_3_le {f6 f7 f8 f10 f11 : Nat → Int32} {m kd a : Nat} : ∀ j z, (mj_3 f6 f7 f8 f10 f11 m kd a j z).1 ≤ z.1 + 1 := fun j z => by
  unfold mj_3
  split
  · omega
  · exact Nat.le_refl _
theorem mj_2_le {f6 f7 f8 f10 f11 : Nat → Int32} {m kd : Nat} : ∀ a z, (mj_2 f6 f7 f8 f10 f11 m kd a z).1 ≤ z.1 + 2 := fun a z => by
  have h := mj_it (c := 1) (mj_3_le (f6 := f6) (f7 := f7) (f8 := f8) (f10 := f10) (f11 := f11) (m := m) (kd := kd) (a := a)) (if kd = 1 then 2 else 1) z
  unfold mj_2
  have : (if kd = 1 then 2 else 1) ≤ 2 := by split <;> omega
  omega
theorem mj_1_le {f6 f7 f8 f10 f11 : Nat → Int32} {m : Nat} (hm : m ≤ 24) : ∀ c z, (mj_1 f6 f7 f8 f10 f11 m c z).1 ≤ z.1 + 48 := fun c z => by
  have h := mj_it (c := 2) (mj_2_le (f6 := f6) (f7 := f7) (f8 := f8) (f10 := f10) (f11 := f11) (m := m) (kd := c + 1)) m z
  unfold mj_1
  omega
theorem mj_all_le {f6 f7 f8 f10 f11 : Nat → Int32} {m : Nat} (hm : m ≤ 24) {z : mj_S} (h0 : z.1 = 0) : (mj_all f6 f7 f8 f10 f11 m z).1 ≤ 288 := by
  have h := mj_it (c := 48) (mj_1_le (f6 := f6) (f7 := f7) (f8 := f8) (f10 := f10) (f11 := f11) (m := m) hm) 6 z
  unfold mj_all
  omega
set_option maxRecDepth 100000 in
set_option maxHeartbeats 4000000 in
theorem c_Mo_judge (l : Launch) (g : xG) (b0 : Nat) (ws : va_W) {q h : Nat} {ad : Nat → Nat} {s0 s1 s2 s3 s5 s6 : Int32} {f0 f1 f2 f3 f4 f5 f6 f7 f8 f9 f10 f11 f12 f13 f14 f16 : Nat → Int32} {f15 : Nat → Int64} {m9 : Nat} (eB : xMo g ws q h ad s0 s1 s2 s3 (nI m9) s5 s6 f0 f1 f2 f3 f4 f5 f6 f7 f8 f9 f10 f11 f12 f13 f14 f15 f16) (hm9 : m9 ≤ 24) (hL : ∀ i, i < 576 → f11 i = 0 ∨ f11 i = 1) : xMv l g b0 y_Mo_judge b_Mo_judge 4 3 [.ref h] ws (fun u => xQ q (q + 18) ws u ∧ xMo g u q h ad s0 s1 s2 s3 (nI m9) (nI (mj_all f6 f7 f8 f10 f11 m9 (0, f12, f13, f14)).1) s6 f0 f1 f2 f3 f4 f5 f6 f7 f8 f9 f10 f11 ((mj_all f6 f7 f8 f10 f11 m9 (0, f12, f13, f14)).2.1) ((mj_all f6 f7 f8 f10 f11 m9 (0, f12, f13, f14)).2.2.1) ((mj_all f6 f7 f8 f10 f11 m9 (0, f12, f13, f14)).2.2.2) f15 f16) := by
  unfold xMv
  refine x_in (by decide) (Nat.le_of_ble_eq_true rfl) ?_
  intro p e s m below meth c ls E hr hin hP hD hl
  obtain ⟨hx, hb, hml, hown, hts, hK, hZ, hb0, hlocks⟩ := id E
  have hS : va_S (xA b0) s.heap s.heap [] := va_S.rf
  have hl : lv_has ls 4 [(0, .ref h)] := hl
  have hQ : xQ q (q + 18) ws ws := xQ.rf
  refine lv_aload_n hx hb d_Mo_judge_0 rfl (lv_at hl 0 rfl) ?_
  refine lv_iconst (v := 0) hx hb d_Mo_judge_1 (by decide) ?_
  refine x_put E hP hD hS eB.1 rfl cl6_in cl6_ty cl6_nm 17 (by decide) wf_Mo_119 rfl rfl rfl (Nat.le_of_ble_eq_true rfl) d_Mo_judge_2 (fun w1 H locs hU1 hP hD hS => ?_)
  have eB : xMo g w1 q h ad s0 s1 s2 s3 (nI m9) 0 s6 f0 f1 f2 f3 f4 f5 f6 f7 f8 f9 f10 f11 f12 f13 f14 f15 f16 := eB.t5 hU1
  have hQ := hQ.up hU1 (by omega)
  refine lv_iconst (v := 1) hx hb d_Mo_judge_5 (by decide) ?_
  refine lv_istore_n (lv' := [(1, .int 1), (0, .ref h)]) hx hb d_Mo_judge_6 rfl hl (by decide) rfl (fun ls hl => ?_)
  have l1 : ∀ (fu c1 : Nat)  (v1 : va_W) (H : Heap) (locs : List Loc) (ls : Array Slot), (6 < c1 + fu) → (c1 ≤ 6) → (lv_has ls 4 [(1, .int (nI (c1 + 1))), (0, .ref h)]) → (va_P (xD g) vwCl v1 H) → (va_D (xA b0) v1) → (va_S (xA b0) s.heap H locs) → (xQ q (q + 18) ws v1) → (xMo g v1 q h ad s0 s1 s2 s3 (nI m9) (nI (it (mj_1 f6 f7 f8 f10 f11 m9) c1 (0, f12, f13, f14)).1) s6 f0 f1 f2 f3 f4 f5 f6 f7 f8 f9 f10 f11 ((it (mj_1 f6 f7 f8 f10 f11 m9) c1 (0, f12, f13, f14)).2.1) ((it (mj_1 f6 f7 f8 f10 f11 m9) c1 (0, f12, f13, f14)).2.2.1) ((it (mj_1 f6 f7 f8 f10 f11 m9) c1 (0, f12, f13, f14)).2.2.2) f15 f16) → W p l e (rmL 3) s m ([.ref h] : List Value).toArray below meth c H locs 0 0 (MQ below (va_Qv (fun u => xQ q (q + 18) ws u ∧ xMo g u q h ad s0 s1 s2 s3 (nI m9) (nI (mj_all f6 f7 f8 f10 f11 m9 (0, f12, f13, f14)).1) s6 f0 f1 f2 f3 f4 f5 f6 f7 f8 f9 f10 f11 ((mj_all f6 f7 f8 f10 f11 m9 (0, f12, f13, f14)).2.1) ((mj_all f6 f7 f8 f10 f11 m9 (0, f12, f13, f14)).2.2.1) ((mj_all f6 f7 f8 f10 f11 m9 (0, f12, f13, f14)).2.2.2) f15 f16) (fun u t => va_P (xD g) vwCl u t.heap ∧ va_D (xA b0) u) (xA b0)) ([.ref h] : List Value).toArray s 0 0 (xA b0)) (F0 m 7 ls []) := by
    intro fu
    induction fu with
    | zero =>
      intro c1 v1 H locs ls hk hc hl hP hD hS hQ eB
      omega
    | succ fu ih =>
      intro c1 v1 H locs ls hk hc hl hP hD hS hQ eB
      refine lv_iload_n hx hb d_Mo_judge_7 rfl (lv_at hl 0 rfl) ?_
      refine lv_bipush (v := 7) hx hb d_Mo_judge_8 (by decide) ?_
      refine lv_icmp_ge (tgt := 121) hx hb d_Mo_judge_10 (by decide) (fun c10 => ?_) (fun c10 => ?_)
      · have hc9 : c1 = 6 := by
          have := (nI_leI (a := 7) (by decide) (by omega)).mp c10
          omega
        rw [hc9] at eB
        exact x_rv E hr hS ⟨hQ, eB⟩ hP hD d_Mo_judge_121
      · have hc9 : c1 < 6 := by
          have := Nat.not_le.mp fun h => c10 (nI_le (a := 7) h (by omega))
          omega
        refine lv_iconst (v := 0) hx hb d_Mo_judge_13 (by decide) ?_
        refine lv_istore_n (lv' := [(2, .int 0), (1, .int (nI (c1 + 1))), (0, .ref h)]) hx hb d_Mo_judge_14 rfl hl (by decide) rfl (fun ls hl => ?_)
        have l2 : ∀ (fv i : Nat)  (v2 : va_W) (H : Heap) (locs : List Loc) (ls : Array Slot), (m9 < i + fv) → (i ≤ m9) → (lv_has ls 4 [(2, .int (nI i)), (1, .int (nI (c1 + 1))), (0, .ref h)]) → (va_P (xD g) vwCl v2 H) → (va_D (xA b0) v2) → (va_S (xA b0) s.heap H locs) → (xQ q (q + 18) ws v2) → (xMo g v2 q h ad s0 s1 s2 s3 (nI m9) (nI (it (mj_2 f6 f7 f8 f10 f11 m9 (c1 + 1)) i (it (mj_1 f6 f7 f8 f10 f11 m9) c1 (0, f12, f13, f14))).1) s6 f0 f1 f2 f3 f4 f5 f6 f7 f8 f9 f10 f11 ((it (mj_2 f6 f7 f8 f10 f11 m9 (c1 + 1)) i (it (mj_1 f6 f7 f8 f10 f11 m9) c1 (0, f12, f13, f14))).2.1) ((it (mj_2 f6 f7 f8 f10 f11 m9 (c1 + 1)) i (it (mj_1 f6 f7 f8 f10 f11 m9) c1 (0, f12, f13, f14))).2.2.1) ((it (mj_2 f6 f7 f8 f10 f11 m9 (c1 + 1)) i (it (mj_1 f6 f7 f8 f10 f11 m9) c1 (0, f12, f13, f14))).2.2.2) f15 f16) → W p l e (rmL 3) s m ([.ref h] : List Value).toArray below meth c H locs 0 0 (MQ below (va_Qv (fun u => xQ q (q + 18) ws u ∧ xMo g u q h ad s0 s1 s2 s3 (nI m9) (nI (mj_all f6 f7 f8 f10 f11 m9 (0, f12, f13, f14)).1) s6 f0 f1 f2 f3 f4 f5 f6 f7 f8 f9 f10 f11 ((mj_all f6 f7 f8 f10 f11 m9 (0, f12, f13, f14)).2.1) ((mj_all f6 f7 f8 f10 f11 m9 (0, f12, f13, f14)).2.2.1) ((mj_all f6 f7 f8 f10 f11 m9 (0, f12, f13, f14)).2.2.2) f15 f16) (fun u t => va_P (xD g) vwCl u t.heap ∧ va_D (xA b0) u) (xA b0)) ([.ref h] : List Value).toArray s 0 0 (xA b0)) (F0 m 15 ls []) := by
          intro fv
          induction fv with
          | zero =>
            intro i v2 H locs ls hk hi hl hP hD hS hQ eB
            omega
          | succ fv ih2 =>
            intro i v2 H locs ls hk hi hl hP hD hS hQ eB
            refine lv_iload_n hx hb d_Mo_judge_15 rfl (lv_at hl 0 rfl) ?_
            refine lv_aload_n hx hb d_Mo_judge_16 rfl (lv_at hl 2 rfl) ?_
            refine x_get E hP eB.1 rfl cl6_in 10 (by decide) wf_Mo_101 rfl d_Mo_judge_17 ?_
            refine lv_icmp_ge (tgt := 115) hx hb d_Mo_judge_20 (by decide) (fun c20 => ?_) (fun c20 => ?_)
            · have hi8 : m9 ≤ i := (nI_leI (by omega) (by omega)).mp c20
              refine lv_iinc (v := nI (c1 + 1 + 1)) (lv' := [(1, .int (nI (c1 + 1 + 1))), (2, .int (nI i)), (0, .ref h)]) hx hb d_Mo_judge_115 hl (k := 1) rfl (nI_1 (c1 + 1)) (by decide) rfl (fun ls hl => ?_)
              refine lv_goto (tgt := 7) hx hb d_Mo_judge_118 (by decide) ?_
              rw [show i = m9 by omega] at eB
              have eB : xMo g _ q h ad s0 s1 s2 s3 (nI m9) (nI (it (mj_1 f6 f7 f8 f10 f11 m9) (c1 + 1) (0, f12, f13, f14)).1) s6 f0 f1 f2 f3 f4 f5 f6 f7 f8 f9 f10 f11 ((it (mj_1 f6 f7 f8 f10 f11 m9) (c1 + 1) (0, f12, f13, f14)).2.1) ((it (mj_1 f6 f7 f8 f10 f11 m9) (c1 + 1) (0, f12, f13, f14)).2.2.1) ((it (mj_1 f6 f7 f8 f10 f11 m9) (c1 + 1) (0, f12, f13, f14)).2.2.2) f15 f16 := eB
              exact ih (c1 + 1) _ _ _ _ (by omega) (by omega) (lv_sub hl [0, 2] rfl) hP hD hS hQ eB
            · have hi8 : i < m9 := Nat.not_le.mp fun h => c20 (nI_le h (by omega))
              refine lv_iconst (v := 0) hx hb d_Mo_judge_23 (by decide) ?_
              refine lv_istore_n (lv' := [(3, .int 0), (2, .int (nI i)), (1, .int (nI (c1 + 1))), (0, .ref h)]) hx hb d_Mo_judge_24 rfl hl (by decide) rfl (fun ls hl => ?_)
              have l3 : ∀ (fw j : Nat)  (v3 : va_W) (H : Heap) (locs : List Loc) (ls : Array Slot), (2 < j + fw) → (j ≤ 2) → (j ≤ (if c1 + 1 = 1 then 2 else 1)) → (lv_has ls 4 [(3, .int (nI j)), (2, .int (nI i)), (1, .int (nI (c1 + 1))), (0, .ref h)]) → (va_P (xD g) vwCl v3 H) → (va_D (xA b0) v3) → (va_S (xA b0) s.heap H locs) → (xQ q (q + 18) ws v3) → (xMo g v3 q h ad s0 s1 s2 s3 (nI m9) (nI (it (mj_3 f6 f7 f8 f10 f11 m9 (c1 + 1) i) j (it (mj_2 f6 f7 f8 f10 f11 m9 (c1 + 1)) i (it (mj_1 f6 f7 f8 f10 f11 m9) c1 (0, f12, f13, f14)))).1) s6 f0 f1 f2 f3 f4 f5 f6 f7 f8 f9 f10 f11 ((it (mj_3 f6 f7 f8 f10 f11 m9 (c1 + 1) i) j (it (mj_2 f6 f7 f8 f10 f11 m9 (c1 + 1)) i (it (mj_1 f6 f7 f8 f10 f11 m9) c1 (0, f12, f13, f14)))).2.1) ((it (mj_3 f6 f7 f8 f10 f11 m9 (c1 + 1) i) j (it (mj_2 f6 f7 f8 f10 f11 m9 (c1 + 1)) i (it (mj_1 f6 f7 f8 f10 f11 m9) c1 (0, f12, f13, f14)))).2.2.1) ((it (mj_3 f6 f7 f8 f10 f11 m9 (c1 + 1) i) j (it (mj_2 f6 f7 f8 f10 f11 m9 (c1 + 1)) i (it (mj_1 f6 f7 f8 f10 f11 m9) c1 (0, f12, f13, f14)))).2.2.2) f15 f16) → W p l e (rmL 3) s m ([.ref h] : List Value).toArray below meth c H locs 0 0 (MQ below (va_Qv (fun u => xQ q (q + 18) ws u ∧ xMo g u q h ad s0 s1 s2 s3 (nI m9) (nI (mj_all f6 f7 f8 f10 f11 m9 (0, f12, f13, f14)).1) s6 f0 f1 f2 f3 f4 f5 f6 f7 f8 f9 f10 f11 ((mj_all f6 f7 f8 f10 f11 m9 (0, f12, f13, f14)).2.1) ((mj_all f6 f7 f8 f10 f11 m9 (0, f12, f13, f14)).2.2.1) ((mj_all f6 f7 f8 f10 f11 m9 (0, f12, f13, f14)).2.2.2) f15 f16) (fun u t => va_P (xD g) vwCl u t.heap ∧ va_D (xA b0) u) (xA b0)) ([.ref h] : List Value).toArray s 0 0 (xA b0)) (F0 m 25 ls []) := by
                intro fw
                induction fw with
                | zero =>
                  intro j v3 H locs ls hk hj2 hj hl hP hD hS hQ eB
                  omega
                | succ fw ih3 =>
                  intro j v3 H locs ls hk hj2 hj hl hP hD hS hQ eB
                  have hjb : (if c1 + 1 = 1 then 2 else 1) ≤ 2 := by split <;> omega
                  have hb1 := mj_it (c := 48) (mj_1_le (f6 := f6) (f7 := f7) (f8 := f8) (f10 := f10) (f11 := f11) (m := m9) hm9) c1 (0, f12, f13, f14)
                  have hb2 := mj_it (c := 2) (mj_2_le (f6 := f6) (f7 := f7) (f8 := f8) (f10 := f10) (f11 := f11) (m := m9) (kd := c1 + 1)) i (it (mj_1 f6 f7 f8 f10 f11 m9) c1 (0, f12, f13, f14))
                  have hb3 := mj_it (c := 1) (mj_3_le (f6 := f6) (f7 := f7) (f8 := f8) (f10 := f10) (f11 := f11) (m := m9) (kd := c1 + 1) (a := i)) j (it (mj_2 f6 f7 f8 f10 f11 m9 (c1 + 1)) i (it (mj_1 f6 f7 f8 f10 f11 m9) c1 (0, f12, f13, f14)))
                  have hb0 : ((0, f12, f13, f14) : mj_S).1 = 0 := rfl
                  have eV : it (mj_3 f6 f7 f8 f10 f11 m9 (c1 + 1) i) (j + 1) (it (mj_2 f6 f7 f8 f10 f11 m9 (c1 + 1)) i (it (mj_1 f6 f7 f8 f10 f11 m9) c1 (0, f12, f13, f14))) = mj_3 f6 f7 f8 f10 f11 m9 (c1 + 1) i j (it (mj_3 f6 f7 f8 f10 f11 m9 (c1 + 1) i) j (it (mj_2 f6 f7 f8 f10 f11 m9 (c1 + 1)) i (it (mj_1 f6 f7 f8 f10 f11 m9) c1 (0, f12, f13, f14)))) := rfl
                  generalize eV0 : it (mj_3 f6 f7 f8 f10 f11 m9 (c1 + 1) i) j (it (mj_2 f6 f7 f8 f10 f11 m9 (c1 + 1)) i (it (mj_1 f6 f7 f8 f10 f11 m9) c1 (0, f12, f13, f14))) = V at eB eV hb3
                  refine lv_iload_n hx hb d_Mo_judge_25 rfl (lv_at hl 0 rfl) ?_
                  refine lv_iload_n hx hb d_Mo_judge_26 rfl (lv_at hl 2 rfl) ?_
                  refine lv_iconst (v := 1) hx hb d_Mo_judge_27 (by decide) ?_
                  refine lv_icmp_ne (tgt := 35) hx hb d_Mo_judge_28 (by decide) (fun c28 => ?_) (fun c28 => ?_)
                  · have k28 : ¬ c1 + 1 = 1 := fun h => c28 (by rw [h]; decide)
                    refine lv_iconst (v := 1) hx hb d_Mo_judge_35 (by decide) ?_
                    refine lv_icmp_ge (tgt := 109) hx hb d_Mo_judge_36 (by decide) (fun c36 => ?_) (fun c36 => ?_)
                    · have hj9 : j = (if c1 + 1 = 1 then 2 else 1) := by
                        have := (nI_leI (a := 1) (by decide) (by omega)).mp c36
                        rw [if_neg k28] at hj ⊢
                        omega
                      refine lv_iinc (v := nI (i + 1)) (lv' := [(2, .int (nI (i + 1))), (3, .int (nI j)), (1, .int (nI (c1 + 1))), (0, .ref h)]) hx hb d_Mo_judge_109 hl (k := 1) rfl (nI_1 i) (by decide) rfl (fun ls hl => ?_)
                      refine lv_goto (tgt := 15) hx hb d_Mo_judge_112 (by decide) ?_
                      rw [← eV0, hj9] at eB
                      have eB : xMo g _ q h ad s0 s1 s2 s3 (nI m9) (nI (it (mj_2 f6 f7 f8 f10 f11 m9 (c1 + 1)) (i + 1) (it (mj_1 f6 f7 f8 f10 f11 m9) c1 (0, f12, f13, f14))).1) s6 f0 f1 f2 f3 f4 f5 f6 f7 f8 f9 f10 f11 ((it (mj_2 f6 f7 f8 f10 f11 m9 (c1 + 1)) (i + 1) (it (mj_1 f6 f7 f8 f10 f11 m9) c1 (0, f12, f13, f14))).2.1) ((it (mj_2 f6 f7 f8 f10 f11 m9 (c1 + 1)) (i + 1) (it (mj_1 f6 f7 f8 f10 f11 m9) c1 (0, f12, f13, f14))).2.2.1) ((it (mj_2 f6 f7 f8 f10 f11 m9 (c1 + 1)) (i + 1) (it (mj_1 f6 f7 f8 f10 f11 m9) c1 (0, f12, f13, f14))).2.2.2) f15 f16 := eB
                      exact ih2 (i + 1) _ _ _ _ (by omega) (by omega) (lv_sub hl [0, 2, 3] rfl) hP hD hS hQ eB
                    · have hj9 : j + 1 ≤ (if c1 + 1 = 1 then 2 else 1) := by
                        have := Nat.not_le.mp fun h => c36 (nI_le (a := 1) h (by omega))
                        rw [if_neg k28]
                        omega
                      refine lv_aload_n hx hb d_Mo_judge_39 rfl (lv_at hl 3 rfl) ?_
                      refine lv_iload_n hx hb d_Mo_judge_40 rfl (lv_at hl 2 rfl) ?_
                      refine lv_iload_n hx hb d_Mo_judge_41 rfl (lv_at hl 1 rfl) ?_
                      refine lv_iload_n hx hb d_Mo_judge_42 rfl (lv_at hl 0 rfl) ?_
                      refine x_cRi (As := [.int (nI (c1 + 1)), .int (nI i), .int (nI j)]) (rest := []) E (c_Mo_isWrong l g b0 _ eB hm9 i j hi8 (by omega) hL (c1 + 1) (by omega)) wy_Mo_isWrong wl_Mo_122 hP hD hS eB.1 rfl hl.1 ⟨by decide, by decide⟩ ⟨Nat.le_refl _, Nat.le_refl _⟩ rfl (Nat.le_of_ble_eq_true rfl) d_Mo_judge_43 (fun r43 hr43 => ?_)
                      subst hr43
                      refine lv_if_eq (tgt := 103) hx hb d_Mo_judge_46 (by decide) (fun c46 => ?_) (fun c46 => ?_)
                      · refine lv_iinc (v := nI (j + 1)) (lv' := [(3, .int (nI (j + 1))), (2, .int (nI i)), (1, .int (nI (c1 + 1))), (0, .ref h)]) hx hb d_Mo_judge_103 hl (k := 0) rfl (nI_1 j) (by decide) rfl (fun ls hl => ?_)
                        refine lv_goto (tgt := 25) hx hb d_Mo_judge_106 (by decide) ?_
                        have e7 : V = it (mj_3 f6 f7 f8 f10 f11 m9 (c1 + 1) i) (j + 1) (it (mj_2 f6 f7 f8 f10 f11 m9 (c1 + 1)) i (it (mj_1 f6 f7 f8 f10 f11 m9) c1 (0, f12, f13, f14))) := by rw [eV, mj_3, if_pos c46]
                        rw [e7] at eB
                        exact ih3 (j + 1) _ _ _ _ (by omega) (by omega) hj9 hl hP hD hS hQ eB
                      · refine lv_aload_n hx hb d_Mo_judge_49 rfl (lv_at hl 3 rfl) ?_
                        refine x_get E hP eB.1 rfl cl6_in 18 (by decide) wf_Mo_47 rfl d_Mo_judge_50 ?_
                        refine lv_aload_n hx hb d_Mo_judge_53 rfl (lv_at hl 3 rfl) ?_
                        refine x_get E hP eB.1 rfl cl6_in 17 (by decide) wf_Mo_119 rfl d_Mo_judge_54 ?_
                        refine lv_iload_n hx hb d_Mo_judge_57 rfl (lv_at hl 2 rfl) ?_
                        refine x_iast E hP hD hS eB.2.2.2.2.2.2.2.2.2.2.2.2.2.1 (j := V.1) rfl (by omega) (by decide) d_Mo_judge_58 (fun w153 H locs hU153 hP hD hS => ?_)
                        have eB : xMo g w153 q h ad s0 s1 s2 s3 (nI m9) (nI (V).1) s6 f0 f1 f2 f3 f4 f5 f6 f7 f8 f9 f10 f11 (upd ((V).2.1) V.1 (nI (c1 + 1))) ((V).2.2.1) ((V).2.2.2) f15 f16 := eB.a12 hU153
                        have hQ := hQ.up hU153 (by omega)
                        refine lv_aload_n hx hb d_Mo_judge_59 rfl (lv_at hl 3 rfl) ?_
                        refine x_get E hP eB.1 rfl cl6_in 19 (by decide) wf_Mo_50 rfl d_Mo_judge_60 ?_
                        refine lv_aload_n hx hb d_Mo_judge_63 rfl (lv_at hl 3 rfl) ?_
                        refine x_get E hP eB.1 rfl cl6_in 17 (by decide) wf_Mo_119 rfl d_Mo_judge_64 ?_
                        refine lv_aload_n hx hb d_Mo_judge_67 rfl (lv_at hl 3 rfl) ?_
                        refine x_get E hP eB.1 rfl cl6_in 12 (by decide) wf_Mo_31 rfl d_Mo_judge_68 ?_
                        refine lv_iload_n hx hb d_Mo_judge_71 rfl (lv_at hl 1 rfl) ?_
                        refine x_iald E hP eB.2.2.2.2.2.2.2.2.1 (j := i) rfl (by omega) (by decide) d_Mo_judge_72 ?_
                        refine x_iast E hP hD hS eB.2.2.2.2.2.2.2.2.2.2.2.2.2.2.1 (j := V.1) rfl (by omega) (by decide) d_Mo_judge_73 (fun w154 H locs hU154 hP hD hS => ?_)
                        have eB : xMo g w154 q h ad s0 s1 s2 s3 (nI m9) (nI (V).1) s6 f0 f1 f2 f3 f4 f5 f6 f7 f8 f9 f10 f11 (upd ((V).2.1) V.1 (nI (c1 + 1))) (upd ((V).2.2.1) V.1 (f7 i)) ((V).2.2.2) f15 f16 := eB.a13 hU154
                        have hQ := hQ.up hU154 (by omega)
                        refine lv_aload_n hx hb d_Mo_judge_74 rfl (lv_at hl 3 rfl) ?_
                        refine x_get E hP eB.1 rfl cl6_in 20 (by decide) wf_Mo_53 rfl d_Mo_judge_75 ?_
                        refine lv_aload_n hx hb d_Mo_judge_78 rfl (lv_at hl 3 rfl) ?_
                        refine x_get E hP eB.1 rfl cl6_in 17 (by decide) wf_Mo_119 rfl d_Mo_judge_79 ?_
                        refine lv_iload_n hx hb d_Mo_judge_82 rfl (lv_at hl 2 rfl) ?_
                        refine lv_iconst (v := 1) hx hb d_Mo_judge_83 (by decide) ?_
                        refine lv_icmp_ne (tgt := 91) hx hb d_Mo_judge_84 (by decide) (fun c84 => ?_) (fun c84 => ?_)
                        · have k84 : ¬ c1 + 1 = 1 := fun h => c84 (by rw [h]; decide)
                          refine lv_iconst (v := (-1)) hx hb d_Mo_judge_91 (by decide) ?_
                          refine x_iast E hP hD hS eB.2.2.2.2.2.2.2.2.2.2.2.2.2.2.2.1 (j := V.1) rfl (by omega) (by decide) d_Mo_judge_92 (fun w155 H locs hU155 hP hD hS => ?_)
                          have eB : xMo g w155 q h ad s0 s1 s2 s3 (nI m9) (nI (V).1) s6 f0 f1 f2 f3 f4 f5 f6 f7 f8 f9 f10 f11 (upd ((V).2.1) V.1 (nI (c1 + 1))) (upd ((V).2.2.1) V.1 (f7 i)) (upd ((V).2.2.2) V.1 (-1)) f15 f16 := eB.a14 hU155
                          have hQ := hQ.up hU155 (by omega)
                          refine lv_aload_n hx hb d_Mo_judge_93 rfl (lv_at hl 3 rfl) ?_
                          refine lv_dup hx hb d_Mo_judge_94 rfl ?_
                          refine x_get E hP eB.1 rfl cl6_in 17 (by decide) wf_Mo_119 rfl d_Mo_judge_95 ?_
                          refine lv_iconst (v := 1) hx hb d_Mo_judge_98 (by decide) ?_
                          refine lv_iadd hx hb d_Mo_judge_99 ?_
                          refine x_top (y := nI (V.1 + 1)) (nI_1 V.1) ?_
                          refine x_put E hP hD hS eB.1 rfl cl6_in cl6_ty cl6_nm 17 (by decide) wf_Mo_119 rfl rfl rfl (Nat.le_of_ble_eq_true rfl) d_Mo_judge_100 (fun w156 H locs hU156 hP hD hS => ?_)
                          have eB : xMo g w156 q h ad s0 s1 s2 s3 (nI m9) (nI (V.1 + 1)) s6 f0 f1 f2 f3 f4 f5 f6 f7 f8 f9 f10 f11 (upd ((V).2.1) V.1 (nI (c1 + 1))) (upd ((V).2.2.1) V.1 (f7 i)) (upd ((V).2.2.2) V.1 (-1)) f15 f16 := eB.t5 hU156
                          have hQ := hQ.up hU156 (by omega)
                          refine lv_iinc (v := nI (j + 1)) (lv' := [(3, .int (nI (j + 1))), (2, .int (nI i)), (1, .int (nI (c1 + 1))), (0, .ref h)]) hx hb d_Mo_judge_103 hl (k := 0) rfl (nI_1 j) (by decide) rfl (fun ls hl => ?_)
                          refine lv_goto (tgt := 25) hx hb d_Mo_judge_106 (by decide) ?_
                          have e7 : mj_add V (nI (c1 + 1)) (f7 i) (-1) = it (mj_3 f6 f7 f8 f10 f11 m9 (c1 + 1) i) (j + 1) (it (mj_2 f6 f7 f8 f10 f11 m9 (c1 + 1)) i (it (mj_1 f6 f7 f8 f10 f11 m9) c1 (0, f12, f13, f14))) := by rw [eV, mj_3, if_neg c46, if_neg k84]
                          have eB : xMo g _ q h ad s0 s1 s2 s3 (nI m9) (nI (mj_add V (nI (c1 + 1)) (f7 i) (-1)).1) s6 f0 f1 f2 f3 f4 f5 f6 f7 f8 f9 f10 f11 ((mj_add V (nI (c1 + 1)) (f7 i) (-1)).2.1) ((mj_add V (nI (c1 + 1)) (f7 i) (-1)).2.2.1) ((mj_add V (nI (c1 + 1)) (f7 i) (-1)).2.2.2) f15 f16 := eB
                          rw [e7] at eB
                          exact ih3 (j + 1) _ _ _ _ (by omega) (by omega) hj9 hl hP hD hS hQ eB
                        · have k84 : c1 + 1 = 1 := (nI_eq (b := 1) (by omega) (by decide)).mp c84
                          refine lv_iload_n hx hb d_Mo_judge_87 rfl (lv_at hl 0 rfl) ?_
                          refine lv_goto (tgt := 92) hx hb d_Mo_judge_88 (by decide) ?_
                          refine x_iast E hP hD hS eB.2.2.2.2.2.2.2.2.2.2.2.2.2.2.2.1 (j := V.1) rfl (by omega) (by decide) d_Mo_judge_92 (fun w155 H locs hU155 hP hD hS => ?_)
                          have eB : xMo g w155 q h ad s0 s1 s2 s3 (nI m9) (nI (V).1) s6 f0 f1 f2 f3 f4 f5 f6 f7 f8 f9 f10 f11 (upd ((V).2.1) V.1 (nI (c1 + 1))) (upd ((V).2.2.1) V.1 (f7 i)) (upd ((V).2.2.2) V.1 (nI j)) f15 f16 := eB.a14 hU155
                          have hQ := hQ.up hU155 (by omega)
                          refine lv_aload_n hx hb d_Mo_judge_93 rfl (lv_at hl 3 rfl) ?_
                          refine lv_dup hx hb d_Mo_judge_94 rfl ?_
                          refine x_get E hP eB.1 rfl cl6_in 17 (by decide) wf_Mo_119 rfl d_Mo_judge_95 ?_
                          refine lv_iconst (v := 1) hx hb d_Mo_judge_98 (by decide) ?_
                          refine lv_iadd hx hb d_Mo_judge_99 ?_
                          refine x_top (y := nI (V.1 + 1)) (nI_1 V.1) ?_
                          refine x_put E hP hD hS eB.1 rfl cl6_in cl6_ty cl6_nm 17 (by decide) wf_Mo_119 rfl rfl rfl (Nat.le_of_ble_eq_true rfl) d_Mo_judge_100 (fun w156 H locs hU156 hP hD hS => ?_)
                          have eB : xMo g w156 q h ad s0 s1 s2 s3 (nI m9) (nI (V.1 + 1)) s6 f0 f1 f2 f3 f4 f5 f6 f7 f8 f9 f10 f11 (upd ((V).2.1) V.1 (nI (c1 + 1))) (upd ((V).2.2.1) V.1 (f7 i)) (upd ((V).2.2.2) V.1 (nI j)) f15 f16 := eB.t5 hU156
                          have hQ := hQ.up hU156 (by omega)
                          refine lv_iinc (v := nI (j + 1)) (lv' := [(3, .int (nI (j + 1))), (2, .int (nI i)), (1, .int (nI (c1 + 1))), (0, .ref h)]) hx hb d_Mo_judge_103 hl (k := 0) rfl (nI_1 j) (by decide) rfl (fun ls hl => ?_)
                          refine lv_goto (tgt := 25) hx hb d_Mo_judge_106 (by decide) ?_
                          have e7 : mj_add V (nI (c1 + 1)) (f7 i) (nI j) = it (mj_3 f6 f7 f8 f10 f11 m9 (c1 + 1) i) (j + 1) (it (mj_2 f6 f7 f8 f10 f11 m9 (c1 + 1)) i (it (mj_1 f6 f7 f8 f10 f11 m9) c1 (0, f12, f13, f14))) := by rw [eV, mj_3, if_neg c46, if_pos k84]
                          have eB : xMo g _ q h ad s0 s1 s2 s3 (nI m9) (nI (mj_add V (nI (c1 + 1)) (f7 i) (nI j)).1) s6 f0 f1 f2 f3 f4 f5 f6 f7 f8 f9 f10 f11 ((mj_add V (nI (c1 + 1)) (f7 i) (nI j)).2.1) ((mj_add V (nI (c1 + 1)) (f7 i) (nI j)).2.2.1) ((mj_add V (nI (c1 + 1)) (f7 i) (nI j)).2.2.2) f15 f16 := eB
                          rw [e7] at eB
                          exact ih3 (j + 1) _ _ _ _ (by omega) (by omega) hj9 hl hP hD hS hQ eB
                  · have k28 : c1 + 1 = 1 := (nI_eq (b := 1) (by omega) (by decide)).mp c28
                    refine lv_iconst (v := 2) hx hb d_Mo_judge_31 (by decide) ?_
                    refine lv_goto (tgt := 36) hx hb d_Mo_judge_32 (by decide) ?_
                    refine lv_icmp_ge (tgt := 109) hx hb d_Mo_judge_36 (by decide) (fun c36 => ?_) (fun c36 => ?_)
                    · have hj9 : j = (if c1 + 1 = 1 then 2 else 1) := by
                        have := (nI_leI (a := 2) (by decide) (by omega)).mp c36
                        rw [if_pos k28] at hj ⊢
                        omega
                      refine lv_iinc (v := nI (i + 1)) (lv' := [(2, .int (nI (i + 1))), (3, .int (nI j)), (1, .int (nI (c1 + 1))), (0, .ref h)]) hx hb d_Mo_judge_109 hl (k := 1) rfl (nI_1 i) (by decide) rfl (fun ls hl => ?_)
                      refine lv_goto (tgt := 15) hx hb d_Mo_judge_112 (by decide) ?_
                      rw [← eV0, hj9] at eB
                      have eB : xMo g _ q h ad s0 s1 s2 s3 (nI m9) (nI (it (mj_2 f6 f7 f8 f10 f11 m9 (c1 + 1)) (i + 1) (it (mj_1 f6 f7 f8 f10 f11 m9) c1 (0, f12, f13, f14))).1) s6 f0 f1 f2 f3 f4 f5 f6 f7 f8 f9 f10 f11 ((it (mj_2 f6 f7 f8 f10 f11 m9 (c1 + 1)) (i + 1) (it (mj_1 f6 f7 f8 f10 f11 m9) c1 (0, f12, f13, f14))).2.1) ((it (mj_2 f6 f7 f8 f10 f11 m9 (c1 + 1)) (i + 1) (it (mj_1 f6 f7 f8 f10 f11 m9) c1 (0, f12, f13, f14))).2.2.1) ((it (mj_2 f6 f7 f8 f10 f11 m9 (c1 + 1)) (i + 1) (it (mj_1 f6 f7 f8 f10 f11 m9) c1 (0, f12, f13, f14))).2.2.2) f15 f16 := eB
                      exact ih2 (i + 1) _ _ _ _ (by omega) (by omega) (lv_sub hl [0, 2, 3] rfl) hP hD hS hQ eB
                    · have hj9 : j + 1 ≤ (if c1 + 1 = 1 then 2 else 1) := by
                        have := Nat.not_le.mp fun h => c36 (nI_le (a := 2) h (by omega))
                        rw [if_pos k28]
                        omega
                      refine lv_aload_n hx hb d_Mo_judge_39 rfl (lv_at hl 3 rfl) ?_
                      refine lv_iload_n hx hb d_Mo_judge_40 rfl (lv_at hl 2 rfl) ?_
                      refine lv_iload_n hx hb d_Mo_judge_41 rfl (lv_at hl 1 rfl) ?_
                      refine lv_iload_n hx hb d_Mo_judge_42 rfl (lv_at hl 0 rfl) ?_
                      refine x_cRi (As := [.int (nI (c1 + 1)), .int (nI i), .int (nI j)]) (rest := []) E (c_Mo_isWrong l g b0 _ eB hm9 i j hi8 (by omega) hL (c1 + 1) (by omega)) wy_Mo_isWrong wl_Mo_122 hP hD hS eB.1 rfl hl.1 ⟨by decide, by decide⟩ ⟨Nat.le_refl _, Nat.le_refl _⟩ rfl (Nat.le_of_ble_eq_true rfl) d_Mo_judge_43 (fun r43 hr43 => ?_)
                      subst hr43
                      refine lv_if_eq (tgt := 103) hx hb d_Mo_judge_46 (by decide) (fun c46 => ?_) (fun c46 => ?_)
                      · refine lv_iinc (v := nI (j + 1)) (lv' := [(3, .int (nI (j + 1))), (2, .int (nI i)), (1, .int (nI (c1 + 1))), (0, .ref h)]) hx hb d_Mo_judge_103 hl (k := 0) rfl (nI_1 j) (by decide) rfl (fun ls hl => ?_)
                        refine lv_goto (tgt := 25) hx hb d_Mo_judge_106 (by decide) ?_
                        have e7 : V = it (mj_3 f6 f7 f8 f10 f11 m9 (c1 + 1) i) (j + 1) (it (mj_2 f6 f7 f8 f10 f11 m9 (c1 + 1)) i (it (mj_1 f6 f7 f8 f10 f11 m9) c1 (0, f12, f13, f14))) := by rw [eV, mj_3, if_pos c46]
                        rw [e7] at eB
                        exact ih3 (j + 1) _ _ _ _ (by omega) (by omega) hj9 hl hP hD hS hQ eB
                      · refine lv_aload_n hx hb d_Mo_judge_49 rfl (lv_at hl 3 rfl) ?_
                        refine x_get E hP eB.1 rfl cl6_in 18 (by decide) wf_Mo_47 rfl d_Mo_judge_50 ?_
                        refine lv_aload_n hx hb d_Mo_judge_53 rfl (lv_at hl 3 rfl) ?_
                        refine x_get E hP eB.1 rfl cl6_in 17 (by decide) wf_Mo_119 rfl d_Mo_judge_54 ?_
                        refine lv_iload_n hx hb d_Mo_judge_57 rfl (lv_at hl 2 rfl) ?_
                        refine x_iast E hP hD hS eB.2.2.2.2.2.2.2.2.2.2.2.2.2.1 (j := V.1) rfl (by omega) (by decide) d_Mo_judge_58 (fun w153 H locs hU153 hP hD hS => ?_)
                        have eB : xMo g w153 q h ad s0 s1 s2 s3 (nI m9) (nI (V).1) s6 f0 f1 f2 f3 f4 f5 f6 f7 f8 f9 f10 f11 (upd ((V).2.1) V.1 (nI (c1 + 1))) ((V).2.2.1) ((V).2.2.2) f15 f16 := eB.a12 hU153
                        have hQ := hQ.up hU153 (by omega)
                        refine lv_aload_n hx hb d_Mo_judge_59 rfl (lv_at hl 3 rfl) ?_
                        refine x_get E hP eB.1 rfl cl6_in 19 (by decide) wf_Mo_50 rfl d_Mo_judge_60 ?_
                        refine lv_aload_n hx hb d_Mo_judge_63 rfl (lv_at hl 3 rfl) ?_
                        refine x_get E hP eB.1 rfl cl6_in 17 (by decide) wf_Mo_119 rfl d_Mo_judge_64 ?_
                        refine lv_aload_n hx hb d_Mo_judge_67 rfl (lv_at hl 3 rfl) ?_
                        refine x_get E hP eB.1 rfl cl6_in 12 (by decide) wf_Mo_31 rfl d_Mo_judge_68 ?_
                        refine lv_iload_n hx hb d_Mo_judge_71 rfl (lv_at hl 1 rfl) ?_
                        refine x_iald E hP eB.2.2.2.2.2.2.2.2.1 (j := i) rfl (by omega) (by decide) d_Mo_judge_72 ?_
                        refine x_iast E hP hD hS eB.2.2.2.2.2.2.2.2.2.2.2.2.2.2.1 (j := V.1) rfl (by omega) (by decide) d_Mo_judge_73 (fun w154 H locs hU154 hP hD hS => ?_)
                        have eB : xMo g w154 q h ad s0 s1 s2 s3 (nI m9) (nI (V).1) s6 f0 f1 f2 f3 f4 f5 f6 f7 f8 f9 f10 f11 (upd ((V).2.1) V.1 (nI (c1 + 1))) (upd ((V).2.2.1) V.1 (f7 i)) ((V).2.2.2) f15 f16 := eB.a13 hU154
                        have hQ := hQ.up hU154 (by omega)
                        refine lv_aload_n hx hb d_Mo_judge_74 rfl (lv_at hl 3 rfl) ?_
                        refine x_get E hP eB.1 rfl cl6_in 20 (by decide) wf_Mo_53 rfl d_Mo_judge_75 ?_
                        refine lv_aload_n hx hb d_Mo_judge_78 rfl (lv_at hl 3 rfl) ?_
                        refine x_get E hP eB.1 rfl cl6_in 17 (by decide) wf_Mo_119 rfl d_Mo_judge_79 ?_
                        refine lv_iload_n hx hb d_Mo_judge_82 rfl (lv_at hl 2 rfl) ?_
                        refine lv_iconst (v := 1) hx hb d_Mo_judge_83 (by decide) ?_
                        refine lv_icmp_ne (tgt := 91) hx hb d_Mo_judge_84 (by decide) (fun c84 => ?_) (fun c84 => ?_)
                        · have k84 : ¬ c1 + 1 = 1 := fun h => c84 (by rw [h]; decide)
                          refine lv_iconst (v := (-1)) hx hb d_Mo_judge_91 (by decide) ?_
                          refine x_iast E hP hD hS eB.2.2.2.2.2.2.2.2.2.2.2.2.2.2.2.1 (j := V.1) rfl (by omega) (by decide) d_Mo_judge_92 (fun w155 H locs hU155 hP hD hS => ?_)
                          have eB : xMo g w155 q h ad s0 s1 s2 s3 (nI m9) (nI (V).1) s6 f0 f1 f2 f3 f4 f5 f6 f7 f8 f9 f10 f11 (upd ((V).2.1) V.1 (nI (c1 + 1))) (upd ((V).2.2.1) V.1 (f7 i)) (upd ((V).2.2.2) V.1 (-1)) f15 f16 := eB.a14 hU155
                          have hQ := hQ.up hU155 (by omega)
                          refine lv_aload_n hx hb d_Mo_judge_93 rfl (lv_at hl 3 rfl) ?_
                          refine lv_dup hx hb d_Mo_judge_94 rfl ?_
                          refine x_get E hP eB.1 rfl cl6_in 17 (by decide) wf_Mo_119 rfl d_Mo_judge_95 ?_
                          refine lv_iconst (v := 1) hx hb d_Mo_judge_98 (by decide) ?_
                          refine lv_iadd hx hb d_Mo_judge_99 ?_
                          refine x_top (y := nI (V.1 + 1)) (nI_1 V.1) ?_
                          refine x_put E hP hD hS eB.1 rfl cl6_in cl6_ty cl6_nm 17 (by decide) wf_Mo_119 rfl rfl rfl (Nat.le_of_ble_eq_true rfl) d_Mo_judge_100 (fun w156 H locs hU156 hP hD hS => ?_)
                          have eB : xMo g w156 q h ad s0 s1 s2 s3 (nI m9) (nI (V.1 + 1)) s6 f0 f1 f2 f3 f4 f5 f6 f7 f8 f9 f10 f11 (upd ((V).2.1) V.1 (nI (c1 + 1))) (upd ((V).2.2.1) V.1 (f7 i)) (upd ((V).2.2.2) V.1 (-1)) f15 f16 := eB.t5 hU156
                          have hQ := hQ.up hU156 (by omega)
                          refine lv_iinc (v := nI (j + 1)) (lv' := [(3, .int (nI (j + 1))), (2, .int (nI i)), (1, .int (nI (c1 + 1))), (0, .ref h)]) hx hb d_Mo_judge_103 hl (k := 0) rfl (nI_1 j) (by decide) rfl (fun ls hl => ?_)
                          refine lv_goto (tgt := 25) hx hb d_Mo_judge_106 (by decide) ?_
                          have e7 : mj_add V (nI (c1 + 1)) (f7 i) (-1) = it (mj_3 f6 f7 f8 f10 f11 m9 (c1 + 1) i) (j + 1) (it (mj_2 f6 f7 f8 f10 f11 m9 (c1 + 1)) i (it (mj_1 f6 f7 f8 f10 f11 m9) c1 (0, f12, f13, f14))) := by rw [eV, mj_3, if_neg c46, if_neg k84]
                          have eB : xMo g _ q h ad s0 s1 s2 s3 (nI m9) (nI (mj_add V (nI (c1 + 1)) (f7 i) (-1)).1) s6 f0 f1 f2 f3 f4 f5 f6 f7 f8 f9 f10 f11 ((mj_add V (nI (c1 + 1)) (f7 i) (-1)).2.1) ((mj_add V (nI (c1 + 1)) (f7 i) (-1)).2.2.1) ((mj_add V (nI (c1 + 1)) (f7 i) (-1)).2.2.2) f15 f16 := eB
                          rw [e7] at eB
                          exact ih3 (j + 1) _ _ _ _ (by omega) (by omega) hj9 hl hP hD hS hQ eB
                        · have k84 : c1 + 1 = 1 := (nI_eq (b := 1) (by omega) (by decide)).mp c84
                          refine lv_iload_n hx hb d_Mo_judge_87 rfl (lv_at hl 0 rfl) ?_
                          refine lv_goto (tgt := 92) hx hb d_Mo_judge_88 (by decide) ?_
                          refine x_iast E hP hD hS eB.2.2.2.2.2.2.2.2.2.2.2.2.2.2.2.1 (j := V.1) rfl (by omega) (by decide) d_Mo_judge_92 (fun w155 H locs hU155 hP hD hS => ?_)
                          have eB : xMo g w155 q h ad s0 s1 s2 s3 (nI m9) (nI (V).1) s6 f0 f1 f2 f3 f4 f5 f6 f7 f8 f9 f10 f11 (upd ((V).2.1) V.1 (nI (c1 + 1))) (upd ((V).2.2.1) V.1 (f7 i)) (upd ((V).2.2.2) V.1 (nI j)) f15 f16 := eB.a14 hU155
                          have hQ := hQ.up hU155 (by omega)
                          refine lv_aload_n hx hb d_Mo_judge_93 rfl (lv_at hl 3 rfl) ?_
                          refine lv_dup hx hb d_Mo_judge_94 rfl ?_
                          refine x_get E hP eB.1 rfl cl6_in 17 (by decide) wf_Mo_119 rfl d_Mo_judge_95 ?_
                          refine lv_iconst (v := 1) hx hb d_Mo_judge_98 (by decide) ?_
                          refine lv_iadd hx hb d_Mo_judge_99 ?_
                          refine x_top (y := nI (V.1 + 1)) (nI_1 V.1) ?_
                          refine x_put E hP hD hS eB.1 rfl cl6_in cl6_ty cl6_nm 17 (by decide) wf_Mo_119 rfl rfl rfl (Nat.le_of_ble_eq_true rfl) d_Mo_judge_100 (fun w156 H locs hU156 hP hD hS => ?_)
                          have eB : xMo g w156 q h ad s0 s1 s2 s3 (nI m9) (nI (V.1 + 1)) s6 f0 f1 f2 f3 f4 f5 f6 f7 f8 f9 f10 f11 (upd ((V).2.1) V.1 (nI (c1 + 1))) (upd ((V).2.2.1) V.1 (f7 i)) (upd ((V).2.2.2) V.1 (nI j)) f15 f16 := eB.t5 hU156
                          have hQ := hQ.up hU156 (by omega)
                          refine lv_iinc (v := nI (j + 1)) (lv' := [(3, .int (nI (j + 1))), (2, .int (nI i)), (1, .int (nI (c1 + 1))), (0, .ref h)]) hx hb d_Mo_judge_103 hl (k := 0) rfl (nI_1 j) (by decide) rfl (fun ls hl => ?_)
                          refine lv_goto (tgt := 25) hx hb d_Mo_judge_106 (by decide) ?_
                          have e7 : mj_add V (nI (c1 + 1)) (f7 i) (nI j) = it (mj_3 f6 f7 f8 f10 f11 m9 (c1 + 1) i) (j + 1) (it (mj_2 f6 f7 f8 f10 f11 m9 (c1 + 1)) i (it (mj_1 f6 f7 f8 f10 f11 m9) c1 (0, f12, f13, f14))) := by rw [eV, mj_3, if_neg c46, if_pos k84]
                          have eB : xMo g _ q h ad s0 s1 s2 s3 (nI m9) (nI (mj_add V (nI (c1 + 1)) (f7 i) (nI j)).1) s6 f0 f1 f2 f3 f4 f5 f6 f7 f8 f9 f10 f11 ((mj_add V (nI (c1 + 1)) (f7 i) (nI j)).2.1) ((mj_add V (nI (c1 + 1)) (f7 i) (nI j)).2.2.1) ((mj_add V (nI (c1 + 1)) (f7 i) (nI j)).2.2.2) f15 f16 := eB
                          rw [e7] at eB
                          exact ih3 (j + 1) _ _ _ _ (by omega) (by omega) hj9 hl hP hD hS hQ eB
              have eB : xMo g _ q h ad s0 s1 s2 s3 (nI m9) (nI (it (mj_3 f6 f7 f8 f10 f11 m9 (c1 + 1) i) 0 (it (mj_2 f6 f7 f8 f10 f11 m9 (c1 + 1)) i (it (mj_1 f6 f7 f8 f10 f11 m9) c1 (0, f12, f13, f14)))).1) s6 f0 f1 f2 f3 f4 f5 f6 f7 f8 f9 f10 f11 ((it (mj_3 f6 f7 f8 f10 f11 m9 (c1 + 1) i) 0 (it (mj_2 f6 f7 f8 f10 f11 m9 (c1 + 1)) i (it (mj_1 f6 f7 f8 f10 f11 m9) c1 (0, f12, f13, f14)))).2.1) ((it (mj_3 f6 f7 f8 f10 f11 m9 (c1 + 1) i) 0 (it (mj_2 f6 f7 f8 f10 f11 m9 (c1 + 1)) i (it (mj_1 f6 f7 f8 f10 f11 m9) c1 (0, f12, f13, f14)))).2.2.1) ((it (mj_3 f6 f7 f8 f10 f11 m9 (c1 + 1) i) 0 (it (mj_2 f6 f7 f8 f10 f11 m9 (c1 + 1)) i (it (mj_1 f6 f7 f8 f10 f11 m9) c1 (0, f12, f13, f14)))).2.2.2) f15 f16 := eB
              exact l3 3 0 _ _ _ _ (by omega) (by omega) (Nat.zero_le _) hl hP hD hS hQ eB
        have eB : xMo g _ q h ad s0 s1 s2 s3 (nI m9) (nI (it (mj_2 f6 f7 f8 f10 f11 m9 (c1 + 1)) 0 (it (mj_1 f6 f7 f8 f10 f11 m9) c1 (0, f12, f13, f14))).1) s6 f0 f1 f2 f3 f4 f5 f6 f7 f8 f9 f10 f11 ((it (mj_2 f6 f7 f8 f10 f11 m9 (c1 + 1)) 0 (it (mj_1 f6 f7 f8 f10 f11 m9) c1 (0, f12, f13, f14))).2.1) ((it (mj_2 f6 f7 f8 f10 f11 m9 (c1 + 1)) 0 (it (mj_1 f6 f7 f8 f10 f11 m9) c1 (0, f12, f13, f14))).2.2.1) ((it (mj_2 f6 f7 f8 f10 f11 m9 (c1 + 1)) 0 (it (mj_1 f6 f7 f8 f10 f11 m9) c1 (0, f12, f13, f14))).2.2.2) f15 f16 := eB
        exact l2 (m9 + 1) 0 _ _ _ _ (by omega) (by omega) hl hP hD hS hQ eB
  have eB : xMo g _ q h ad s0 s1 s2 s3 (nI m9) (nI (it (mj_1 f6 f7 f8 f10 f11 m9) 0 (0, f12, f13, f14)).1) s6 f0 f1 f2 f3 f4 f5 f6 f7 f8 f9 f10 f11 ((it (mj_1 f6 f7 f8 f10 f11 m9) 0 (0, f12, f13, f14)).2.1) ((it (mj_1 f6 f7 f8 f10 f11 m9) 0 (0, f12, f13, f14)).2.2.1) ((it (mj_1 f6 f7 f8 f10 f11 m9) 0 (0, f12, f13, f14)).2.2.2) f15 f16 := eB
  exact l1 7 0 _ _ _ _ (by omega) (by omega) hl hP hD hS hQ eB
