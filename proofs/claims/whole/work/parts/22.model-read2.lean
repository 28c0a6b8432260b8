abbrev md_F : Type := (Nat → Int32) × (Nat → Int32) × (Nat → Int32) × (Nat → Int32) × (Nat → Int32)
/-- place, wrong, draft, the draft's rows -/
abbrev md_S : Type := Nat × Int32 × Nat × md_F
def md_w (k j : Nat) (F : md_F) (v : Int32) : md_F := (F.1, F.2.1, F.2.2.1, F.2.2.2.1, upd F.2.2.2.2 (2 * k + j) v)
def md_q7 (f : Nat → Int32) (n k : Nat) (F : md_F) (b : Nat × Int32) : md_S := ((mo_take f n 59 b.1 b.2).1, (mo_take f n 59 b.1 b.2).2, k + 1, F)
def md_nw (f : Nat → Int32) (n k j : Nat) (F : md_F) (h : md_F → Nat × Int32 → md_S) (b : Nat × Int32) : md_S := h (md_w k j F (mo_num f n 0 29 b.1 b.2).1) (mo_num f n 0 29 b.1 b.2).2
def md_q6 (f : Nat → Int32) (n k : Nat) (kd : Int32) (F : md_F) (b : Nat × Int32) : md_S := if kd = 3 then md_nw f n k 1 F (md_q7 f n k) (mo_take f n 44 b.1 b.2) else md_q7 f n k F b
def md_q5 (f : Nat → Int32) (n k : Nat) (kd : Int32) (F : md_F) (b : Nat × Int32) : md_S := if 4 ≤ kd then md_q6 f n k kd F b else md_nw f n k 0 F (md_q6 f n k kd) (mo_take f n 62 b.1 b.2)
def md_ns (f : Nat → Int32) (n k : Nat) (F : md_F) (h : md_F → Nat × Int32 → md_S) (b : Nat × Int32) : md_S := h (F.1, F.2.1, F.2.2.1, upd F.2.2.2.1 k (mo_num f n 1 9999 b.1 b.2).1, F.2.2.2.2) (mo_num f n 1 9999 b.1 b.2).2
def md_q4 (f : Nat → Int32) (n k : Nat) (kd : Int32) (F : md_F) (b : Nat × Int32) : md_S := if kd = 1 then md_ns f n k F (md_q5 f n k kd) (mo_take f n 44 b.1 b.2) else md_q5 f n k kd F b
def md_lo (kd : Int32) : Int32 := if kd = 2 then 0 else if kd = 3 then 0 else 1
def md_hi (kd : Int32) : Int32 := if kd = 4 then 999 else 9999
def md_put (k : Nat) (kd nm v : Int32) (F : md_F) : md_F := (upd F.1 k kd, upd F.2.1 k nm, upd F.2.2.1 k v, upd F.2.2.2.1 k (-1), upd (upd F.2.2.2.2 (2 * k) (-1)) (2 * k + 1) (-1))
def md_q3 (f : Nat → Int32) (n k : Nat) (kd nm : Int32) (F : md_F) (b : Nat × Int32) : md_S := md_q4 f n k kd (md_put k kd nm (mo_num f n (md_lo kd) (md_hi kd) b.1 b.2).1 F) (mo_num f n (md_lo kd) (md_hi kd) b.1 b.2).2
def md_dup (g2 : Nat → Int32) (nm : Int32) (p : Nat) (i : Nat) (w : Int32) : Int32 := if w = -1 then (if g2 i = nm then mo_mark w (nI p) else w) else w
def md_q2 (f : Nat → Int32) (n k : Nat) (kd : Int32) (F : md_F) (p : Nat) (a : Int32 × Nat × Int32) : md_S := md_q3 f n k kd a.1 F (mo_take f n 61 a.2.1 (it (md_dup F.2.1 a.1 p) k a.2.2))
def md_q1 (f : Nat → Int32) (n k : Nat) (kd : Int32) (F : md_F) (p : Nat) (wr : Int32) : md_S := md_q2 f n k kd F p (mo_num f n 0 29 p wr)
def md_step (f : Nat → Int32) (n : Nat) (z : md_S) : md_S := if z.2.2.1 = 24 then (z.1, mo_mark z.2.1 (nI z.1), z.2.2) else if mo_kind (mo_look f n z.1) = -1 then (z.1, mo_mark z.2.1 (nI z.1), z.2.2) else md_q1 f n z.2.2.1 (mo_kind (mo_look f n z.1)) z.2.2.2 (z.1 + 1) z.2.1
theorem mo_kind_in (x : Int32) : mo_kind x = -1 ∨ mo_kind x = 0 ∨ mo_kind x = 1 ∨ mo_kind x = 2 ∨ mo_kind x = 3 ∨ mo_kind x = 4 := by
  unfold mo_kind
  split
  · exact Or.inr (Or.inl rfl)
  · split
    · exact Or.inr (Or.inr (Or.inl rfl))
    · split
      · exact Or.inr (Or.inr (Or.inr (Or.inl rfl)))
      · split
        · exact Or.inr (Or.inr (Or.inr (Or.inr (Or.inl rfl))))
        · split
          · exact Or.inr (Or.inr (Or.inr (Or.inr (Or.inr rfl))))
          · exact Or.inl rfl
theorem mo_kind_0 : mo_kind 0 = -1 := by decide
set_option maxRecDepth 100000 in
set_option maxHeartbeats 4000000 in
theorem c_Mo_readPart (l : Launch) (g : xG) (b0 : Nat) (ws : va_W) {q h : Nat} {ad : Nat → Nat} {s2 s4 s5 s6 : Int32} {f0 f1 f2 f3 f4 f5 f6 f7 f8 f9 f10 f11 f12 f13 f14 f16 : Nat → Int32} {f15 : Nat → Int64} {n t k : Nat} (eB : xMo g ws q h ad (nI n) (nI t) s2 (nI k) s4 s5 s6 f0 f1 f2 f3 f4 f5 f6 f7 f8 f9 f10 f11 f12 f13 f14 f15 f16) (hn : n ≤ 300) (hp : t ≤ n) (hk : k ≤ 24) : xMv l g b0 y_Mo_readPart b_Mo_readPart 5 3 [.ref h] ws (fun u => xQ q (q + 18) ws u ∧ xMo g u q h ad (nI n) (nI (md_step f0 n (t, s2, k, f1, f2, f3, f4, f5)).1) ((md_step f0 n (t, s2, k, f1, f2, f3, f4, f5)).2.1) (nI (md_step f0 n (t, s2, k, f1, f2, f3, f4, f5)).2.2.1) s4 s5 s6 f0 ((md_step f0 n (t, s2, k, f1, f2, f3, f4, f5)).2.2.2.1) ((md_step f0 n (t, s2, k, f1, f2, f3, f4, f5)).2.2.2.2.1) ((md_step f0 n (t, s2, k, f1, f2, f3, f4, f5)).2.2.2.2.2.1) ((md_step f0 n (t, s2, k, f1, f2, f3, f4, f5)).2.2.2.2.2.2.1) ((md_step f0 n (t, s2, k, f1, f2, f3, f4, f5)).2.2.2.2.2.2.2) f6 f7 f8 f9 f10 f11 f12 f13 f14 f15 f16 ∧ (md_step f0 n (t, s2, k, f1, f2, f3, f4, f5)).1 ≤ n) := by
  unfold xMv
  refine x_in (by decide) (Nat.le_of_ble_eq_true rfl) ?_
  intro p e s m below meth c ls E hr hin hP hD hl
  obtain ⟨hx, hb, hml, hown, hts, hK, hZ, hb0, hlocks⟩ := id E
  have hS : va_S (xA b0) s.heap s.heap [] := va_S.rf
  have hl : lv_has ls 5 [(0, .ref h)] := hl
  have hQ : xQ q (q + 18) ws ws := xQ.rf
  refine lv_aload_n hx hb d_Mo_readPart_0 rfl (lv_at hl 0 rfl) ?_
  refine x_cRi (As := []) (rest := []) E (c_Mo_look l g b0 _ eB (by omega) (by omega)) wy_Mo_look wl_Mo_73 hP hD hS eB.1 rfl hl.1 ⟨by decide, by decide⟩ ⟨Nat.le_refl _, Nat.le_refl _⟩ rfl (Nat.le_of_ble_eq_true rfl) d_Mo_readPart_1 (fun r1 hr1 => ?_)
  subst hr1
  refine x_cSi (As := [.int (mo_look f0 n t)]) (rest := []) E (c_Mo_kindOf l g b0 _ (mo_look f0 n t)) wy_Mo_kindOf wl_Mo_88 hP hD hS hl.1 ⟨by decide, by decide⟩ ⟨Nat.le_refl _, Nat.le_refl _⟩ rfl (Nat.le_of_ble_eq_true rfl) d_Mo_readPart_4 (fun r4 hr4 => ?_)
  subst hr4
  refine lv_istore_n (lv' := [(1, .int (mo_kind (mo_look f0 n t))), (0, .ref h)]) hx hb d_Mo_readPart_7 rfl hl (by decide) rfl (fun ls hl => ?_)
  refine lv_aload_n hx hb d_Mo_readPart_8 rfl (lv_at hl 1 rfl) ?_
  refine x_get E hP eB.1 rfl cl6_in 4 (by decide) wf_Mo_81 rfl d_Mo_readPart_9 ?_
  refine lv_bipush (v := 24) hx hb d_Mo_readPart_12 (by decide) ?_
  refine lv_icmp_eq (tgt := 22) hx hb d_Mo_readPart_14 (by decide) (fun c14 => ?_) (fun c14 => ?_)
  · have h14 : k = 24 := (nI_eq (b := 24) (by omega) (by decide)).mp c14
    refine lv_aload_n hx hb d_Mo_readPart_22 rfl (lv_at hl 1 rfl) ?_
    refine lv_aload_n hx hb d_Mo_readPart_23 rfl (lv_at hl 1 rfl) ?_
    refine x_get E hP eB.1 rfl cl6_in 2 (by decide) wf_Mo_67 rfl d_Mo_readPart_24 ?_
    refine x_cVv (As := [.int (nI t)]) (rest := []) E (c_Mo_mark l g b0 _ eB (nI t)) wy_Mo_mark wl_Mo_77 hP hD hS eB.1 rfl hl.1 ⟨by decide, by decide⟩ ⟨Nat.le_refl _, Nat.le_refl _⟩ rfl (Nat.le_of_ble_eq_true rfl) d_Mo_readPart_27 (fun w2 H locs hr27 hP hD hS => ?_)
    obtain ⟨hq, eB⟩ := hr27
    have hQ := hQ.tr hq
    refine x_rv E hr hS ⟨hQ, ?_⟩ hP hD d_Mo_readPart_30
    generalize hX9 : md_step f0 n (t, s2, k, f1, f2, f3, f4, f5) = Y9
    rw [md_step, if_pos (show (t, s2, k, f1, f2, f3, f4, f5).2.2.1 = 24 from h14)] at hX9
    subst hX9
    exact ⟨eB, hp⟩
  · have h14 : ¬ k = 24 := fun h => c14 (by rw [h]; decide)
    have hk24 := h14
    have hk9 : k < 24 := by omega
    refine lv_iload_n hx hb d_Mo_readPart_17 rfl (lv_at hl 0 rfl) ?_
    refine lv_iconst (v := (-1)) hx hb d_Mo_readPart_18 (by decide) ?_
    refine lv_icmp_ne (tgt := 31) hx hb d_Mo_readPart_19 (by decide) (fun c19 => ?_) (fun c19 => ?_)
    · have hk1 := c19
      have hp : t + 1 ≤ n := mo_look_lt (fun h => c19 (by rw [h, mo_kind_0]))
      refine lv_aload_n hx hb d_Mo_readPart_31 rfl (lv_at hl 1 rfl) ?_
      refine lv_dup hx hb d_Mo_readPart_32 rfl ?_
      refine x_get E hP eB.1 rfl cl6_in 2 (by decide) wf_Mo_67 rfl d_Mo_readPart_33 ?_
      refine lv_iconst (v := 1) hx hb d_Mo_readPart_36 (by decide) ?_
      refine lv_iadd hx hb d_Mo_readPart_37 ?_
      refine x_top (y := nI (t + 1)) (nI_1 t) ?_
      refine x_put E hP hD hS eB.1 rfl cl6_in cl6_ty cl6_nm 2 (by decide) wf_Mo_67 rfl rfl rfl (Nat.le_of_ble_eq_true rfl) d_Mo_readPart_38 (fun w2 H locs hU2 hP hD hS => ?_)
      have eB : xMo g w2 q h ad (nI n) (nI (t + 1)) s2 (nI k) s4 s5 s6 f0 f1 f2 f3 f4 f5 f6 f7 f8 f9 f10 f11 f12 f13 f14 f15 f16 := eB.t1 hU2
      have hQ := hQ.up hU2 (by omega)
      refine lv_aload_n hx hb d_Mo_readPart_41 rfl (lv_at hl 1 rfl) ?_
      refine x_get E hP eB.1 rfl cl6_in 2 (by decide) wf_Mo_67 rfl d_Mo_readPart_42 ?_
      refine lv_istore_n (lv' := [(2, .int (nI (t + 1))), (1, .int (mo_kind (mo_look f0 n t))), (0, .ref h)]) hx hb d_Mo_readPart_45 rfl hl (by decide) rfl (fun ls hl => ?_)
      refine lv_aload_n hx hb d_Mo_readPart_46 rfl (lv_at hl 2 rfl) ?_
      refine lv_iconst (v := 0) hx hb d_Mo_readPart_47 (by decide) ?_
      refine lv_bipush (v := 29) hx hb d_Mo_readPart_48 (by decide) ?_
      refine x_cVi (As := [.int 0, .int 29]) (rest := []) E (c_Mo_number l g b0 _ eB hn hp 0 29) wy_Mo_number wl_Mo_84 hP hD hS eB.1 rfl hl.1 ⟨by decide, by decide⟩ ⟨Nat.le_refl _, Nat.le_refl _⟩ rfl (Nat.le_of_ble_eq_true rfl) d_Mo_readPart_50 (fun r50 w3 H locs hr50 hP hD hS => ?_)
      obtain ⟨rfl, hq, eB, hp⟩ := hr50
      have hQ := hQ.tr hq
      generalize hN50 : mo_num f0 n 0 29 (t + 1) s2 = N50 at eB hp ⊢
      refine lv_istore_n (lv' := [(3, .int N50.1), (2, .int (nI (t + 1))), (1, .int (mo_kind (mo_look f0 n t))), (0, .ref h)]) hx hb d_Mo_readPart_53 rfl hl (by decide) rfl (fun ls hl => ?_)
      refine lv_iconst (v := 0) hx hb d_Mo_readPart_54 (by decide) ?_
      refine lv_istore (lv' := [(4, .int 0), (3, .int N50.1), (2, .int (nI (t + 1))), (1, .int (mo_kind (mo_look f0 n t))), (0, .ref h)]) hx hb d_Mo_readPart_55 hl (by decide) rfl (fun ls hl => ?_)
      have loop : ∀ (fu i : Nat) (W9 : Int32) (v9 : va_W) (H : Heap) (locs : List Loc) (ls : Array Slot), (k < i + fu) → (i ≤ k) → (W9 = it (md_dup f2 N50.1 (t + 1)) i N50.2.2) → (lv_has ls 5 [(4, .int (nI i)), (3, .int N50.1), (2, .int (nI (t + 1))), (1, .int (mo_kind (mo_look f0 n t))), (0, .ref h)]) → (va_P (xD g) vwCl v9 H) → (va_D (xA b0) v9) → (va_S (xA b0) s.heap H locs) → (xQ q (q + 18) ws v9) → (xMo g v9 q h ad (nI n) (nI N50.2.1) W9 (nI k) s4 s5 s6 f0 f1 f2 f3 f4 f5 f6 f7 f8 f9 f10 f11 f12 f13 f14 f15 f16) → W p l e (rmL 3) s m ([.ref h] : List Value).toArray below meth c H locs 0 0 (MQ below (va_Qv (fun u => xQ q (q + 18) ws u ∧ xMo g u q h ad (nI n) (nI (md_step f0 n (t, s2, k, f1, f2, f3, f4, f5)).1) ((md_step f0 n (t, s2, k, f1, f2, f3, f4, f5)).2.1) (nI (md_step f0 n (t, s2, k, f1, f2, f3, f4, f5)).2.2.1) s4 s5 s6 f0 ((md_step f0 n (t, s2, k, f1, f2, f3, f4, f5)).2.2.2.1) ((md_step f0 n (t, s2, k, f1, f2, f3, f4, f5)).2.2.2.2.1) ((md_step f0 n (t, s2, k, f1, f2, f3, f4, f5)).2.2.2.2.2.1) ((md_step f0 n (t, s2, k, f1, f2, f3, f4, f5)).2.2.2.2.2.2.1) ((md_step f0 n (t, s2, k, f1, f2, f3, f4, f5)).2.2.2.2.2.2.2) f6 f7 f8 f9 f10 f11 f12 f13 f14 f15 f16 ∧ (md_step f0 n (t, s2, k, f1, f2, f3, f4, f5)).1 ≤ n) (fun u t => va_P (xD g) vwCl u t.heap ∧ va_D (xA b0) u) (xA b0)) ([.ref h] : List Value).toArray s 0 0 (xA b0)) (F0 m 57 ls []) := by
        intro fu
        induction fu with
        | zero =>
          intro i W9 v9 H locs ls hk hi hW hl hP hD hS hQ eB
          omega
        | succ fu ih =>
          intro i W9 v9 H locs ls hk hi hW hl hP hD hS hQ eB
          refine lv_iload hx hb d_Mo_readPart_57 (lv_at hl 0 rfl) ?_
          refine lv_aload_n hx hb d_Mo_readPart_59 rfl (lv_at hl 4 rfl) ?_
          refine x_get E hP eB.1 rfl cl6_in 4 (by decide) wf_Mo_81 rfl d_Mo_readPart_60 ?_
          refine lv_icmp_ge (tgt := 96) hx hb d_Mo_readPart_63 (by decide) (fun c63 => ?_) (fun c63 => ?_)
          · have hi9 : i = k := by
              have := (nI_leI (by omega) (by omega)).mp c63
              omega
            have hW9 : W9 = it (md_dup f2 N50.1 (t + 1)) k N50.2.2 := by rw [hW, hi9]
            rcases (mo_kind_in (mo_look f0 n t)).resolve_left hk1 with hk0 | hk0 | hk0 | hk0 | hk0
            · rw [hk0] at hl
              refine lv_aload_n hx hb d_Mo_readPart_96 rfl (lv_at hl 4 rfl) ?_
              refine lv_bipush (v := 61) hx hb d_Mo_readPart_97 (by decide) ?_
              refine x_cVv (As := [.int 61]) (rest := []) E (c_Mo_take l g b0 _ eB hn hp 61 (by decide)) wy_Mo_take wl_Mo_92 hP hD hS eB.1 rfl hl.1 ⟨by decide, by decide⟩ ⟨Nat.le_refl _, Nat.le_refl _⟩ rfl (Nat.le_of_ble_eq_true rfl) d_Mo_readPart_99 (fun w54 H locs hr99 hP hD hS => ?_)
              obtain ⟨hq, eB, hp⟩ := hr99
              have hQ := hQ.tr hq
              generalize hT99 : mo_take f0 n 61 N50.2.1 W9 = T99 at eB hp
              refine lv_aload_n hx hb d_Mo_readPart_102 rfl (lv_at hl 4 rfl) ?_
              refine x_get E hP eB.1 rfl cl6_in 5 (by decide) wf_Mo_13 rfl d_Mo_readPart_103 ?_
              refine lv_aload_n hx hb d_Mo_readPart_106 rfl (lv_at hl 4 rfl) ?_
              refine x_get E hP eB.1 rfl cl6_in 4 (by decide) wf_Mo_81 rfl d_Mo_readPart_107 ?_
              refine lv_iload_n hx hb d_Mo_readPart_110 rfl (lv_at hl 3 rfl) ?_
              refine x_iast E hP hD hS eB.2.2.1 (j := k) rfl hk9 (by decide) d_Mo_readPart_111 (fun w55 H locs hU55 hP hD hS => ?_)
              have eB : xMo g w55 q h ad (nI n) (nI T99.1) T99.2 (nI k) s4 s5 s6 f0 (upd f1 k 0) f2 f3 f4 f5 f6 f7 f8 f9 f10 f11 f12 f13 f14 f15 f16 := eB.a1 hU55
              have hQ := hQ.up hU55 (by omega)
              refine lv_aload_n hx hb d_Mo_readPart_112 rfl (lv_at hl 4 rfl) ?_
              refine x_get E hP eB.1 rfl cl6_in 6 (by decide) wf_Mo_16 rfl d_Mo_readPart_113 ?_
              refine lv_aload_n hx hb d_Mo_readPart_116 rfl (lv_at hl 4 rfl) ?_
              refine x_get E hP eB.1 rfl cl6_in 4 (by decide) wf_Mo_81 rfl d_Mo_readPart_117 ?_
              refine lv_iload_n hx hb d_Mo_readPart_120 rfl (lv_at hl 1 rfl) ?_
              refine x_iast E hP hD hS eB.2.2.2.1 (j := k) rfl hk9 (by decide) d_Mo_readPart_121 (fun w56 H locs hU56 hP hD hS => ?_)
              have eB : xMo g w56 q h ad (nI n) (nI T99.1) T99.2 (nI k) s4 s5 s6 f0 (upd f1 k 0) (upd f2 k N50.1) f3 f4 f5 f6 f7 f8 f9 f10 f11 f12 f13 f14 f15 f16 := eB.a2 hU56
              have hQ := hQ.up hU56 (by omega)
              refine lv_aload_n hx hb d_Mo_readPart_122 rfl (lv_at hl 4 rfl) ?_
              refine x_get E hP eB.1 rfl cl6_in 7 (by decide) wf_Mo_19 rfl d_Mo_readPart_123 ?_
              refine lv_aload_n hx hb d_Mo_readPart_126 rfl (lv_at hl 4 rfl) ?_
              refine x_get E hP eB.1 rfl cl6_in 4 (by decide) wf_Mo_81 rfl d_Mo_readPart_127 ?_
              refine lv_aload_n hx hb d_Mo_readPart_130 rfl (lv_at hl 4 rfl) ?_
              refine lv_iload_n hx hb d_Mo_readPart_131 rfl (lv_at hl 3 rfl) ?_
              refine lv_iconst (v := 2) hx hb d_Mo_readPart_132 (by decide) ?_
              refine lv_icmp_eq (tgt := 141) hx hb d_Mo_readPart_133 (by decide) (fun c133 => absurd c133 (by decide)) (fun c133 => ?_)
              refine lv_iload_n hx hb d_Mo_readPart_136 rfl (lv_at hl 3 rfl) ?_
              refine lv_iconst (v := 3) hx hb d_Mo_readPart_137 (by decide) ?_
              refine lv_icmp_ne (tgt := 145) hx hb d_Mo_readPart_138 (by decide) (fun c138 => ?_) (fun c138 => absurd c138 (by decide))
              refine lv_iconst (v := 1) hx hb d_Mo_readPart_145 (by decide) ?_
              refine lv_iload_n hx hb d_Mo_readPart_146 rfl (lv_at hl 3 rfl) ?_
              refine lv_iconst (v := 4) hx hb d_Mo_readPart_147 (by decide) ?_
              refine lv_icmp_ne (tgt := 157) hx hb d_Mo_readPart_148 (by decide) (fun c148 => ?_) (fun c148 => absurd c148 (by decide))
              refine lv_sipush (v := 9999) hx hb d_Mo_readPart_157 (by decide) ?_
              refine x_cVi (As := [.int 1, .int 9999]) (rest := [.int (nI k), .ref (ad 3)]) E (c_Mo_number l g b0 _ eB hn hp 1 9999) wy_Mo_number wl_Mo_84 hP hD hS eB.1 rfl hl.1 ⟨by decide, by decide⟩ ⟨Nat.le_refl _, Nat.le_refl _⟩ rfl (Nat.le_of_ble_eq_true rfl) d_Mo_readPart_160 (fun r160 w57 H locs hr160 hP hD hS => ?_)
              obtain ⟨rfl, hq, eB, hp⟩ := hr160
              have hQ := hQ.tr hq
              generalize hN160 : mo_num f0 n 1 9999 T99.1 T99.2 = N160 at eB hp ⊢
              refine x_iast E hP hD hS eB.2.2.2.2.1 (j := k) rfl hk9 (by decide) d_Mo_readPart_163 (fun w58 H locs hU58 hP hD hS => ?_)
              have eB : xMo g w58 q h ad (nI n) (nI N160.2.1) N160.2.2 (nI k) s4 s5 s6 f0 (upd f1 k 0) (upd f2 k N50.1) (upd f3 k N160.1) f4 f5 f6 f7 f8 f9 f10 f11 f12 f13 f14 f15 f16 := eB.a3 hU58
              have hQ := hQ.up hU58 (by omega)
              refine lv_aload_n hx hb d_Mo_readPart_164 rfl (lv_at hl 4 rfl) ?_
              refine x_get E hP eB.1 rfl cl6_in 8 (by decide) wf_Mo_22 rfl d_Mo_readPart_165 ?_
              refine lv_aload_n hx hb d_Mo_readPart_168 rfl (lv_at hl 4 rfl) ?_
              refine x_get E hP eB.1 rfl cl6_in 4 (by decide) wf_Mo_81 rfl d_Mo_readPart_169 ?_
              refine lv_iconst (v := (-1)) hx hb d_Mo_readPart_172 (by decide) ?_
              refine x_iast E hP hD hS eB.2.2.2.2.2.1 (j := k) rfl hk9 (by decide) d_Mo_readPart_173 (fun w59 H locs hU59 hP hD hS => ?_)
              have eB : xMo g w59 q h ad (nI n) (nI N160.2.1) N160.2.2 (nI k) s4 s5 s6 f0 (upd f1 k 0) (upd f2 k N50.1) (upd f3 k N160.1) (upd f4 k (-1)) f5 f6 f7 f8 f9 f10 f11 f12 f13 f14 f15 f16 := eB.a4 hU59
              have hQ := hQ.up hU59 (by omega)
              refine lv_aload_n hx hb d_Mo_readPart_174 rfl (lv_at hl 4 rfl) ?_
              refine x_get E hP eB.1 rfl cl6_in 9 (by decide) wf_Mo_25 rfl d_Mo_readPart_175 ?_
              refine lv_iconst (v := 2) hx hb d_Mo_readPart_178 (by decide) ?_
              refine lv_aload_n hx hb d_Mo_readPart_179 rfl (lv_at hl 4 rfl) ?_
              refine x_get E hP eB.1 rfl cl6_in 4 (by decide) wf_Mo_81 rfl d_Mo_readPart_180 ?_
              refine lv_imul hx hb d_Mo_readPart_183 ?_
              refine x_top (y := nI (2 * k)) (pk_mul 2 k) ?_
              refine lv_iconst (v := (-1)) hx hb d_Mo_readPart_184 (by decide) ?_
              refine x_iast E hP hD hS eB.2.2.2.2.2.2.1 (j := 2 * k) rfl (by omega) (by decide) d_Mo_readPart_185 (fun w60 H locs hU60 hP hD hS => ?_)
              have eB : xMo g w60 q h ad (nI n) (nI N160.2.1) N160.2.2 (nI k) s4 s5 s6 f0 (upd f1 k 0) (upd f2 k N50.1) (upd f3 k N160.1) (upd f4 k (-1)) (upd f5 (2 * k) (-1)) f6 f7 f8 f9 f10 f11 f12 f13 f14 f15 f16 := eB.a5 hU60
              have hQ := hQ.up hU60 (by omega)
              refine lv_aload_n hx hb d_Mo_readPart_186 rfl (lv_at hl 4 rfl) ?_
              refine x_get E hP eB.1 rfl cl6_in 9 (by decide) wf_Mo_25 rfl d_Mo_readPart_187 ?_
              refine lv_iconst (v := 2) hx hb d_Mo_readPart_190 (by decide) ?_
              refine lv_aload_n hx hb d_Mo_readPart_191 rfl (lv_at hl 4 rfl) ?_
              refine x_get E hP eB.1 rfl cl6_in 4 (by decide) wf_Mo_81 rfl d_Mo_readPart_192 ?_
              refine lv_imul hx hb d_Mo_readPart_195 ?_
              refine x_top (y := nI (2 * k)) (pk_mul 2 k) ?_
              refine lv_iconst (v := 1) hx hb d_Mo_readPart_196 (by decide) ?_
              refine lv_iadd hx hb d_Mo_readPart_197 ?_
              refine x_top (y := nI (2 * k + 1)) (nI_1 (2 * k)) ?_
              refine lv_iconst (v := (-1)) hx hb d_Mo_readPart_198 (by decide) ?_
              refine x_iast E hP hD hS eB.2.2.2.2.2.2.1 (j := 2 * k + 1) rfl (by omega) (by decide) d_Mo_readPart_199 (fun w61 H locs hU61 hP hD hS => ?_)
              have eB : xMo g w61 q h ad (nI n) (nI N160.2.1) N160.2.2 (nI k) s4 s5 s6 f0 (upd f1 k 0) (upd f2 k N50.1) (upd f3 k N160.1) (upd f4 k (-1)) (upd (upd f5 (2 * k) (-1)) (2 * k + 1) (-1)) f6 f7 f8 f9 f10 f11 f12 f13 f14 f15 f16 := eB.a5 hU61
              have hQ := hQ.up hU61 (by omega)
              refine lv_iload_n hx hb d_Mo_readPart_200 rfl (lv_at hl 3 rfl) ?_
              refine lv_iconst (v := 1) hx hb d_Mo_readPart_201 (by decide) ?_
              refine lv_icmp_ne (tgt := 228) hx hb d_Mo_readPart_202 (by decide) (fun c202 => ?_) (fun c202 => absurd c202 (by decide))
              refine lv_iload_n hx hb d_Mo_readPart_228 rfl (lv_at hl 3 rfl) ?_
              refine lv_iconst (v := 4) hx hb d_Mo_readPart_229 (by decide) ?_
              refine lv_icmp_ge (tgt := 244) hx hb d_Mo_readPart_230 (by decide) (fun c230 => absurd c230 (by decide)) (fun c230 => ?_)
              refine lv_aload_n hx hb d_Mo_readPart_233 rfl (lv_at hl 4 rfl) ?_
              refine lv_bipush (v := 62) hx hb d_Mo_readPart_234 (by decide) ?_
              refine x_cVv (As := [.int 62]) (rest := []) E (c_Mo_take l g b0 _ eB hn hp 62 (by decide)) wy_Mo_take wl_Mo_92 hP hD hS eB.1 rfl hl.1 ⟨by decide, by decide⟩ ⟨Nat.le_refl _, Nat.le_refl _⟩ rfl (Nat.le_of_ble_eq_true rfl) d_Mo_readPart_236 (fun w62 H locs hr236 hP hD hS => ?_)
              obtain ⟨hq, eB, hp⟩ := hr236
              have hQ := hQ.tr hq
              generalize hT236 : mo_take f0 n 62 N160.2.1 N160.2.2 = T236 at eB hp
              refine lv_aload_n hx hb d_Mo_readPart_239 rfl (lv_at hl 4 rfl) ?_
              refine lv_iconst (v := 0) hx hb d_Mo_readPart_240 (by decide) ?_
              refine x_cVv (As := [.int 0]) (rest := []) E (c_Mo_way l g b0 _ eB hn hp hk9 0 0 rfl (by decide)) wy_Mo_way wl_Mo_95 hP hD hS eB.1 rfl hl.1 ⟨by decide, by decide⟩ ⟨Nat.le_refl _, Nat.le_refl _⟩ rfl (Nat.le_of_ble_eq_true rfl) d_Mo_readPart_241 (fun w63 H locs hr241 hP hD hS => ?_)
              obtain ⟨hq, eB, hp⟩ := hr241
              have hQ := hQ.tr hq
              generalize hN241 : mo_num f0 n 0 29 T236.1 T236.2 = N241 at eB hp
              refine lv_iload_n hx hb d_Mo_readPart_244 rfl (lv_at hl 3 rfl) ?_
              refine lv_iconst (v := 3) hx hb d_Mo_readPart_245 (by decide) ?_
              refine lv_icmp_ne (tgt := 260) hx hb d_Mo_readPart_246 (by decide) (fun c246 => ?_) (fun c246 => absurd c246 (by decide))
              refine lv_aload_n hx hb d_Mo_readPart_260 rfl (lv_at hl 4 rfl) ?_
              refine lv_bipush (v := 59) hx hb d_Mo_readPart_261 (by decide) ?_
              refine x_cVv (As := [.int 59]) (rest := []) E (c_Mo_take l g b0 _ eB hn hp 59 (by decide)) wy_Mo_take wl_Mo_92 hP hD hS eB.1 rfl hl.1 ⟨by decide, by decide⟩ ⟨Nat.le_refl _, Nat.le_refl _⟩ rfl (Nat.le_of_ble_eq_true rfl) d_Mo_readPart_263 (fun w64 H locs hr263 hP hD hS => ?_)
              obtain ⟨hq, eB, hp⟩ := hr263
              have hQ := hQ.tr hq
              generalize hT263 : mo_take f0 n 59 N241.2.1 N241.2.2 = T263 at eB hp
              refine lv_aload_n hx hb d_Mo_readPart_266 rfl (lv_at hl 4 rfl) ?_
              refine lv_dup hx hb d_Mo_readPart_267 rfl ?_
              refine x_get E hP eB.1 rfl cl6_in 4 (by decide) wf_Mo_81 rfl d_Mo_readPart_268 ?_
              refine lv_iconst (v := 1) hx hb d_Mo_readPart_271 (by decide) ?_
              refine lv_iadd hx hb d_Mo_readPart_272 ?_
              refine x_top (y := nI (k + 1)) (nI_1 k) ?_
              refine x_put E hP hD hS eB.1 rfl cl6_in cl6_ty cl6_nm 4 (by decide) wf_Mo_81 rfl rfl rfl (Nat.le_of_ble_eq_true rfl) d_Mo_readPart_273 (fun w65 H locs hU65 hP hD hS => ?_)
              have eB : xMo g w65 q h ad (nI n) (nI T263.1) T263.2 (nI (k + 1)) s4 s5 s6 f0 (upd f1 k 0) (upd f2 k N50.1) (upd f3 k N160.1) (upd f4 k (-1)) (upd (upd (upd f5 (2 * k) (-1)) (2 * k + 1) (-1)) (2 * k + 0) N241.1) f6 f7 f8 f9 f10 f11 f12 f13 f14 f15 f16 := eB.t3 hU65
              have hQ := hQ.up hU65 (by omega)
              refine x_rv E hr hS ⟨hQ, ?_⟩ hP hD d_Mo_readPart_276
              generalize hX9 : md_step f0 n (t, s2, k, f1, f2, f3, f4, f5) = Y9
              rw [md_step, if_neg (show ¬ (t, s2, k, f1, f2, f3, f4, f5).2.2.1 = 24 from hk24), if_neg (show ¬ mo_kind (mo_look f0 n (t, s2, k, f1, f2, f3, f4, f5).1) = -1 from hk1), hk0, md_q1, hN50, md_q2, ← hW9, hT99, md_q3, show md_lo 0 = 1 from rfl, show md_hi 0 = 9999 from rfl, hN160, md_q4, if_neg (by decide), md_q5, if_neg (by decide), hT236, md_nw, hN241, md_q6, if_neg (by decide), md_q7, hT263] at hX9
              subst hX9
              exact ⟨eB, hp⟩
            · rw [hk0] at hl
              refine lv_aload_n hx hb d_Mo_readPart_96 rfl (lv_at hl 4 rfl) ?_
              refine lv_bipush (v := 61) hx hb d_Mo_readPart_97 (by decide) ?_
              refine x_cVv (As := [.int 61]) (rest := []) E (c_Mo_take l g b0 _ eB hn hp 61 (by decide)) wy_Mo_take wl_Mo_92 hP hD hS eB.1 rfl hl.1 ⟨by decide, by decide⟩ ⟨Nat.le_refl _, Nat.le_refl _⟩ rfl (Nat.le_of_ble_eq_true rfl) d_Mo_readPart_99 (fun w54 H locs hr99 hP hD hS => ?_)
              obtain ⟨hq, eB, hp⟩ := hr99
              have hQ := hQ.tr hq
              generalize hT99 : mo_take f0 n 61 N50.2.1 W9 = T99 at eB hp
              refine lv_aload_n hx hb d_Mo_readPart_102 rfl (lv_at hl 4 rfl) ?_
              refine x_get E hP eB.1 rfl cl6_in 5 (by decide) wf_Mo_13 rfl d_Mo_readPart_103 ?_
              refine lv_aload_n hx hb d_Mo_readPart_106 rfl (lv_at hl 4 rfl) ?_
              refine x_get E hP eB.1 rfl cl6_in 4 (by decide) wf_Mo_81 rfl d_Mo_readPart_107 ?_
              refine lv_iload_n hx hb d_Mo_readPart_110 rfl (lv_at hl 3 rfl) ?_
              refine x_iast E hP hD hS eB.2.2.1 (j := k) rfl hk9 (by decide) d_Mo_readPart_111 (fun w55 H locs hU55 hP hD hS => ?_)
              have eB : xMo g w55 q h ad (nI n) (nI T99.1) T99.2 (nI k) s4 s5 s6 f0 (upd f1 k 1) f2 f3 f4 f5 f6 f7 f8 f9 f10 f11 f12 f13 f14 f15 f16 := eB.a1 hU55
              have hQ := hQ.up hU55 (by omega)
              refine lv_aload_n hx hb d_Mo_readPart_112 rfl (lv_at hl 4 rfl) ?_
              refine x_get E hP eB.1 rfl cl6_in 6 (by decide) wf_Mo_16 rfl d_Mo_readPart_113 ?_
              refine lv_aload_n hx hb d_Mo_readPart_116 rfl (lv_at hl 4 rfl) ?_
              refine x_get E hP eB.1 rfl cl6_in 4 (by decide) wf_Mo_81 rfl d_Mo_readPart_117 ?_
              refine lv_iload_n hx hb d_Mo_readPart_120 rfl (lv_at hl 1 rfl) ?_
              refine x_iast E hP hD hS eB.2.2.2.1 (j := k) rfl hk9 (by decide) d_Mo_readPart_121 (fun w56 H locs hU56 hP hD hS => ?_)
              have eB : xMo g w56 q h ad (nI n) (nI T99.1) T99.2 (nI k) s4 s5 s6 f0 (upd f1 k 1) (upd f2 k N50.1) f3 f4 f5 f6 f7 f8 f9 f10 f11 f12 f13 f14 f15 f16 := eB.a2 hU56
              have hQ := hQ.up hU56 (by omega)
              refine lv_aload_n hx hb d_Mo_readPart_122 rfl (lv_at hl 4 rfl) ?_
              refine x_get E hP eB.1 rfl cl6_in 7 (by decide) wf_Mo_19 rfl d_Mo_readPart_123 ?_
              refine lv_aload_n hx hb d_Mo_readPart_126 rfl (lv_at hl 4 rfl) ?_
              refine x_get E hP eB.1 rfl cl6_in 4 (by decide) wf_Mo_81 rfl d_Mo_readPart_127 ?_
              refine lv_aload_n hx hb d_Mo_readPart_130 rfl (lv_at hl 4 rfl) ?_
              refine lv_iload_n hx hb d_Mo_readPart_131 rfl (lv_at hl 3 rfl) ?_
              refine lv_iconst (v := 2) hx hb d_Mo_readPart_132 (by decide) ?_
              refine lv_icmp_eq (tgt := 141) hx hb d_Mo_readPart_133 (by decide) (fun c133 => absurd c133 (by decide)) (fun c133 => ?_)
              refine lv_iload_n hx hb d_Mo_readPart_136 rfl (lv_at hl 3 rfl) ?_
              refine lv_iconst (v := 3) hx hb d_Mo_readPart_137 (by decide) ?_
              refine lv_icmp_ne (tgt := 145) hx hb d_Mo_readPart_138 (by decide) (fun c138 => ?_) (fun c138 => absurd c138 (by decide))
              refine lv_iconst (v := 1) hx hb d_Mo_readPart_145 (by decide) ?_
              refine lv_iload_n hx hb d_Mo_readPart_146 rfl (lv_at hl 3 rfl) ?_
              refine lv_iconst (v := 4) hx hb d_Mo_readPart_147 (by decide) ?_
              refine lv_icmp_ne (tgt := 157) hx hb d_Mo_readPart_148 (by decide) (fun c148 => ?_) (fun c148 => absurd c148 (by decide))
              refine lv_sipush (v := 9999) hx hb d_Mo_readPart_157 (by decide) ?_
              refine x_cVi (As := [.int 1, .int 9999]) (rest := [.int (nI k), .ref (ad 3)]) E (c_Mo_number l g b0 _ eB hn hp 1 9999) wy_Mo_number wl_Mo_84 hP hD hS eB.1 rfl hl.1 ⟨by decide, by decide⟩ ⟨Nat.le_refl _, Nat.le_refl _⟩ rfl (Nat.le_of_ble_eq_true rfl) d_Mo_readPart_160 (fun r160 w57 H locs hr160 hP hD hS => ?_)
              obtain ⟨rfl, hq, eB, hp⟩ := hr160
              have hQ := hQ.tr hq
              generalize hN160 : mo_num f0 n 1 9999 T99.1 T99.2 = N160 at eB hp ⊢
              refine x_iast E hP hD hS eB.2.2.2.2.1 (j := k) rfl hk9 (by decide) d_Mo_readPart_163 (fun w58 H locs hU58 hP hD hS => ?_)
              have eB : xMo g w58 q h ad (nI n) (nI N160.2.1) N160.2.2 (nI k) s4 s5 s6 f0 (upd f1 k 1) (upd f2 k N50.1) (upd f3 k N160.1) f4 f5 f6 f7 f8 f9 f10 f11 f12 f13 f14 f15 f16 := eB.a3 hU58
              have hQ := hQ.up hU58 (by omega)
              refine lv_aload_n hx hb d_Mo_readPart_164 rfl (lv_at hl 4 rfl) ?_
              refine x_get E hP eB.1 rfl cl6_in 8 (by decide) wf_Mo_22 rfl d_Mo_readPart_165 ?_
              refine lv_aload_n hx hb d_Mo_readPart_168 rfl (lv_at hl 4 rfl) ?_
              refine x_get E hP eB.1 rfl cl6_in 4 (by decide) wf_Mo_81 rfl d_Mo_readPart_169 ?_
              refine lv_iconst (v := (-1)) hx hb d_Mo_readPart_172 (by decide) ?_
              refine x_iast E hP hD hS eB.2.2.2.2.2.1 (j := k) rfl hk9 (by decide) d_Mo_readPart_173 (fun w59 H locs hU59 hP hD hS => ?_)
              have eB : xMo g w59 q h ad (nI n) (nI N160.2.1) N160.2.2 (nI k) s4 s5 s6 f0 (upd f1 k 1) (upd f2 k N50.1) (upd f3 k N160.1) (upd f4 k (-1)) f5 f6 f7 f8 f9 f10 f11 f12 f13 f14 f15 f16 := eB.a4 hU59
              have hQ := hQ.up hU59 (by omega)
              refine lv_aload_n hx hb d_Mo_readPart_174 rfl (lv_at hl 4 rfl) ?_
              refine x_get E hP eB.1 rfl cl6_in 9 (by decide) wf_Mo_25 rfl d_Mo_readPart_175 ?_
              refine lv_iconst (v := 2) hx hb d_Mo_readPart_178 (by decide) ?_
              refine lv_aload_n hx hb d_Mo_readPart_179 rfl (lv_at hl 4 rfl) ?_
              refine x_get E hP eB.1 rfl cl6_in 4 (by decide) wf_Mo_81 rfl d_Mo_readPart_180 ?_
              refine lv_imul hx hb d_Mo_readPart_183 ?_
              refine x_top (y := nI (2 * k)) (pk_mul 2 k) ?_
              refine lv_iconst (v := (-1)) hx hb d_Mo_readPart_184 (by decide) ?_
              refine x_iast E hP hD hS eB.2.2.2.2.2.2.1 (j := 2 * k) rfl (by omega) (by decide) d_Mo_readPart_185 (fun w60 H locs hU60 hP hD hS => ?_)
              have eB : xMo g w60 q h ad (nI n) (nI N160.2.1) N160.2.2 (nI k) s4 s5 s6 f0 (upd f1 k 1) (upd f2 k N50.1) (upd f3 k N160.1) (upd f4 k (-1)) (upd f5 (2 * k) (-1)) f6 f7 f8 f9 f10 f11 f12 f13 f14 f15 f16 := eB.a5 hU60
              have hQ := hQ.up hU60 (by omega)
              refine lv_aload_n hx hb d_Mo_readPart_186 rfl (lv_at hl 4 rfl) ?_
              refine x_get E hP eB.1 rfl cl6_in 9 (by decide) wf_Mo_25 rfl d_Mo_readPart_187 ?_
              refine lv_iconst (v := 2) hx hb d_Mo_readPart_190 (by decide) ?_
              refine lv_aload_n hx hb d_Mo_readPart_191 rfl (lv_at hl 4 rfl) ?_
              refine x_get E hP eB.1 rfl cl6_in 4 (by decide) wf_Mo_81 rfl d_Mo_readPart_192 ?_
              refine lv_imul hx hb d_Mo_readPart_195 ?_
              refine x_top (y := nI (2 * k)) (pk_mul 2 k) ?_
              refine lv_iconst (v := 1) hx hb d_Mo_readPart_196 (by decide) ?_
              refine lv_iadd hx hb d_Mo_readPart_197 ?_
              refine x_top (y := nI (2 * k + 1)) (nI_1 (2 * k)) ?_
              refine lv_iconst (v := (-1)) hx hb d_Mo_readPart_198 (by decide) ?_
              refine x_iast E hP hD hS eB.2.2.2.2.2.2.1 (j := 2 * k + 1) rfl (by omega) (by decide) d_Mo_readPart_199 (fun w61 H locs hU61 hP hD hS => ?_)
              have eB : xMo g w61 q h ad (nI n) (nI N160.2.1) N160.2.2 (nI k) s4 s5 s6 f0 (upd f1 k 1) (upd f2 k N50.1) (upd f3 k N160.1) (upd f4 k (-1)) (upd (upd f5 (2 * k) (-1)) (2 * k + 1) (-1)) f6 f7 f8 f9 f10 f11 f12 f13 f14 f15 f16 := eB.a5 hU61
              have hQ := hQ.up hU61 (by omega)
              refine lv_iload_n hx hb d_Mo_readPart_200 rfl (lv_at hl 3 rfl) ?_
              refine lv_iconst (v := 1) hx hb d_Mo_readPart_201 (by decide) ?_
              refine lv_icmp_ne (tgt := 228) hx hb d_Mo_readPart_202 (by decide) (fun c202 => absurd (by decide) c202) (fun c202 => ?_)
              refine lv_aload_n hx hb d_Mo_readPart_205 rfl (lv_at hl 4 rfl) ?_
              refine lv_bipush (v := 44) hx hb d_Mo_readPart_206 (by decide) ?_
              refine x_cVv (As := [.int 44]) (rest := []) E (c_Mo_take l g b0 _ eB hn hp 44 (by decide)) wy_Mo_take wl_Mo_92 hP hD hS eB.1 rfl hl.1 ⟨by decide, by decide⟩ ⟨Nat.le_refl _, Nat.le_refl _⟩ rfl (Nat.le_of_ble_eq_true rfl) d_Mo_readPart_208 (fun w62 H locs hr208 hP hD hS => ?_)
              obtain ⟨hq, eB, hp⟩ := hr208
              have hQ := hQ.tr hq
              generalize hT208 : mo_take f0 n 44 N160.2.1 N160.2.2 = T208 at eB hp
              refine lv_aload_n hx hb d_Mo_readPart_211 rfl (lv_at hl 4 rfl) ?_
              refine x_get E hP eB.1 rfl cl6_in 8 (by decide) wf_Mo_22 rfl d_Mo_readPart_212 ?_
              refine lv_aload_n hx hb d_Mo_readPart_215 rfl (lv_at hl 4 rfl) ?_
              refine x_get E hP eB.1 rfl cl6_in 4 (by decide) wf_Mo_81 rfl d_Mo_readPart_216 ?_
              refine lv_aload_n hx hb d_Mo_readPart_219 rfl (lv_at hl 4 rfl) ?_
              refine lv_iconst (v := 1) hx hb d_Mo_readPart_220 (by decide) ?_
              refine lv_sipush (v := 9999) hx hb d_Mo_readPart_221 (by decide) ?_
              refine x_cVi (As := [.int 1, .int 9999]) (rest := [.int (nI k), .ref (ad 4)]) E (c_Mo_number l g b0 _ eB hn hp 1 9999) wy_Mo_number wl_Mo_84 hP hD hS eB.1 rfl hl.1 ⟨by decide, by decide⟩ ⟨Nat.le_refl _, Nat.le_refl _⟩ rfl (Nat.le_of_ble_eq_true rfl) d_Mo_readPart_224 (fun r224 w63 H locs hr224 hP hD hS => ?_)
              obtain ⟨rfl, hq, eB, hp⟩ := hr224
              have hQ := hQ.tr hq
              generalize hN224 : mo_num f0 n 1 9999 T208.1 T208.2 = N224 at eB hp ⊢
              refine x_iast E hP hD hS eB.2.2.2.2.2.1 (j := k) rfl hk9 (by decide) d_Mo_readPart_227 (fun w64 H locs hU64 hP hD hS => ?_)
              have eB : xMo g w64 q h ad (nI n) (nI N224.2.1) N224.2.2 (nI k) s4 s5 s6 f0 (upd f1 k 1) (upd f2 k N50.1) (upd f3 k N160.1) (upd (upd f4 k (-1)) k N224.1) (upd (upd f5 (2 * k) (-1)) (2 * k + 1) (-1)) f6 f7 f8 f9 f10 f11 f12 f13 f14 f15 f16 := eB.a4 hU64
              have hQ := hQ.up hU64 (by omega)
              refine lv_iload_n hx hb d_Mo_readPart_228 rfl (lv_at hl 3 rfl) ?_
              refine lv_iconst (v := 4) hx hb d_Mo_readPart_229 (by decide) ?_
              refine lv_icmp_ge (tgt := 244) hx hb d_Mo_readPart_230 (by decide) (fun c230 => absurd c230 (by decide)) (fun c230 => ?_)
              refine lv_aload_n hx hb d_Mo_readPart_233 rfl (lv_at hl 4 rfl) ?_
              refine lv_bipush (v := 62) hx hb d_Mo_readPart_234 (by decide) ?_
              refine x_cVv (As := [.int 62]) (rest := []) E (c_Mo_take l g b0 _ eB hn hp 62 (by decide)) wy_Mo_take wl_Mo_92 hP hD hS eB.1 rfl hl.1 ⟨by decide, by decide⟩ ⟨Nat.le_refl _, Nat.le_refl _⟩ rfl (Nat.le_of_ble_eq_true rfl) d_Mo_readPart_236 (fun w65 H locs hr236 hP hD hS => ?_)
              obtain ⟨hq, eB, hp⟩ := hr236
              have hQ := hQ.tr hq
              generalize hT236 : mo_take f0 n 62 N224.2.1 N224.2.2 = T236 at eB hp
              refine lv_aload_n hx hb d_Mo_readPart_239 rfl (lv_at hl 4 rfl) ?_
              refine lv_iconst (v := 0) hx hb d_Mo_readPart_240 (by decide) ?_
              refine x_cVv (As := [.int 0]) (rest := []) E (c_Mo_way l g b0 _ eB hn hp hk9 0 0 rfl (by decide)) wy_Mo_way wl_Mo_95 hP hD hS eB.1 rfl hl.1 ⟨by decide, by decide⟩ ⟨Nat.le_refl _, Nat.le_refl _⟩ rfl (Nat.le_of_ble_eq_true rfl) d_Mo_readPart_241 (fun w66 H locs hr241 hP hD hS => ?_)
              obtain ⟨hq, eB, hp⟩ := hr241
              have hQ := hQ.tr hq
              generalize hN241 : mo_num f0 n 0 29 T236.1 T236.2 = N241 at eB hp
              refine lv_iload_n hx hb d_Mo_readPart_244 rfl (lv_at hl 3 rfl) ?_
              refine lv_iconst (v := 3) hx hb d_Mo_readPart_245 (by decide) ?_
              refine lv_icmp_ne (tgt := 260) hx hb d_Mo_readPart_246 (by decide) (fun c246 => ?_) (fun c246 => absurd c246 (by decide))
              refine lv_aload_n hx hb d_Mo_readPart_260 rfl (lv_at hl 4 rfl) ?_
              refine lv_bipush (v := 59) hx hb d_Mo_readPart_261 (by decide) ?_
              refine x_cVv (As := [.int 59]) (rest := []) E (c_Mo_take l g b0 _ eB hn hp 59 (by decide)) wy_Mo_take wl_Mo_92 hP hD hS eB.1 rfl hl.1 ⟨by decide, by decide⟩ ⟨Nat.le_refl _, Nat.le_refl _⟩ rfl (Nat.le_of_ble_eq_true rfl) d_Mo_readPart_263 (fun w67 H locs hr263 hP hD hS => ?_)
              obtain ⟨hq, eB, hp⟩ := hr263
              have hQ := hQ.tr hq
              generalize hT263 : mo_take f0 n 59 N241.2.1 N241.2.2 = T263 at eB hp
              refine lv_aload_n hx hb d_Mo_readPart_266 rfl (lv_at hl 4 rfl) ?_
              refine lv_dup hx hb d_Mo_readPart_267 rfl ?_
              refine x_get E hP eB.1 rfl cl6_in 4 (by decide) wf_Mo_81 rfl d_Mo_readPart_268 ?_
              refine lv_iconst (v := 1) hx hb d_Mo_readPart_271 (by decide) ?_
              refine lv_iadd hx hb d_Mo_readPart_272 ?_
              refine x_top (y := nI (k + 1)) (nI_1 k) ?_
              refine x_put E hP hD hS eB.1 rfl cl6_in cl6_ty cl6_nm 4 (by decide) wf_Mo_81 rfl rfl rfl (Nat.le_of_ble_eq_true rfl) d_Mo_readPart_273 (fun w68 H locs hU68 hP hD hS => ?_)
              have eB : xMo g w68 q h ad (nI n) (nI T263.1) T263.2 (nI (k + 1)) s4 s5 s6 f0 (upd f1 k 1) (upd f2 k N50.1) (upd f3 k N160.1) (upd (upd f4 k (-1)) k N224.1) (upd (upd (upd f5 (2 * k) (-1)) (2 * k + 1) (-1)) (2 * k + 0) N241.1) f6 f7 f8 f9 f10 f11 f12 f13 f14 f15 f16 := eB.t3 hU68
              have hQ := hQ.up hU68 (by omega)
              refine x_rv E hr hS ⟨hQ, ?_⟩ hP hD d_Mo_readPart_276
              generalize hX9 : md_step f0 n (t, s2, k, f1, f2, f3, f4, f5) = Y9
              rw [md_step, if_neg (show ¬ (t, s2, k, f1, f2, f3, f4, f5).2.2.1 = 24 from hk24), if_neg (show ¬ mo_kind (mo_look f0 n (t, s2, k, f1, f2, f3, f4, f5).1) = -1 from hk1), hk0, md_q1, hN50, md_q2, ← hW9, hT99, md_q3, show md_lo 1 = 1 from rfl, show md_hi 1 = 9999 from rfl, hN160, md_q4, if_pos rfl, hT208, md_ns, hN224, md_q5, if_neg (by decide), hT236, md_nw, hN241, md_q6, if_neg (by decide), md_q7, hT263] at hX9
              subst hX9
              exact ⟨eB, hp⟩
            · rw [hk0] at hl
              refine lv_aload_n hx hb d_Mo_readPart_96 rfl (lv_at hl 4 rfl) ?_
              refine lv_bipush (v := 61) hx hb d_Mo_readPart_97 (by decide) ?_
              refine x_cVv (As := [.int 61]) (rest := []) E (c_Mo_take l g b0 _ eB hn hp 61 (by decide)) wy_Mo_take wl_Mo_92 hP hD hS eB.1 rfl hl.1 ⟨by decide, by decide⟩ ⟨Nat.le_refl _, Nat.le_refl _⟩ rfl (Nat.le_of_ble_eq_true rfl) d_Mo_readPart_99 (fun w54 H locs hr99 hP hD hS => ?_)
              obtain ⟨hq, eB, hp⟩ := hr99
              have hQ := hQ.tr hq
              generalize hT99 : mo_take f0 n 61 N50.2.1 W9 = T99 at eB hp
              refine lv_aload_n hx hb d_Mo_readPart_102 rfl (lv_at hl 4 rfl) ?_
              refine x_get E hP eB.1 rfl cl6_in 5 (by decide) wf_Mo_13 rfl d_Mo_readPart_103 ?_
              refine lv_aload_n hx hb d_Mo_readPart_106 rfl (lv_at hl 4 rfl) ?_
              refine x_get E hP eB.1 rfl cl6_in 4 (by decide) wf_Mo_81 rfl d_Mo_readPart_107 ?_
              refine lv_iload_n hx hb d_Mo_readPart_110 rfl (lv_at hl 3 rfl) ?_
              refine x_iast E hP hD hS eB.2.2.1 (j := k) rfl hk9 (by decide) d_Mo_readPart_111 (fun w55 H locs hU55 hP hD hS => ?_)
              have eB : xMo g w55 q h ad (nI n) (nI T99.1) T99.2 (nI k) s4 s5 s6 f0 (upd f1 k 2) f2 f3 f4 f5 f6 f7 f8 f9 f10 f11 f12 f13 f14 f15 f16 := eB.a1 hU55
              have hQ := hQ.up hU55 (by omega)
              refine lv_aload_n hx hb d_Mo_readPart_112 rfl (lv_at hl 4 rfl) ?_
              refine x_get E hP eB.1 rfl cl6_in 6 (by decide) wf_Mo_16 rfl d_Mo_readPart_113 ?_
              refine lv_aload_n hx hb d_Mo_readPart_116 rfl (lv_at hl 4 rfl) ?_
              refine x_get E hP eB.1 rfl cl6_in 4 (by decide) wf_Mo_81 rfl d_Mo_readPart_117 ?_
              refine lv_iload_n hx hb d_Mo_readPart_120 rfl (lv_at hl 1 rfl) ?_
              refine x_iast E hP hD hS eB.2.2.2.1 (j := k) rfl hk9 (by decide) d_Mo_readPart_121 (fun w56 H locs hU56 hP hD hS => ?_)
              have eB : xMo g w56 q h ad (nI n) (nI T99.1) T99.2 (nI k) s4 s5 s6 f0 (upd f1 k 2) (upd f2 k N50.1) f3 f4 f5 f6 f7 f8 f9 f10 f11 f12 f13 f14 f15 f16 := eB.a2 hU56
              have hQ := hQ.up hU56 (by omega)
              refine lv_aload_n hx hb d_Mo_readPart_122 rfl (lv_at hl 4 rfl) ?_
              refine x_get E hP eB.1 rfl cl6_in 7 (by decide) wf_Mo_19 rfl d_Mo_readPart_123 ?_
              refine lv_aload_n hx hb d_Mo_readPart_126 rfl (lv_at hl 4 rfl) ?_
              refine x_get E hP eB.1 rfl cl6_in 4 (by decide) wf_Mo_81 rfl d_Mo_readPart_127 ?_
              refine lv_aload_n hx hb d_Mo_readPart_130 rfl (lv_at hl 4 rfl) ?_
              refine lv_iload_n hx hb d_Mo_readPart_131 rfl (lv_at hl 3 rfl) ?_
              refine lv_iconst (v := 2) hx hb d_Mo_readPart_132 (by decide) ?_
              refine lv_icmp_eq (tgt := 141) hx hb d_Mo_readPart_133 (by decide) (fun c133 => ?_) (fun c133 => absurd (by decide) c133)
              refine lv_iconst (v := 0) hx hb d_Mo_readPart_141 (by decide) ?_
              refine lv_goto (tgt := 146) hx hb d_Mo_readPart_142 (by decide) ?_
              refine lv_iload_n hx hb d_Mo_readPart_146 rfl (lv_at hl 3 rfl) ?_
              refine lv_iconst (v := 4) hx hb d_Mo_readPart_147 (by decide) ?_
              refine lv_icmp_ne (tgt := 157) hx hb d_Mo_readPart_148 (by decide) (fun c148 => ?_) (fun c148 => absurd c148 (by decide))
              refine lv_sipush (v := 9999) hx hb d_Mo_readPart_157 (by decide) ?_
              refine x_cVi (As := [.int 0, .int 9999]) (rest := [.int (nI k), .ref (ad 3)]) E (c_Mo_number l g b0 _ eB hn hp 0 9999) wy_Mo_number wl_Mo_84 hP hD hS eB.1 rfl hl.1 ⟨by decide, by decide⟩ ⟨Nat.le_refl _, Nat.le_refl _⟩ rfl (Nat.le_of_ble_eq_true rfl) d_Mo_readPart_160 (fun r160 w57 H locs hr160 hP hD hS => ?_)
              obtain ⟨rfl, hq, eB, hp⟩ := hr160
              have hQ := hQ.tr hq
              generalize hN160 : mo_num f0 n 0 9999 T99.1 T99.2 = N160 at eB hp ⊢
              refine x_iast E hP hD hS eB.2.2.2.2.1 (j := k) rfl hk9 (by decide) d_Mo_readPart_163 (fun w58 H locs hU58 hP hD hS => ?_)
              have eB : xMo g w58 q h ad (nI n) (nI N160.2.1) N160.2.2 (nI k) s4 s5 s6 f0 (upd f1 k 2) (upd f2 k N50.1) (upd f3 k N160.1) f4 f5 f6 f7 f8 f9 f10 f11 f12 f13 f14 f15 f16 := eB.a3 hU58
              have hQ := hQ.up hU58 (by omega)
              refine lv_aload_n hx hb d_Mo_readPart_164 rfl (lv_at hl 4 rfl) ?_
              refine x_get E hP eB.1 rfl cl6_in 8 (by decide) wf_Mo_22 rfl d_Mo_readPart_165 ?_
              refine lv_aload_n hx hb d_Mo_readPart_168 rfl (lv_at hl 4 rfl) ?_
              refine x_get E hP eB.1 rfl cl6_in 4 (by decide) wf_Mo_81 rfl d_Mo_readPart_169 ?_
              refine lv_iconst (v := (-1)) hx hb d_Mo_readPart_172 (by decide) ?_
              refine x_iast E hP hD hS eB.2.2.2.2.2.1 (j := k) rfl hk9 (by decide) d_Mo_readPart_173 (fun w59 H locs hU59 hP hD hS => ?_)
              have eB : xMo g w59 q h ad (nI n) (nI N160.2.1) N160.2.2 (nI k) s4 s5 s6 f0 (upd f1 k 2) (upd f2 k N50.1) (upd f3 k N160.1) (upd f4 k (-1)) f5 f6 f7 f8 f9 f10 f11 f12 f13 f14 f15 f16 := eB.a4 hU59
              have hQ := hQ.up hU59 (by omega)
              refine lv_aload_n hx hb d_Mo_readPart_174 rfl (lv_at hl 4 rfl) ?_
              refine x_get E hP eB.1 rfl cl6_in 9 (by decide) wf_Mo_25 rfl d_Mo_readPart_175 ?_
              refine lv_iconst (v := 2) hx hb d_Mo_readPart_178 (by decide) ?_
              refine lv_aload_n hx hb d_Mo_readPart_179 rfl (lv_at hl 4 rfl) ?_
              refine x_get E hP eB.1 rfl cl6_in 4 (by decide) wf_Mo_81 rfl d_Mo_readPart_180 ?_
              refine lv_imul hx hb d_Mo_readPart_183 ?_
              refine x_top (y := nI (2 * k)) (pk_mul 2 k) ?_
              refine lv_iconst (v := (-1)) hx hb d_Mo_readPart_184 (by decide) ?_
              refine x_iast E hP hD hS eB.2.2.2.2.2.2.1 (j := 2 * k) rfl (by omega) (by decide) d_Mo_readPart_185 (fun w60 H locs hU60 hP hD hS => ?_)
              have eB : xMo g w60 q h ad (nI n) (nI N160.2.1) N160.2.2 (nI k) s4 s5 s6 f0 (upd f1 k 2) (upd f2 k N50.1) (upd f3 k N160.1) (upd f4 k (-1)) (upd f5 (2 * k) (-1)) f6 f7 f8 f9 f10 f11 f12 f13 f14 f15 f16 := eB.a5 hU60
              have hQ := hQ.up hU60 (by omega)
              refine lv_aload_n hx hb d_Mo_readPart_186 rfl (lv_at hl 4 rfl) ?_
              refine x_get E hP eB.1 rfl cl6_in 9 (by decide) wf_Mo_25 rfl d_Mo_readPart_187 ?_
              refine lv_iconst (v := 2) hx hb d_Mo_readPart_190 (by decide) ?_
              refine lv_aload_n hx hb d_Mo_readPart_191 rfl (lv_at hl 4 rfl) ?_
              refine x_get E hP eB.1 rfl cl6_in 4 (by decide) wf_Mo_81 rfl d_Mo_readPart_192 ?_
              refine lv_imul hx hb d_Mo_readPart_195 ?_
              refine x_top (y := nI (2 * k)) (pk_mul 2 k) ?_
              refine lv_iconst (v := 1) hx hb d_Mo_readPart_196 (by decide) ?_
              refine lv_iadd hx hb d_Mo_readPart_197 ?_
              refine x_top (y := nI (2 * k + 1)) (nI_1 (2 * k)) ?_
              refine lv_iconst (v := (-1)) hx hb d_Mo_readPart_198 (by decide) ?_
              refine x_iast E hP hD hS eB.2.2.2.2.2.2.1 (j := 2 * k + 1) rfl (by omega) (by decide) d_Mo_readPart_199 (fun w61 H locs hU61 hP hD hS => ?_)
              have eB : xMo g w61 q h ad (nI n) (nI N160.2.1) N160.2.2 (nI k) s4 s5 s6 f0 (upd f1 k 2) (upd f2 k N50.1) (upd f3 k N160.1) (upd f4 k (-1)) (upd (upd f5 (2 * k) (-1)) (2 * k + 1) (-1)) f6 f7 f8 f9 f10 f11 f12 f13 f14 f15 f16 := eB.a5 hU61
              have hQ := hQ.up hU61 (by omega)
              refine lv_iload_n hx hb d_Mo_readPart_200 rfl (lv_at hl 3 rfl) ?_
              refine lv_iconst (v := 1) hx hb d_Mo_readPart_201 (by decide) ?_
              refine lv_icmp_ne (tgt := 228) hx hb d_Mo_readPart_202 (by decide) (fun c202 => ?_) (fun c202 => absurd c202 (by decide))
              refine lv_iload_n hx hb d_Mo_readPart_228 rfl (lv_at hl 3 rfl) ?_
              refine lv_iconst (v := 4) hx hb d_Mo_readPart_229 (by decide) ?_
              refine lv_icmp_ge (tgt := 244) hx hb d_Mo_readPart_230 (by decide) (fun c230 => absurd c230 (by decide)) (fun c230 => ?_)
              refine lv_aload_n hx hb d_Mo_readPart_233 rfl (lv_at hl 4 rfl) ?_
              refine lv_bipush (v := 62) hx hb d_Mo_readPart_234 (by decide) ?_
              refine x_cVv (As := [.int 62]) (rest := []) E (c_Mo_take l g b0 _ eB hn hp 62 (by decide)) wy_Mo_take wl_Mo_92 hP hD hS eB.1 rfl hl.1 ⟨by decide, by decide⟩ ⟨Nat.le_refl _, Nat.le_refl _⟩ rfl (Nat.le_of_ble_eq_true rfl) d_Mo_readPart_236 (fun w62 H locs hr236 hP hD hS => ?_)
              obtain ⟨hq, eB, hp⟩ := hr236
              have hQ := hQ.tr hq
              generalize hT236 : mo_take f0 n 62 N160.2.1 N160.2.2 = T236 at eB hp
              refine lv_aload_n hx hb d_Mo_readPart_239 rfl (lv_at hl 4 rfl) ?_
              refine lv_iconst (v := 0) hx hb d_Mo_readPart_240 (by decide) ?_
              refine x_cVv (As := [.int 0]) (rest := []) E (c_Mo_way l g b0 _ eB hn hp hk9 0 0 rfl (by decide)) wy_Mo_way wl_Mo_95 hP hD hS eB.1 rfl hl.1 ⟨by decide, by decide⟩ ⟨Nat.le_refl _, Nat.le_refl _⟩ rfl (Nat.le_of_ble_eq_true rfl) d_Mo_readPart_241 (fun w63 H locs hr241 hP hD hS => ?_)
              obtain ⟨hq, eB, hp⟩ := hr241
              have hQ := hQ.tr hq
              generalize hN241 : mo_num f0 n 0 29 T236.1 T236.2 = N241 at eB hp
              refine lv_iload_n hx hb d_Mo_readPart_244 rfl (lv_at hl 3 rfl) ?_
              refine lv_iconst (v := 3) hx hb d_Mo_readPart_245 (by decide) ?_
              refine lv_icmp_ne (tgt := 260) hx hb d_Mo_readPart_246 (by decide) (fun c246 => ?_) (fun c246 => absurd c246 (by decide))
              refine lv_aload_n hx hb d_Mo_readPart_260 rfl (lv_at hl 4 rfl) ?_
              refine lv_bipush (v := 59) hx hb d_Mo_readPart_261 (by decide) ?_
              refine x_cVv (As := [.int 59]) (rest := []) E (c_Mo_take l g b0 _ eB hn hp 59 (by decide)) wy_Mo_take wl_Mo_92 hP hD hS eB.1 rfl hl.1 ⟨by decide, by decide⟩ ⟨Nat.le_refl _, Nat.le_refl _⟩ rfl (Nat.le_of_ble_eq_true rfl) d_Mo_readPart_263 (fun w64 H locs hr263 hP hD hS => ?_)
              obtain ⟨hq, eB, hp⟩ := hr263
              have hQ := hQ.tr hq
              generalize hT263 : mo_take f0 n 59 N241.2.1 N241.2.2 = T263 at eB hp
              refine lv_aload_n hx hb d_Mo_readPart_266 rfl (lv_at hl 4 rfl) ?_
              refine lv_dup hx hb d_Mo_readPart_267 rfl ?_
              refine x_get E hP eB.1 rfl cl6_in 4 (by decide) wf_Mo_81 rfl d_Mo_readPart_268 ?_
              refine lv_iconst (v := 1) hx hb d_Mo_readPart_271 (by decide) ?_
              refine lv_iadd hx hb d_Mo_readPart_272 ?_
              refine x_top (y := nI (k + 1)) (nI_1 k) ?_
              refine x_put E hP hD hS eB.1 rfl cl6_in cl6_ty cl6_nm 4 (by decide) wf_Mo_81 rfl rfl rfl (Nat.le_of_ble_eq_true rfl) d_Mo_readPart_273 (fun w65 H locs hU65 hP hD hS => ?_)
              have eB : xMo g w65 q h ad (nI n) (nI T263.1) T263.2 (nI (k + 1)) s4 s5 s6 f0 (upd f1 k 2) (upd f2 k N50.1) (upd f3 k N160.1) (upd f4 k (-1)) (upd (upd (upd f5 (2 * k) (-1)) (2 * k + 1) (-1)) (2 * k + 0) N241.1) f6 f7 f8 f9 f10 f11 f12 f13 f14 f15 f16 := eB.t3 hU65
              have hQ := hQ.up hU65 (by omega)
              refine x_rv E hr hS ⟨hQ, ?_⟩ hP hD d_Mo_readPart_276
              generalize hX9 : md_step f0 n (t, s2, k, f1, f2, f3, f4, f5) = Y9
              rw [md_step, if_neg (show ¬ (t, s2, k, f1, f2, f3, f4, f5).2.2.1 = 24 from hk24), if_neg (show ¬ mo_kind (mo_look f0 n (t, s2, k, f1, f2, f3, f4, f5).1) = -1 from hk1), hk0, md_q1, hN50, md_q2, ← hW9, hT99, md_q3, show md_lo 2 = 0 from rfl, show md_hi 2 = 9999 from rfl, hN160, md_q4, if_neg (by decide), md_q5, if_neg (by decide), hT236, md_nw, hN241, md_q6, if_neg (by decide), md_q7, hT263] at hX9
              subst hX9
              exact ⟨eB, hp⟩
            · rw [hk0] at hl
              refine lv_aload_n hx hb d_Mo_readPart_96 rfl (lv_at hl 4 rfl) ?_
              refine lv_bipush (v := 61) hx hb d_Mo_readPart_97 (by decide) ?_
              refine x_cVv (As := [.int 61]) (rest := []) E (c_Mo_take l g b0 _ eB hn hp 61 (by decide)) wy_Mo_take wl_Mo_92 hP hD hS eB.1 rfl hl.1 ⟨by decide, by decide⟩ ⟨Nat.le_refl _, Nat.le_refl _⟩ rfl (Nat.le_of_ble_eq_true rfl) d_Mo_readPart_99 (fun w54 H locs hr99 hP hD hS => ?_)
              obtain ⟨hq, eB, hp⟩ := hr99
              have hQ := hQ.tr hq
              generalize hT99 : mo_take f0 n 61 N50.2.1 W9 = T99 at eB hp
              refine lv_aload_n hx hb d_Mo_readPart_102 rfl (lv_at hl 4 rfl) ?_
              refine x_get E hP eB.1 rfl cl6_in 5 (by decide) wf_Mo_13 rfl d_Mo_readPart_103 ?_
              refine lv_aload_n hx hb d_Mo_readPart_106 rfl (lv_at hl 4 rfl) ?_
              refine x_get E hP eB.1 rfl cl6_in 4 (by decide) wf_Mo_81 rfl d_Mo_readPart_107 ?_
              refine lv_iload_n hx hb d_Mo_readPart_110 rfl (lv_at hl 3 rfl) ?_
              refine x_iast E hP hD hS eB.2.2.1 (j := k) rfl hk9 (by decide) d_Mo_readPart_111 (fun w55 H locs hU55 hP hD hS => ?_)
              have eB : xMo g w55 q h ad (nI n) (nI T99.1) T99.2 (nI k) s4 s5 s6 f0 (upd f1 k 3) f2 f3 f4 f5 f6 f7 f8 f9 f10 f11 f12 f13 f14 f15 f16 := eB.a1 hU55
              have hQ := hQ.up hU55 (by omega)
              refine lv_aload_n hx hb d_Mo_readPart_112 rfl (lv_at hl 4 rfl) ?_
              refine x_get E hP eB.1 rfl cl6_in 6 (by decide) wf_Mo_16 rfl d_Mo_readPart_113 ?_
              refine lv_aload_n hx hb d_Mo_readPart_116 rfl (lv_at hl 4 rfl) ?_
              refine x_get E hP eB.1 rfl cl6_in 4 (by decide) wf_Mo_81 rfl d_Mo_readPart_117 ?_
              refine lv_iload_n hx hb d_Mo_readPart_120 rfl (lv_at hl 1 rfl) ?_
              refine x_iast E hP hD hS eB.2.2.2.1 (j := k) rfl hk9 (by decide) d_Mo_readPart_121 (fun w56 H locs hU56 hP hD hS => ?_)
              have eB : xMo g w56 q h ad (nI n) (nI T99.1) T99.2 (nI k) s4 s5 s6 f0 (upd f1 k 3) (upd f2 k N50.1) f3 f4 f5 f6 f7 f8 f9 f10 f11 f12 f13 f14 f15 f16 := eB.a2 hU56
              have hQ := hQ.up hU56 (by omega)
              refine lv_aload_n hx hb d_Mo_readPart_122 rfl (lv_at hl 4 rfl) ?_
              refine x_get E hP eB.1 rfl cl6_in 7 (by decide) wf_Mo_19 rfl d_Mo_readPart_123 ?_
              refine lv_aload_n hx hb d_Mo_readPart_126 rfl (lv_at hl 4 rfl) ?_
              refine x_get E hP eB.1 rfl cl6_in 4 (by decide) wf_Mo_81 rfl d_Mo_readPart_127 ?_
              refine lv_aload_n hx hb d_Mo_readPart_130 rfl (lv_at hl 4 rfl) ?_
              refine lv_iload_n hx hb d_Mo_readPart_131 rfl (lv_at hl 3 rfl) ?_
              refine lv_iconst (v := 2) hx hb d_Mo_readPart_132 (by decide) ?_
              refine lv_icmp_eq (tgt := 141) hx hb d_Mo_readPart_133 (by decide) (fun c133 => absurd c133 (by decide)) (fun c133 => ?_)
              refine lv_iload_n hx hb d_Mo_readPart_136 rfl (lv_at hl 3 rfl) ?_
              refine lv_iconst (v := 3) hx hb d_Mo_readPart_137 (by decide) ?_
              refine lv_icmp_ne (tgt := 145) hx hb d_Mo_readPart_138 (by decide) (fun c138 => absurd (by decide) c138) (fun c138 => ?_)
              refine lv_iconst (v := 0) hx hb d_Mo_readPart_141 (by decide) ?_
              refine lv_goto (tgt := 146) hx hb d_Mo_readPart_142 (by decide) ?_
              refine lv_iload_n hx hb d_Mo_readPart_146 rfl (lv_at hl 3 rfl) ?_
              refine lv_iconst (v := 4) hx hb d_Mo_readPart_147 (by decide) ?_
              refine lv_icmp_ne (tgt := 157) hx hb d_Mo_readPart_148 (by decide) (fun c148 => ?_) (fun c148 => absurd c148 (by decide))
              refine lv_sipush (v := 9999) hx hb d_Mo_readPart_157 (by decide) ?_
              refine x_cVi (As := [.int 0, .int 9999]) (rest := [.int (nI k), .ref (ad 3)]) E (c_Mo_number l g b0 _ eB hn hp 0 9999) wy_Mo_number wl_Mo_84 hP hD hS eB.1 rfl hl.1 ⟨by decide, by decide⟩ ⟨Nat.le_refl _, Nat.le_refl _⟩ rfl (Nat.le_of_ble_eq_true rfl) d_Mo_readPart_160 (fun r160 w57 H locs hr160 hP hD hS => ?_)
              obtain ⟨rfl, hq, eB, hp⟩ := hr160
              have hQ := hQ.tr hq
              generalize hN160 : mo_num f0 n 0 9999 T99.1 T99.2 = N160 at eB hp ⊢
              refine x_iast E hP hD hS eB.2.2.2.2.1 (j := k) rfl hk9 (by decide) d_Mo_readPart_163 (fun w58 H locs hU58 hP hD hS => ?_)
              have eB : xMo g w58 q h ad (nI n) (nI N160.2.1) N160.2.2 (nI k) s4 s5 s6 f0 (upd f1 k 3) (upd f2 k N50.1) (upd f3 k N160.1) f4 f5 f6 f7 f8 f9 f10 f11 f12 f13 f14 f15 f16 := eB.a3 hU58
              have hQ := hQ.up hU58 (by omega)
              refine lv_aload_n hx hb d_Mo_readPart_164 rfl (lv_at hl 4 rfl) ?_
              refine x_get E hP eB.1 rfl cl6_in 8 (by decide) wf_Mo_22 rfl d_Mo_readPart_165 ?_
              refine lv_aload_n hx hb d_Mo_readPart_168 rfl (lv_at hl 4 rfl) ?_
              refine x_get E hP eB.1 rfl cl6_in 4 (by decide) wf_Mo_81 rfl d_Mo_readPart_169 ?_
              refine lv_iconst (v := (-1)) hx hb d_Mo_readPart_172 (by decide) ?_
              refine x_iast E hP hD hS eB.2.2.2.2.2.1 (j := k) rfl hk9 (by decide) d_Mo_readPart_173 (fun w59 H locs hU59 hP hD hS => ?_)
              have eB : xMo g w59 q h ad (nI n) (nI N160.2.1) N160.2.2 (nI k) s4 s5 s6 f0 (upd f1 k 3) (upd f2 k N50.1) (upd f3 k N160.1) (upd f4 k (-1)) f5 f6 f7 f8 f9 f10 f11 f12 f13 f14 f15 f16 := eB.a4 hU59
              have hQ := hQ.up hU59 (by omega)
              refine lv_aload_n hx hb d_Mo_readPart_174 rfl (lv_at hl 4 rfl) ?_
              refine x_get E hP eB.1 rfl cl6_in 9 (by decide) wf_Mo_25 rfl d_Mo_readPart_175 ?_
              refine lv_iconst (v := 2) hx hb d_Mo_readPart_178 (by decide) ?_
              refine lv_aload_n hx hb d_Mo_readPart_179 rfl (lv_at hl 4 rfl) ?_
              refine x_get E hP eB.1 rfl cl6_in 4 (by decide) wf_Mo_81 rfl d_Mo_readPart_180 ?_
              refine lv_imul hx hb d_Mo_readPart_183 ?_
              refine x_top (y := nI (2 * k)) (pk_mul 2 k) ?_
              refine lv_iconst (v := (-1)) hx hb d_Mo_readPart_184 (by decide) ?_
              refine x_iast E hP hD hS eB.2.2.2.2.2.2.1 (j := 2 * k) rfl (by omega) (by decide) d_Mo_readPart_185 (fun w60 H locs hU60 hP hD hS => ?_)
              have eB : xMo g w60 q h ad (nI n) (nI N160.2.1) N160.2.2 (nI k) s4 s5 s6 f0 (upd f1 k 3) (upd f2 k N50.1) (upd f3 k N160.1) (upd f4 k (-1)) (upd f5 (2 * k) (-1)) f6 f7 f8 f9 f10 f11 f12 f13 f14 f15 f16 := eB.a5 hU60
              have hQ := hQ.up hU60 (by omega)
              refine lv_aload_n hx hb d_Mo_readPart_186 rfl (lv_at hl 4 rfl) ?_
              refine x_get E hP eB.1 rfl cl6_in 9 (by decide) wf_Mo_25 rfl d_Mo_readPart_187 ?_
              refine lv_iconst (v := 2) hx hb d_Mo_readPart_190 (by decide) ?_
              refine lv_aload_n hx hb d_Mo_readPart_191 rfl (lv_at hl 4 rfl) ?_
              refine x_get E hP eB.1 rfl cl6_in 4 (by decide) wf_Mo_81 rfl d_Mo_readPart_192 ?_
              refine lv_imul hx hb d_Mo_readPart_195 ?_
              refine x_top (y := nI (2 * k)) (pk_mul 2 k) ?_
              refine lv_iconst (v := 1) hx hb d_Mo_readPart_196 (by decide) ?_
              refine lv_iadd hx hb d_Mo_readPart_197 ?_
              refine x_top (y := nI (2 * k + 1)) (nI_1 (2 * k)) ?_
              refine lv_iconst (v := (-1)) hx hb d_Mo_readPart_198 (by decide) ?_
              refine x_iast E hP hD hS eB.2.2.2.2.2.2.1 (j := 2 * k + 1) rfl (by omega) (by decide) d_Mo_readPart_199 (fun w61 H locs hU61 hP hD hS => ?_)
              have eB : xMo g w61 q h ad (nI n) (nI N160.2.1) N160.2.2 (nI k) s4 s5 s6 f0 (upd f1 k 3) (upd f2 k N50.1) (upd f3 k N160.1) (upd f4 k (-1)) (upd (upd f5 (2 * k) (-1)) (2 * k + 1) (-1)) f6 f7 f8 f9 f10 f11 f12 f13 f14 f15 f16 := eB.a5 hU61
              have hQ := hQ.up hU61 (by omega)
              refine lv_iload_n hx hb d_Mo_readPart_200 rfl (lv_at hl 3 rfl) ?_
              refine lv_iconst (v := 1) hx hb d_Mo_readPart_201 (by decide) ?_
              refine lv_icmp_ne (tgt := 228) hx hb d_Mo_readPart_202 (by decide) (fun c202 => ?_) (fun c202 => absurd c202 (by decide))
              refine lv_iload_n hx hb d_Mo_readPart_228 rfl (lv_at hl 3 rfl) ?_
              refine lv_iconst (v := 4) hx hb d_Mo_readPart_229 (by decide) ?_
              refine lv_icmp_ge (tgt := 244) hx hb d_Mo_readPart_230 (by decide) (fun c230 => absurd c230 (by decide)) (fun c230 => ?_)
              refine lv_aload_n hx hb d_Mo_readPart_233 rfl (lv_at hl 4 rfl) ?_
              refine lv_bipush (v := 62) hx hb d_Mo_readPart_234 (by decide) ?_
              refine x_cVv (As := [.int 62]) (rest := []) E (c_Mo_take l g b0 _ eB hn hp 62 (by decide)) wy_Mo_take wl_Mo_92 hP hD hS eB.1 rfl hl.1 ⟨by decide, by decide⟩ ⟨Nat.le_refl _, Nat.le_refl _⟩ rfl (Nat.le_of_ble_eq_true rfl) d_Mo_readPart_236 (fun w62 H locs hr236 hP hD hS => ?_)
              obtain ⟨hq, eB, hp⟩ := hr236
              have hQ := hQ.tr hq
              generalize hT236 : mo_take f0 n 62 N160.2.1 N160.2.2 = T236 at eB hp
              refine lv_aload_n hx hb d_Mo_readPart_239 rfl (lv_at hl 4 rfl) ?_
              refine lv_iconst (v := 0) hx hb d_Mo_readPart_240 (by decide) ?_
              refine x_cVv (As := [.int 0]) (rest := []) E (c_Mo_way l g b0 _ eB hn hp hk9 0 0 rfl (by decide)) wy_Mo_way wl_Mo_95 hP hD hS eB.1 rfl hl.1 ⟨by decide, by decide⟩ ⟨Nat.le_refl _, Nat.le_refl _⟩ rfl (Nat.le_of_ble_eq_true rfl) d_Mo_readPart_241 (fun w63 H locs hr241 hP hD hS => ?_)
              obtain ⟨hq, eB, hp⟩ := hr241
              have hQ := hQ.tr hq
              generalize hN241 : mo_num f0 n 0 29 T236.1 T236.2 = N241 at eB hp
              refine lv_iload_n hx hb d_Mo_readPart_244 rfl (lv_at hl 3 rfl) ?_
              refine lv_iconst (v := 3) hx hb d_Mo_readPart_245 (by decide) ?_
              refine lv_icmp_ne (tgt := 260) hx hb d_Mo_readPart_246 (by decide) (fun c246 => absurd (by decide) c246) (fun c246 => ?_)
              refine lv_aload_n hx hb d_Mo_readPart_249 rfl (lv_at hl 4 rfl) ?_
              refine lv_bipush (v := 44) hx hb d_Mo_readPart_250 (by decide) ?_
              refine x_cVv (As := [.int 44]) (rest := []) E (c_Mo_take l g b0 _ eB hn hp 44 (by decide)) wy_Mo_take wl_Mo_92 hP hD hS eB.1 rfl hl.1 ⟨by decide, by decide⟩ ⟨Nat.le_refl _, Nat.le_refl _⟩ rfl (Nat.le_of_ble_eq_true rfl) d_Mo_readPart_252 (fun w64 H locs hr252 hP hD hS => ?_)
              obtain ⟨hq, eB, hp⟩ := hr252
              have hQ := hQ.tr hq
              generalize hT252 : mo_take f0 n 44 N241.2.1 N241.2.2 = T252 at eB hp
              refine lv_aload_n hx hb d_Mo_readPart_255 rfl (lv_at hl 4 rfl) ?_
              refine lv_iconst (v := 1) hx hb d_Mo_readPart_256 (by decide) ?_
              refine x_cVv (As := [.int 1]) (rest := []) E (c_Mo_way l g b0 _ eB hn hp hk9 1 1 rfl (by decide)) wy_Mo_way wl_Mo_95 hP hD hS eB.1 rfl hl.1 ⟨by decide, by decide⟩ ⟨Nat.le_refl _, Nat.le_refl _⟩ rfl (Nat.le_of_ble_eq_true rfl) d_Mo_readPart_257 (fun w65 H locs hr257 hP hD hS => ?_)
              obtain ⟨hq, eB, hp⟩ := hr257
              have hQ := hQ.tr hq
              generalize hN257 : mo_num f0 n 0 29 T252.1 T252.2 = N257 at eB hp
              refine lv_aload_n hx hb d_Mo_readPart_260 rfl (lv_at hl 4 rfl) ?_
              refine lv_bipush (v := 59) hx hb d_Mo_readPart_261 (by decide) ?_
              refine x_cVv (As := [.int 59]) (rest := []) E (c_Mo_take l g b0 _ eB hn hp 59 (by decide)) wy_Mo_take wl_Mo_92 hP hD hS eB.1 rfl hl.1 ⟨by decide, by decide⟩ ⟨Nat.le_refl _, Nat.le_refl _⟩ rfl (Nat.le_of_ble_eq_true rfl) d_Mo_readPart_263 (fun w66 H locs hr263 hP hD hS => ?_)
              obtain ⟨hq, eB, hp⟩ := hr263
              have hQ := hQ.tr hq
              generalize hT263 : mo_take f0 n 59 N257.2.1 N257.2.2 = T263 at eB hp
              refine lv_aload_n hx hb d_Mo_readPart_266 rfl (lv_at hl 4 rfl) ?_
              refine lv_dup hx hb d_Mo_readPart_267 rfl ?_
              refine x_get E hP eB.1 rfl cl6_in 4 (by decide) wf_Mo_81 rfl d_Mo_readPart_268 ?_
              refine lv_iconst (v := 1) hx hb d_Mo_readPart_271 (by decide) ?_
              refine lv_iadd hx hb d_Mo_readPart_272 ?_
              refine x_top (y := nI (k + 1)) (nI_1 k) ?_
              refine x_put E hP hD hS eB.1 rfl cl6_in cl6_ty cl6_nm 4 (by decide) wf_Mo_81 rfl rfl rfl (Nat.le_of_ble_eq_true rfl) d_Mo_readPart_273 (fun w67 H locs hU67 hP hD hS => ?_)
              have eB : xMo g w67 q h ad (nI n) (nI T263.1) T263.2 (nI (k + 1)) s4 s5 s6 f0 (upd f1 k 3) (upd f2 k N50.1) (upd f3 k N160.1) (upd f4 k (-1)) (upd (upd (upd (upd f5 (2 * k) (-1)) (2 * k + 1) (-1)) (2 * k + 0) N241.1) (2 * k + 1) N257.1) f6 f7 f8 f9 f10 f11 f12 f13 f14 f15 f16 := eB.t3 hU67
              have hQ := hQ.up hU67 (by omega)
              refine x_rv E hr hS ⟨hQ, ?_⟩ hP hD d_Mo_readPart_276
              generalize hX9 : md_step f0 n (t, s2, k, f1, f2, f3, f4, f5) = Y9
              rw [md_step, if_neg (show ¬ (t, s2, k, f1, f2, f3, f4, f5).2.2.1 = 24 from hk24), if_neg (show ¬ mo_kind (mo_look f0 n (t, s2, k, f1, f2, f3, f4, f5).1) = -1 from hk1), hk0, md_q1, hN50, md_q2, ← hW9, hT99, md_q3, show md_lo 3 = 0 from rfl, show md_hi 3 = 9999 from rfl, hN160, md_q4, if_neg (by decide), md_q5, if_neg (by decide), hT236, md_nw, hN241, md_q6, if_pos rfl, hT252, md_nw, hN257, md_q7, hT263] at hX9
              subst hX9
              exact ⟨eB, hp⟩
            · rw [hk0] at hl
              refine lv_aload_n hx hb d_Mo_readPart_96 rfl (lv_at hl 4 rfl) ?_
              refine lv_bipush (v := 61) hx hb d_Mo_readPart_97 (by decide) ?_
              refine x_cVv (As := [.int 61]) (rest := []) E (c_Mo_take l g b0 _ eB hn hp 61 (by decide)) wy_Mo_take wl_Mo_92 hP hD hS eB.1 rfl hl.1 ⟨by decide, by decide⟩ ⟨Nat.le_refl _, Nat.le_refl _⟩ rfl (Nat.le_of_ble_eq_true rfl) d_Mo_readPart_99 (fun w54 H locs hr99 hP hD hS => ?_)
              obtain ⟨hq, eB, hp⟩ := hr99
              have hQ := hQ.tr hq
              generalize hT99 : mo_take f0 n 61 N50.2.1 W9 = T99 at eB hp
              refine lv_aload_n hx hb d_Mo_readPart_102 rfl (lv_at hl 4 rfl) ?_
              refine x_get E hP eB.1 rfl cl6_in 5 (by decide) wf_Mo_13 rfl d_Mo_readPart_103 ?_
              refine lv_aload_n hx hb d_Mo_readPart_106 rfl (lv_at hl 4 rfl) ?_
              refine x_get E hP eB.1 rfl cl6_in 4 (by decide) wf_Mo_81 rfl d_Mo_readPart_107 ?_
              refine lv_iload_n hx hb d_Mo_readPart_110 rfl (lv_at hl 3 rfl) ?_
              refine x_iast E hP hD hS eB.2.2.1 (j := k) rfl hk9 (by decide) d_Mo_readPart_111 (fun w55 H locs hU55 hP hD hS => ?_)
              have eB : xMo g w55 q h ad (nI n) (nI T99.1) T99.2 (nI k) s4 s5 s6 f0 (upd f1 k 4) f2 f3 f4 f5 f6 f7 f8 f9 f10 f11 f12 f13 f14 f15 f16 := eB.a1 hU55
              have hQ := hQ.up hU55 (by omega)
              refine lv_aload_n hx hb d_Mo_readPart_112 rfl (lv_at hl 4 rfl) ?_
              refine x_get E hP eB.1 rfl cl6_in 6 (by decide) wf_Mo_16 rfl d_Mo_readPart_113 ?_
              refine lv_aload_n hx hb d_Mo_readPart_116 rfl (lv_at hl 4 rfl) ?_
              refine x_get E hP eB.1 rfl cl6_in 4 (by decide) wf_Mo_81 rfl d_Mo_readPart_117 ?_
              refine lv_iload_n hx hb d_Mo_readPart_120 rfl (lv_at hl 1 rfl) ?_
              refine x_iast E hP hD hS eB.2.2.2.1 (j := k) rfl hk9 (by decide) d_Mo_readPart_121 (fun w56 H locs hU56 hP hD hS => ?_)
              have eB : xMo g w56 q h ad (nI n) (nI T99.1) T99.2 (nI k) s4 s5 s6 f0 (upd f1 k 4) (upd f2 k N50.1) f3 f4 f5 f6 f7 f8 f9 f10 f11 f12 f13 f14 f15 f16 := eB.a2 hU56
              have hQ := hQ.up hU56 (by omega)
              refine lv_aload_n hx hb d_Mo_readPart_122 rfl (lv_at hl 4 rfl) ?_
              refine x_get E hP eB.1 rfl cl6_in 7 (by decide) wf_Mo_19 rfl d_Mo_readPart_123 ?_
              refine lv_aload_n hx hb d_Mo_readPart_126 rfl (lv_at hl 4 rfl) ?_
              refine x_get E hP eB.1 rfl cl6_in 4 (by decide) wf_Mo_81 rfl d_Mo_readPart_127 ?_
              refine lv_aload_n hx hb d_Mo_readPart_130 rfl (lv_at hl 4 rfl) ?_
              refine lv_iload_n hx hb d_Mo_readPart_131 rfl (lv_at hl 3 rfl) ?_
              refine lv_iconst (v := 2) hx hb d_Mo_readPart_132 (by decide) ?_
              refine lv_icmp_eq (tgt := 141) hx hb d_Mo_readPart_133 (by decide) (fun c133 => absurd c133 (by decide)) (fun c133 => ?_)
              refine lv_iload_n hx hb d_Mo_readPart_136 rfl (lv_at hl 3 rfl) ?_
              refine lv_iconst (v := 3) hx hb d_Mo_readPart_137 (by decide) ?_
              refine lv_icmp_ne (tgt := 145) hx hb d_Mo_readPart_138 (by decide) (fun c138 => ?_) (fun c138 => absurd c138 (by decide))
              refine lv_iconst (v := 1) hx hb d_Mo_readPart_145 (by decide) ?_
              refine lv_iload_n hx hb d_Mo_readPart_146 rfl (lv_at hl 3 rfl) ?_
              refine lv_iconst (v := 4) hx hb d_Mo_readPart_147 (by decide) ?_
              refine lv_icmp_ne (tgt := 157) hx hb d_Mo_readPart_148 (by decide) (fun c148 => absurd (by decide) c148) (fun c148 => ?_)
              refine lv_sipush (v := 999) hx hb d_Mo_readPart_151 (by decide) ?_
              refine lv_goto (tgt := 160) hx hb d_Mo_readPart_154 (by decide) ?_
              refine x_cVi (As := [.int 1, .int 999]) (rest := [.int (nI k), .ref (ad 3)]) E (c_Mo_number l g b0 _ eB hn hp 1 999) wy_Mo_number wl_Mo_84 hP hD hS eB.1 rfl hl.1 ⟨by decide, by decide⟩ ⟨Nat.le_refl _, Nat.le_refl _⟩ rfl (Nat.le_of_ble_eq_true rfl) d_Mo_readPart_160 (fun r160 w57 H locs hr160 hP hD hS => ?_)
              obtain ⟨rfl, hq, eB, hp⟩ := hr160
              have hQ := hQ.tr hq
              generalize hN160 : mo_num f0 n 1 999 T99.1 T99.2 = N160 at eB hp ⊢
              refine x_iast E hP hD hS eB.2.2.2.2.1 (j := k) rfl hk9 (by decide) d_Mo_readPart_163 (fun w58 H locs hU58 hP hD hS => ?_)
              have eB : xMo g w58 q h ad (nI n) (nI N160.2.1) N160.2.2 (nI k) s4 s5 s6 f0 (upd f1 k 4) (upd f2 k N50.1) (upd f3 k N160.1) f4 f5 f6 f7 f8 f9 f10 f11 f12 f13 f14 f15 f16 := eB.a3 hU58
              have hQ := hQ.up hU58 (by omega)
              refine lv_aload_n hx hb d_Mo_readPart_164 rfl (lv_at hl 4 rfl) ?_
              refine x_get E hP eB.1 rfl cl6_in 8 (by decide) wf_Mo_22 rfl d_Mo_readPart_165 ?_
              refine lv_aload_n hx hb d_Mo_readPart_168 rfl (lv_at hl 4 rfl) ?_
              refine x_get E hP eB.1 rfl cl6_in 4 (by decide) wf_Mo_81 rfl d_Mo_readPart_169 ?_
              refine lv_iconst (v := (-1)) hx hb d_Mo_readPart_172 (by decide) ?_
              refine x_iast E hP hD hS eB.2.2.2.2.2.1 (j := k) rfl hk9 (by decide) d_Mo_readPart_173 (fun w59 H locs hU59 hP hD hS => ?_)
              have eB : xMo g w59 q h ad (nI n) (nI N160.2.1) N160.2.2 (nI k) s4 s5 s6 f0 (upd f1 k 4) (upd f2 k N50.1) (upd f3 k N160.1) (upd f4 k (-1)) f5 f6 f7 f8 f9 f10 f11 f12 f13 f14 f15 f16 := eB.a4 hU59
              have hQ := hQ.up hU59 (by omega)
              refine lv_aload_n hx hb d_Mo_readPart_174 rfl (lv_at hl 4 rfl) ?_
              refine x_get E hP eB.1 rfl cl6_in 9 (by decide) wf_Mo_25 rfl d_Mo_readPart_175 ?_
              refine lv_iconst (v := 2) hx hb d_Mo_readPart_178 (by decide) ?_
              refine lv_aload_n hx hb d_Mo_readPart_179 rfl (lv_at hl 4 rfl) ?_
              refine x_get E hP eB.1 rfl cl6_in 4 (by decide) wf_Mo_81 rfl d_Mo_readPart_180 ?_
              refine lv_imul hx hb d_Mo_readPart_183 ?_
              refine x_top (y := nI (2 * k)) (pk_mul 2 k) ?_
              refine lv_iconst (v := (-1)) hx hb d_Mo_readPart_184 (by decide) ?_
              refine x_iast E hP hD hS eB.2.2.2.2.2.2.1 (j := 2 * k) rfl (by omega) (by decide) d_Mo_readPart_185 (fun w60 H locs hU60 hP hD hS => ?_)
              have eB : xMo g w60 q h ad (nI n) (nI N160.2.1) N160.2.2 (nI k) s4 s5 s6 f0 (upd f1 k 4) (upd f2 k N50.1) (upd f3 k N160.1) (upd f4 k (-1)) (upd f5 (2 * k) (-1)) f6 f7 f8 f9 f10 f11 f12 f13 f14 f15 f16 := eB.a5 hU60
              have hQ := hQ.up hU60 (by omega)
              refine lv_aload_n hx hb d_Mo_readPart_186 rfl (lv_at hl 4 rfl) ?_
              refine x_get E hP eB.1 rfl cl6_in 9 (by decide) wf_Mo_25 rfl d_Mo_readPart_187 ?_
              refine lv_iconst (v := 2) hx hb d_Mo_readPart_190 (by decide) ?_
              refine lv_aload_n hx hb d_Mo_readPart_191 rfl (lv_at hl 4 rfl) ?_
              refine x_get E hP eB.1 rfl cl6_in 4 (by decide) wf_Mo_81 rfl d_Mo_readPart_192 ?_
              refine lv_imul hx hb d_Mo_readPart_195 ?_
              refine x_top (y := nI (2 * k)) (pk_mul 2 k) ?_
              refine lv_iconst (v := 1) hx hb d_Mo_readPart_196 (by decide) ?_
              refine lv_iadd hx hb d_Mo_readPart_197 ?_
              refine x_top (y := nI (2 * k + 1)) (nI_1 (2 * k)) ?_
              refine lv_iconst (v := (-1)) hx hb d_Mo_readPart_198 (by decide) ?_
              refine x_iast E hP hD hS eB.2.2.2.2.2.2.1 (j := 2 * k + 1) rfl (by omega) (by decide) d_Mo_readPart_199 (fun w61 H locs hU61 hP hD hS => ?_)
              have eB : xMo g w61 q h ad (nI n) (nI N160.2.1) N160.2.2 (nI k) s4 s5 s6 f0 (upd f1 k 4) (upd f2 k N50.1) (upd f3 k N160.1) (upd f4 k (-1)) (upd (upd f5 (2 * k) (-1)) (2 * k + 1) (-1)) f6 f7 f8 f9 f10 f11 f12 f13 f14 f15 f16 := eB.a5 hU61
              have hQ := hQ.up hU61 (by omega)
              refine lv_iload_n hx hb d_Mo_readPart_200 rfl (lv_at hl 3 rfl) ?_
              refine lv_iconst (v := 1) hx hb d_Mo_readPart_201 (by decide) ?_
              refine lv_icmp_ne (tgt := 228) hx hb d_Mo_readPart_202 (by decide) (fun c202 => ?_) (fun c202 => absurd c202 (by decide))
              refine lv_iload_n hx hb d_Mo_readPart_228 rfl (lv_at hl 3 rfl) ?_
              refine lv_iconst (v := 4) hx hb d_Mo_readPart_229 (by decide) ?_
              refine lv_icmp_ge (tgt := 244) hx hb d_Mo_readPart_230 (by decide) (fun c230 => ?_) (fun c230 => absurd (by decide) c230)
              refine lv_iload_n hx hb d_Mo_readPart_244 rfl (lv_at hl 3 rfl) ?_
              refine lv_iconst (v := 3) hx hb d_Mo_readPart_245 (by decide) ?_
              refine lv_icmp_ne (tgt := 260) hx hb d_Mo_readPart_246 (by decide) (fun c246 => ?_) (fun c246 => absurd c246 (by decide))
              refine lv_aload_n hx hb d_Mo_readPart_260 rfl (lv_at hl 4 rfl) ?_
              refine lv_bipush (v := 59) hx hb d_Mo_readPart_261 (by decide) ?_
              refine x_cVv (As := [.int 59]) (rest := []) E (c_Mo_take l g b0 _ eB hn hp 59 (by decide)) wy_Mo_take wl_Mo_92 hP hD hS eB.1 rfl hl.1 ⟨by decide, by decide⟩ ⟨Nat.le_refl _, Nat.le_refl _⟩ rfl (Nat.le_of_ble_eq_true rfl) d_Mo_readPart_263 (fun w62 H locs hr263 hP hD hS => ?_)
              obtain ⟨hq, eB, hp⟩ := hr263
              have hQ := hQ.tr hq
              generalize hT263 : mo_take f0 n 59 N160.2.1 N160.2.2 = T263 at eB hp
              refine lv_aload_n hx hb d_Mo_readPart_266 rfl (lv_at hl 4 rfl) ?_
              refine lv_dup hx hb d_Mo_readPart_267 rfl ?_
              refine x_get E hP eB.1 rfl cl6_in 4 (by decide) wf_Mo_81 rfl d_Mo_readPart_268 ?_
              refine lv_iconst (v := 1) hx hb d_Mo_readPart_271 (by decide) ?_
              refine lv_iadd hx hb d_Mo_readPart_272 ?_
              refine x_top (y := nI (k + 1)) (nI_1 k) ?_
              refine x_put E hP hD hS eB.1 rfl cl6_in cl6_ty cl6_nm 4 (by decide) wf_Mo_81 rfl rfl rfl (Nat.le_of_ble_eq_true rfl) d_Mo_readPart_273 (fun w63 H locs hU63 hP hD hS => ?_)
              have eB : xMo g w63 q h ad (nI n) (nI T263.1) T263.2 (nI (k + 1)) s4 s5 s6 f0 (upd f1 k 4) (upd f2 k N50.1) (upd f3 k N160.1) (upd f4 k (-1)) (upd (upd f5 (2 * k) (-1)) (2 * k + 1) (-1)) f6 f7 f8 f9 f10 f11 f12 f13 f14 f15 f16 := eB.t3 hU63
              have hQ := hQ.up hU63 (by omega)
              refine x_rv E hr hS ⟨hQ, ?_⟩ hP hD d_Mo_readPart_276
              generalize hX9 : md_step f0 n (t, s2, k, f1, f2, f3, f4, f5) = Y9
              rw [md_step, if_neg (show ¬ (t, s2, k, f1, f2, f3, f4, f5).2.2.1 = 24 from hk24), if_neg (show ¬ mo_kind (mo_look f0 n (t, s2, k, f1, f2, f3, f4, f5).1) = -1 from hk1), hk0, md_q1, hN50, md_q2, ← hW9, hT99, md_q3, show md_lo 4 = 1 from rfl, show md_hi 4 = 999 from rfl, hN160, md_q4, if_neg (by decide), md_q5, if_pos (by decide), md_q6, if_neg (by decide), md_q7, hT263] at hX9
              subst hX9
              exact ⟨eB, hp⟩
          · have hi9 : i < k := Nat.not_le.mp fun h => c63 (nI_le h (by omega))
            refine lv_aload_n hx hb d_Mo_readPart_66 rfl (lv_at hl 4 rfl) ?_
            refine x_get E hP eB.1 rfl cl6_in 3 (by decide) wf_Mo_70 rfl d_Mo_readPart_67 ?_
            refine lv_iconst (v := (-1)) hx hb d_Mo_readPart_70 (by decide) ?_
            refine lv_icmp_ne (tgt := 90) hx hb d_Mo_readPart_71 (by decide) (fun c71 => ?_) (fun c71 => ?_)
            · refine lv_iinc (v := nI (i + 1)) (lv' := [(4, .int (nI (i + 1))), (3, .int N50.1), (2, .int (nI (t + 1))), (1, .int (mo_kind (mo_look f0 n t))), (0, .ref h)]) hx hb d_Mo_readPart_90 hl (k := 0) rfl (nI_1 i) (by decide) rfl (fun ls hl => ?_)
              refine lv_goto (tgt := 57) hx hb d_Mo_readPart_93 (by decide) ?_
              exact ih (i + 1) W9 _ _ _ _ (by omega) (by omega) (by show _ = md_dup f2 N50.1 (t + 1) i (it (md_dup f2 N50.1 (t + 1)) i N50.2.2); rw [← hW, md_dup, if_neg c71]) hl hP hD hS hQ eB
            · refine lv_aload_n hx hb d_Mo_readPart_74 rfl (lv_at hl 4 rfl) ?_
              refine x_get E hP eB.1 rfl cl6_in 6 (by decide) wf_Mo_16 rfl d_Mo_readPart_75 ?_
              refine lv_iload hx hb d_Mo_readPart_78 (lv_at hl 0 rfl) ?_
              refine x_iald E hP eB.2.2.2.1 (j := i) rfl (by omega) (by decide) d_Mo_readPart_80 ?_
              refine lv_iload_n hx hb d_Mo_readPart_81 rfl (lv_at hl 1 rfl) ?_
              refine lv_icmp_ne (tgt := 90) hx hb d_Mo_readPart_82 (by decide) (fun c82 => ?_) (fun c82 => ?_)
              · refine lv_iinc (v := nI (i + 1)) (lv' := [(4, .int (nI (i + 1))), (3, .int N50.1), (2, .int (nI (t + 1))), (1, .int (mo_kind (mo_look f0 n t))), (0, .ref h)]) hx hb d_Mo_readPart_90 hl (k := 0) rfl (nI_1 i) (by decide) rfl (fun ls hl => ?_)
                refine lv_goto (tgt := 57) hx hb d_Mo_readPart_93 (by decide) ?_
                exact ih (i + 1) W9 _ _ _ _ (by omega) (by omega) (by show _ = md_dup f2 N50.1 (t + 1) i (it (md_dup f2 N50.1 (t + 1)) i N50.2.2); rw [← hW, md_dup, if_pos c71, if_neg c82]) hl hP hD hS hQ eB
              · refine lv_aload_n hx hb d_Mo_readPart_85 rfl (lv_at hl 4 rfl) ?_
                refine lv_iload_n hx hb d_Mo_readPart_86 rfl (lv_at hl 2 rfl) ?_
                refine x_cVv (As := [.int (nI (t + 1))]) (rest := []) E (c_Mo_mark l g b0 _ eB (nI (t + 1))) wy_Mo_mark wl_Mo_77 hP hD hS eB.1 rfl hl.1 ⟨by decide, by decide⟩ ⟨Nat.le_refl _, Nat.le_refl _⟩ rfl (Nat.le_of_ble_eq_true rfl) d_Mo_readPart_87 (fun w54 H locs hr87 hP hD hS => ?_)
                obtain ⟨hq, eB⟩ := hr87
                have hQ := hQ.tr hq
                refine lv_iinc (v := nI (i + 1)) (lv' := [(4, .int (nI (i + 1))), (3, .int N50.1), (2, .int (nI (t + 1))), (1, .int (mo_kind (mo_look f0 n t))), (0, .ref h)]) hx hb d_Mo_readPart_90 hl (k := 0) rfl (nI_1 i) (by decide) rfl (fun ls hl => ?_)
                refine lv_goto (tgt := 57) hx hb d_Mo_readPart_93 (by decide) ?_
                exact ih (i + 1) (mo_mark W9 (nI (t + 1))) _ _ _ _ (by omega) (by omega) (by show _ = md_dup f2 N50.1 (t + 1) i (it (md_dup f2 N50.1 (t + 1)) i N50.2.2); rw [← hW, md_dup, if_pos c71, if_pos c82]) hl hP hD hS hQ eB
      exact loop (k + 1) 0 N50.2.2 _ _ _ _ (by omega) (by omega) rfl hl hP hD hS hQ eB
    · refine lv_aload_n hx hb d_Mo_readPart_22 rfl (lv_at hl 1 rfl) ?_
      refine lv_aload_n hx hb d_Mo_readPart_23 rfl (lv_at hl 1 rfl) ?_
      refine x_get E hP eB.1 rfl cl6_in 2 (by decide) wf_Mo_67 rfl d_Mo_readPart_24 ?_
      refine x_cVv (As := [.int (nI t)]) (rest := []) E (c_Mo_mark l g b0 _ eB (nI t)) wy_Mo_mark wl_Mo_77 hP hD hS eB.1 rfl hl.1 ⟨by decide, by decide⟩ ⟨Nat.le_refl _, Nat.le_refl _⟩ rfl (Nat.le_of_ble_eq_true rfl) d_Mo_readPart_27 (fun w2 H locs hr27 hP hD hS => ?_)
      obtain ⟨hq, eB⟩ := hr27
      have hQ := hQ.tr hq
      refine x_rv E hr hS ⟨hQ, ?_⟩ hP hD d_Mo_readPart_30
      generalize hX9 : md_step f0 n (t, s2, k, f1, f2, f3, f4, f5) = Y9
      rw [md_step, if_neg (show ¬ (t, s2, k, f1, f2, f3, f4, f5).2.2.1 = 24 from h14), if_pos (show mo_kind (mo_look f0 n (t, s2, k, f1, f2, f3, f4, f5).1) = -1 from c19)] at hX9
      subst hX9
      exact ⟨eB, hp⟩
