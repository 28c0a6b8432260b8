/-- a contract that changes the world and answers a long -/
def xMl (l : Launch) (g : xG) (b0 : Nat) (y : MethodName) (cc : ByteArray) (nL : Nat) (lev : Nat) (av : List Value) (ws : va_W) (post : Int64 → va_W → Prop) : Prop :=
  Met l y (Cond.code y cc nL (some .long) :: TB) (rmL lev) (va_Pc av (xS g b0 ws)) (va_Ql post (fun u t => va_P (xD g) vwCl u t.heap ∧ va_D (xA b0) u) (xA b0)) 0 0 (xA b0)
section XML
variable {p : Program} {l : Launch} {e : Env} {R : Room} {s : State} {m : MethodId} {args : Array Value} {below : List Frame} {meth : Method} {c : Code} {H : Heap} {locs : List Loc} {cells slots : Nat} {Q : State → Prop}
variable {cc : ByteArray} {pc nL : Nat} {ls : Array Slot} {rest : List Value} {g : xG} {b0 : Nat} {ws : va_W} {own : String}
variable {y : MethodName} {bytes : ByteArray} {maxL lev index b : Nat} {As st0 : List Value}
theorem x_rl (E : xE g b0 cc nL own p s m args meth c) (hr : meth.sig.returnType = some .long) (hS : va_S (xA b0) s.heap H locs) {post : Int64 → va_W → Prop} {v : Int64} (hp : post v ws) (hP : va_P (xD g) vwCl ws H) (hD : va_D (xA b0) ws) (hdg : decode cc pc = .ok (.lreturn, 1)) :
    W p l e R s m args below meth c H locs cells slots (MQ below (va_Ql post (fun u t => va_P (xD g) vwCl u t.heap ∧ va_D (xA b0) u) (xA b0)) args s cells slots (xA b0)) (F0 m pc ls [.long v]) :=
  W.lret E.1 E.2.1 hr (fun t ht hW => ⟨⟨v, ws, rfl, hp, by rw [ht]; exact hP, hD⟩, hS.F ht⟩) hS.2.2 hdg E.2.2.2.2.2.2.2.2
theorem x_cVl (E : xE g b0 cc nL own p s m args meth c) {post : Int64 → va_W → Prop} (hM : xMl l g b0 y bytes maxL lev (.ref b :: As) ws post) (Y : xY y bytes maxL (some .long) As.length) (hw : Cond.methodLink own index y ∈ TB ∧ Cond.instanceMethod y ∈ TB ∧ Cond.selects y.cls y y ∈ TB) (hP : va_P (xD g) vwCl ws H) (hD : va_D (xA b0) ws) (hS : va_S (xA b0) s.heap H locs) {q0 ci : Nat} {fs : List Value} {T : u_T} {N : Nat} (he : ws[q0]? = some (b, .inr (ci, fs))) (hc : vwCl[ci]? = some (y.cls, T, N)) (hl : ls.size = nL) (hR : lev + 1 ≤ R.frames ∧ 40 * lev + 40 ≤ R.locals) (hcs : cells ≤ R.cells ∧ slots ≤ R.slots) (hst : st0 = As.reverse ++ .ref b :: rest) (hcat : (rest.map fun v => v.category).sum ≤ 8) (hdg : decode cc pc = .ok (.invokevirtual index, 3))
    (kk : ∀ (r : Int64) (u : va_W) (H1 : Heap) (locs1 : List Loc), post r u → va_P (xD g) vwCl u H1 → va_D (xA b0) u → va_S (xA b0) s.heap H1 locs1 → W p l e R s m args below meth c H1 locs1 cells slots Q (F0 m (pc + 3) ls (.long r :: rest))) : W p l e R s m args below meth c H locs cells slots Q (F0 m pc ls st0) := by
  have hts := E.2.2.2.2.1
  refine va_calll (va_runV (As := As) (rest := rest) ⟨E.1, E.2.1, E.2.2.1, E.2.2.2.1, hts⟩ hM ⟨x_cb E Y hw.1 hR rfl, hts _ hw.2.1, hts _ hw.2.2⟩ (x_preV E hP hD hS he hc) rfl rfl hl hst (lv_room hcat) hdg hcs) hS (fun q _ h => h) (fun q h => h) (fun r u t H1 locs1 ht hvm hp hB hz hk hS1 => ?_)
  subst ht
  exact kk r u _ locs1 hp hB.1 hB.2 hS1
end XML
def mo_thr (f6 f8 f9 : Nat → Int32) (k : Nat) : Int64 := if f6 k = 2 then (f8 k).toInt64 else if f6 k = 1 then (1000 * (f8 k).toInt64 + (f9 k).toInt64 - 1) / (f9 k).toInt64 else 0
def mo_sok (f6 f9 : Nat → Int32) (m : Nat) : Prop := ∀ i, i < m → f6 i = 1 → ∃ x : Nat, 1 ≤ x ∧ x ≤ 9999 ∧ f9 i = nI x
def mo_b1 (a : Int32) (k : Nat) (B : Nat → Int64) : Nat → Int64 := vp_updL B k (if nI k = a then 0 else 9000000000000)
def mo_b4 (f6 f7 f8 f9 f10 : Nat → Int32) (m k : Nat) (j : Nat) (B : Nat → Int64) : Nat → Int64 :=
  if mo_tg f7 f10 m k j = -1 then B else if 0 ≤ lg_cmp (B k) 9000000000000 then B else if 0 ≤ lg_cmp (B k + mo_thr f6 f8 f9 k) (B (mo_tg f7 f10 m k j).toNatClampNeg) then B else vp_updL B (mo_tg f7 f10 m k j).toNatClampNeg (B k + mo_thr f6 f8 f9 k)
def mo_b3 (f6 f7 f8 f9 f10 : Nat → Int32) (m : Nat) (k : Nat) (B : Nat → Int64) : Nat → Int64 := it (mo_b4 f6 f7 f8 f9 f10 m k) 2 B
def mo_b2 (f6 f7 f8 f9 f10 : Nat → Int32) (m : Nat) (_ : Nat) (B : Nat → Int64) : Nat → Int64 := it (mo_b3 f6 f7 f8 f9 f10 m) m B
def mo_ball (f6 f7 f8 f9 f10 : Nat → Int32) (m : Nat) (a : Int32) (B : Nat → Int64) : Nat → Int64 := it (mo_b2 f6 f7 f8 f9 f10 m) m (it (mo_b1 a) m B)
def mo_tm2 (v : Int64) : Int64 := if lg_cmp v 9000000000000 = 0 then -1 else v
def mo_time (f6 f7 f8 f9 f10 : Nat → Int32) (m : Nat) (B : Nat → Int64) (x y : Int32) : Int64 := if mo_find f7 m x = -1 then -11 else if mo_find f7 m y = -1 then -11 else mo_tm2 (mo_ball f6 f7 f8 f9 f10 m (mo_find f7 m x) B (mo_find f7 m y).toNatClampNeg)
set_option maxRecDepth 100000 in
set_option maxHeartbeats 4000000 in
theorem c_Mo_through (l : Launch) (g : xG) (b0 : Nat) (ws : va_W) {q h : Nat} {ad : Nat → Nat} {s0 s1 s2 s3 s5 s6 : Int32} {f0 f1 f2 f3 f4 f5 f6 f7 f8 f9 f10 f11 f12 f13 f14 f16 : Nat → Int32} {f15 : Nat → Int64} {m9 : Nat} (eB : xMo g ws q h ad s0 s1 s2 s3 (nI m9) s5 s6 f0 f1 f2 f3 f4 f5 f6 f7 f8 f9 f10 f11 f12 f13 f14 f15 f16) (hm9 : m9 ≤ 24) (hok : mo_sok f6 f9 m9) (k : Nat) (hk : k < m9) : xRl l g b0 y_Mo_through b_Mo_through 4 0 [.ref h, .int (nI k)] ws (fun r => r = mo_thr f6 f8 f9 k) := by
  unfold xRl
  refine x_in (by decide) (Nat.le_of_ble_eq_true rfl) ?_
  intro p e s m below meth c ls E hr hin hP hD hl
  obtain ⟨hx, hb, hml, hown, hts, hK, hZ, hb0, hlocks⟩ := id E
  have hS : va_S (xA b0) s.heap s.heap [] := va_S.rf
  have hl : lv_has ls 4 [(0, .ref h), (1, .int (nI k))] := hl
  refine lv_lconst (v := 0) hx hb d_Mo_through_0 (by decide) ?_
  refine lv_lstore_n (lv' := [(2, .long 0), (0, .ref h), (1, .int (nI k))]) hx hb d_Mo_through_1 rfl hl (by decide) rfl (fun ls hl => ?_)
  refine lv_aload_n hx hb d_Mo_through_2 rfl (lv_at hl 1 rfl) ?_
  refine x_get E hP eB.1 rfl cl6_in 11 (by decide) wf_Mo_28 rfl d_Mo_through_3 ?_
  refine lv_iload_n hx hb d_Mo_through_6 rfl (lv_at hl 2 rfl) ?_
  refine x_iald E hP eB.2.2.2.2.2.2.2.1 (j := k) rfl (by omega) (by decide) d_Mo_through_7 ?_
  refine lv_iconst (v := 1) hx hb d_Mo_through_8 (by decide) ?_
  refine lv_icmp_ne (tgt := 42) hx hb d_Mo_through_9 (by decide) (fun c9 => ?_) (fun c9 => ?_)
  · refine lv_aload_n hx hb d_Mo_through_42 rfl (lv_at hl 1 rfl) ?_
    refine x_get E hP eB.1 rfl cl6_in 11 (by decide) wf_Mo_28 rfl d_Mo_through_43 ?_
    refine lv_iload_n hx hb d_Mo_through_46 rfl (lv_at hl 2 rfl) ?_
    refine x_iald E hP eB.2.2.2.2.2.2.2.1 (j := k) rfl (by omega) (by decide) d_Mo_through_47 ?_
    refine lv_iconst (v := 2) hx hb d_Mo_through_48 (by decide) ?_
    refine lv_icmp_ne (tgt := 62) hx hb d_Mo_through_49 (by decide) (fun c49 => ?_) (fun c49 => ?_)
    · refine lv_lload_n hx hb d_Mo_through_62 rfl (lv_at hl 0 rfl) ?_
      exact x_pl E hr (by rw [mo_thr, if_neg c49, if_neg c9]) d_Mo_through_63
    · refine lv_aload_n hx hb d_Mo_through_52 rfl (lv_at hl 1 rfl) ?_
      refine x_get E hP eB.1 rfl cl6_in 13 (by decide) wf_Mo_34 rfl d_Mo_through_53 ?_
      refine lv_iload_n hx hb d_Mo_through_56 rfl (lv_at hl 2 rfl) ?_
      refine x_iald E hP eB.2.2.2.2.2.2.2.2.2.1 (j := k) rfl (by omega) (by decide) d_Mo_through_57 ?_
      refine lv_i2l (v := (f8 k).toInt64) hx hb d_Mo_through_58 rfl ?_
      refine lv_goto (tgt := 63) hx hb d_Mo_through_59 (by decide) ?_
      exact x_pl E hr (by rw [mo_thr, if_pos c49]) d_Mo_through_63
  · obtain ⟨x9, hx1, hx2, hx3⟩ := hok k hk c9
    refine lv_ldc2 (v := 1000) hx hb hown (hts _ wk_Mo_126) d_Mo_through_12 ?_
    refine lv_aload_n hx hb d_Mo_through_15 rfl (lv_at hl 1 rfl) ?_
    refine x_get E hP eB.1 rfl cl6_in 13 (by decide) wf_Mo_34 rfl d_Mo_through_16 ?_
    refine lv_iload_n hx hb d_Mo_through_19 rfl (lv_at hl 2 rfl) ?_
    refine x_iald E hP eB.2.2.2.2.2.2.2.2.2.1 (j := k) rfl (by omega) (by decide) d_Mo_through_20 ?_
    refine lv_i2l (v := (f8 k).toInt64) hx hb d_Mo_through_21 rfl ?_
    refine lv_lmul hx hb d_Mo_through_22 ?_
    refine lv_aload_n hx hb d_Mo_through_23 rfl (lv_at hl 1 rfl) ?_
    refine x_get E hP eB.1 rfl cl6_in 14 (by decide) wf_Mo_37 rfl d_Mo_through_24 ?_
    refine lv_iload_n hx hb d_Mo_through_27 rfl (lv_at hl 2 rfl) ?_
    refine x_iald E hP eB.2.2.2.2.2.2.2.2.2.2.1 (j := k) rfl (by omega) (by decide) d_Mo_through_28 ?_
    refine lv_i2l (v := (f9 k).toInt64) hx hb d_Mo_through_29 rfl ?_
    refine lv_ladd hx hb d_Mo_through_30 ?_
    refine lv_lconst (v := 1) hx hb d_Mo_through_31 (by decide) ?_
    refine lv_lsub hx hb d_Mo_through_32 ?_
    refine lv_aload_n hx hb d_Mo_through_33 rfl (lv_at hl 1 rfl) ?_
    refine x_get E hP eB.1 rfl cl6_in 14 (by decide) wf_Mo_37 rfl d_Mo_through_34 ?_
    refine lv_iload_n hx hb d_Mo_through_37 rfl (lv_at hl 2 rfl) ?_
    refine x_iald E hP eB.2.2.2.2.2.2.2.2.2.2.1 (j := k) rfl (by omega) (by decide) d_Mo_through_38 ?_
    refine lv_i2l (v := (f9 k).toInt64) hx hb d_Mo_through_39 rfl ?_
    refine lv_ldiv hx hb d_Mo_through_40 (by rw [hx3, nI_l (by omega)]; exact fun h => absurd ((lN_eq (a := x9) (b := 0) (by omega) (by decide)).mp h) (by omega)) ?_
    refine lv_lstore_n (lv' := [(2, .long ((((1000 * ((f8 k).toInt64)) + ((f9 k).toInt64)) - 1) / ((f9 k).toInt64))), (0, .ref h), (1, .int (nI k))]) hx hb d_Mo_through_41 rfl hl (by decide) rfl (fun ls hl => ?_)
    refine lv_aload_n hx hb d_Mo_through_42 rfl (lv_at hl 1 rfl) ?_
    refine x_get E hP eB.1 rfl cl6_in 11 (by decide) wf_Mo_28 rfl d_Mo_through_43 ?_
    refine lv_iload_n hx hb d_Mo_through_46 rfl (lv_at hl 2 rfl) ?_
    refine x_iald E hP eB.2.2.2.2.2.2.2.1 (j := k) rfl (by omega) (by decide) d_Mo_through_47 ?_
    refine lv_iconst (v := 2) hx hb d_Mo_through_48 (by decide) ?_
    refine lv_icmp_ne (tgt := 62) hx hb d_Mo_through_49 (by decide) (fun c49 => ?_) (fun c49 => absurd c49 (by rw [c9]; decide))
    refine lv_lload_n hx hb d_Mo_through_62 rfl (lv_at hl 0 rfl) ?_
    exact x_pl E hr (by rw [mo_thr, if_neg c49, if_pos c9]) d_Mo_through_63
set_option maxRecDepth 100000 in
set_option maxHeartbeats 4000000 in
theorem c_Mo_time (l : Launch) (g : xG) (b0 : Nat) (ws : va_W) {q h : Nat} {ad : Nat → Nat} {s0 s1 s2 s3 s5 s6 : Int32} {f0 f1 f2 f3 f4 f5 f6 f7 f8 f9 f10 f11 f12 f13 f14 f16 : Nat → Int32} {f15 : Nat → Int64} {m9 : Nat} (eB : xMo g ws q h ad s0 s1 s2 s3 (nI m9) s5 s6 f0 f1 f2 f3 f4 f5 f6 f7 f8 f9 f10 f11 f12 f13 f14 f15 f16) (hm9 : m9 ≤ 24) (hok : mo_sok f6 f9 m9) (x y : Int32) : xMl l g b0 y_Mo_time b_Mo_time 9 2 [.ref h, .int x, .int y] ws (fun r u => r = mo_time f6 f7 f8 f9 f10 m9 f15 x y ∧ xQ q (q + 18) ws u ∧ ∃ fB, xMo g u q h ad s0 s1 s2 s3 (nI m9) s5 s6 f0 f1 f2 f3 f4 f5 f6 f7 f8 f9 f10 f11 f12 f13 f14 fB f16) := by
  unfold xMl
  refine x_in (by decide) (Nat.le_of_ble_eq_true rfl) ?_
  intro p e s m below meth c ls E hr hin hP hD hl
  obtain ⟨hx, hb, hml, hown, hts, hK, hZ, hb0, hlocks⟩ := id E
  have hS : va_S (xA b0) s.heap s.heap [] := va_S.rf
  have hl : lv_has ls 9 [(0, .ref h), (1, .int x), (2, .int y)] := hl
  have hQ : xQ q (q + 18) ws ws := xQ.rf
  refine lv_aload_n hx hb d_Mo_time_0 rfl (lv_at hl 0 rfl) ?_
  refine lv_iload_n hx hb d_Mo_time_1 rfl (lv_at hl 1 rfl) ?_
  refine x_cRi (As := [.int x]) (rest := []) E (c_Mo_find l g b0 _ eB hm9 x) wy_Mo_find wl_Mo_110 hP hD hS eB.1 rfl hl.1 ⟨by decide, by decide⟩ ⟨Nat.le_refl _, Nat.le_refl _⟩ rfl (Nat.le_of_ble_eq_true rfl) d_Mo_time_2 (fun r2 hr2 => ?_)
  subst hr2
  refine lv_istore_n (lv' := [(3, .int (mo_find f7 m9 x)), (0, .ref h), (1, .int x), (2, .int y)]) hx hb d_Mo_time_5 rfl hl (by decide) rfl (fun ls hl => ?_)
  refine lv_aload_n hx hb d_Mo_time_6 rfl (lv_at hl 1 rfl) ?_
  refine lv_iload_n hx hb d_Mo_time_7 rfl (lv_at hl 3 rfl) ?_
  refine x_cRi (As := [.int y]) (rest := []) E (c_Mo_find l g b0 _ eB hm9 y) wy_Mo_find wl_Mo_110 hP hD hS eB.1 rfl hl.1 ⟨by decide, by decide⟩ ⟨Nat.le_refl _, Nat.le_refl _⟩ rfl (Nat.le_of_ble_eq_true rfl) d_Mo_time_8 (fun r8 hr8 => ?_)
  subst hr8
  refine lv_istore (lv' := [(4, .int (mo_find f7 m9 y)), (3, .int (mo_find f7 m9 x)), (0, .ref h), (1, .int x), (2, .int y)]) hx hb d_Mo_time_11 hl (by decide) rfl (fun ls hl => ?_)
  refine lv_iload_n hx hb d_Mo_time_13 rfl (lv_at hl 1 rfl) ?_
  refine lv_iconst (v := (-1)) hx hb d_Mo_time_14 (by decide) ?_
  refine lv_icmp_eq (tgt := 24) hx hb d_Mo_time_15 (by decide) (fun c15 => ?_) (fun c15 => ?_)
  · refine lv_ldc2 (v := (-11)) hx hb hown (hts _ wk_Mo_128) d_Mo_time_24 ?_
    exact x_rl E hr hS ⟨by rw [mo_time, if_pos c15], hQ, _, eB⟩ hP hD d_Mo_time_27
  · refine lv_iload hx hb d_Mo_time_18 (lv_at hl 0 rfl) ?_
    refine lv_iconst (v := (-1)) hx hb d_Mo_time_20 (by decide) ?_
    refine lv_icmp_ne (tgt := 28) hx hb d_Mo_time_21 (by decide) (fun c21 => ?_) (fun c21 => ?_)
    · obtain ⟨b7, hb6, hb7⟩ := (mo_find_in f7 m9 y).resolve_left c21
      refine lv_iconst (v := 0) hx hb d_Mo_time_28 (by decide) ?_
      refine lv_istore (lv' := [(5, .int 0), (4, .int (mo_find f7 m9 y)), (3, .int (mo_find f7 m9 x)), (0, .ref h), (1, .int x), (2, .int y)]) hx hb d_Mo_time_29 hl (by decide) rfl (fun ls hl => ?_)
      have l1 : ∀ (fu i : Nat)  (v1 : va_W) (H : Heap) (locs : List Loc) (ls : Array Slot), (m9 < i + fu) → (i ≤ m9) → (lv_has ls 9 [(5, .int (nI i)), (4, .int (mo_find f7 m9 y)), (3, .int (mo_find f7 m9 x)), (0, .ref h), (1, .int x), (2, .int y)]) → (va_P (xD g) vwCl v1 H) → (va_D (xA b0) v1) → (va_S (xA b0) s.heap H locs) → (xQ q (q + 18) ws v1) → (xMo g v1 q h ad s0 s1 s2 s3 (nI m9) s5 s6 f0 f1 f2 f3 f4 f5 f6 f7 f8 f9 f10 f11 f12 f13 f14 (it (mo_b1 (mo_find f7 m9 x)) i f15) f16) → W p l e (rmL 2) s m ([.ref h, .int x, .int y] : List Value).toArray below meth c H locs 0 0 (MQ below (va_Ql (fun r u => r = mo_time f6 f7 f8 f9 f10 m9 f15 x y ∧ xQ q (q + 18) ws u ∧ ∃ fB, xMo g u q h ad s0 s1 s2 s3 (nI m9) s5 s6 f0 f1 f2 f3 f4 f5 f6 f7 f8 f9 f10 f11 f12 f13 f14 fB f16) (fun u t => va_P (xD g) vwCl u t.heap ∧ va_D (xA b0) u) (xA b0)) ([.ref h, .int x, .int y] : List Value).toArray s 0 0 (xA b0)) (F0 m 31 ls []) := by
        intro fu
        induction fu with
        | zero =>
          intro i v1 H locs ls hk hi hl hP hD hS hQ eB
          omega
        | succ fu ih =>
          intro i v1 H locs ls hk hi hl hP hD hS hQ eB
          refine lv_iload hx hb d_Mo_time_31 (lv_at hl 0 rfl) ?_
          refine lv_aload_n hx hb d_Mo_time_33 rfl (lv_at hl 3 rfl) ?_
          refine x_get E hP eB.1 rfl cl6_in 10 (by decide) wf_Mo_101 rfl d_Mo_time_34 ?_
          refine lv_icmp_ge (tgt := 66) hx hb d_Mo_time_37 (by decide) (fun c37 => ?_) (fun c37 => ?_)
          · have hi9 : i = m9 := by
              have := (nI_leI (by omega) (by omega)).mp c37
              omega
            rw [hi9] at eB
            refine lv_iconst (v := 0) hx hb d_Mo_time_66 (by decide) ?_
            refine lv_istore (lv' := [(5, .int 0), (4, .int (mo_find f7 m9 y)), (3, .int (mo_find f7 m9 x)), (0, .ref h), (1, .int x), (2, .int y)]) hx hb d_Mo_time_67 hl (by decide) rfl (fun ls hl => ?_)
            have l2 : ∀ (fv c1 : Nat)  (v2 : va_W) (H : Heap) (locs : List Loc) (ls : Array Slot), (m9 < c1 + fv) → (c1 ≤ m9) → (lv_has ls 9 [(5, .int (nI c1)), (4, .int (mo_find f7 m9 y)), (3, .int (mo_find f7 m9 x)), (0, .ref h), (1, .int x), (2, .int y)]) → (va_P (xD g) vwCl v2 H) → (va_D (xA b0) v2) → (va_S (xA b0) s.heap H locs) → (xQ q (q + 18) ws v2) → (xMo g v2 q h ad s0 s1 s2 s3 (nI m9) s5 s6 f0 f1 f2 f3 f4 f5 f6 f7 f8 f9 f10 f11 f12 f13 f14 (it (mo_b2 f6 f7 f8 f9 f10 m9) c1 (it (mo_b1 (mo_find f7 m9 x)) m9 f15)) f16) → W p l e (rmL 2) s m ([.ref h, .int x, .int y] : List Value).toArray below meth c H locs 0 0 (MQ below (va_Ql (fun r u => r = mo_time f6 f7 f8 f9 f10 m9 f15 x y ∧ xQ q (q + 18) ws u ∧ ∃ fB, xMo g u q h ad s0 s1 s2 s3 (nI m9) s5 s6 f0 f1 f2 f3 f4 f5 f6 f7 f8 f9 f10 f11 f12 f13 f14 fB f16) (fun u t => va_P (xD g) vwCl u t.heap ∧ va_D (xA b0) u) (xA b0)) ([.ref h, .int x, .int y] : List Value).toArray s 0 0 (xA b0)) (F0 m 69 ls []) := by
              intro fv
              induction fv with
              | zero =>
                intro c1 v2 H locs ls hk hc hl hP hD hS hQ eB
                omega
              | succ fv ih =>
                intro c1 v2 H locs ls hk hc hl hP hD hS hQ eB
                refine lv_iload hx hb d_Mo_time_69 (lv_at hl 0 rfl) ?_
                refine lv_aload_n hx hb d_Mo_time_71 rfl (lv_at hl 3 rfl) ?_
                refine x_get E hP eB.1 rfl cl6_in 10 (by decide) wf_Mo_101 rfl d_Mo_time_72 ?_
                refine lv_icmp_ge (tgt := 193) hx hb d_Mo_time_75 (by decide) (fun c75 => ?_) (fun c75 => ?_)
                · have hc9 : c1 = m9 := by
                    have := (nI_leI (by omega) (by omega)).mp c75
                    omega
                  rw [hc9] at eB
                  refine lv_aload_n hx hb d_Mo_time_193 rfl (lv_at hl 3 rfl) ?_
                  refine x_get E hP eB.1 rfl cl6_in 21 (by decide) wf_Mo_56 rfl d_Mo_time_194 ?_
                  refine lv_iload hx hb d_Mo_time_197 (lv_at hl 1 rfl) ?_
                  refine x_lald E hP eB.2.2.2.2.2.2.2.2.2.2.2.2.2.2.2.2.1 (j := b7) hb7 (by omega) (by decide) d_Mo_time_199 ?_
                  refine lv_ldc2 (v := 9000000000000) hx hb hown (hts _ wk_Mo_130) d_Mo_time_200 ?_
                  refine W.lcmp hx hb d_Mo_time_203 ?_
                  refine lv_if_ne (tgt := 213) hx hb d_Mo_time_204 (by decide) (fun c204 => ?_) (fun c204 => ?_)
                  · refine lv_aload_n hx hb d_Mo_time_213 rfl (lv_at hl 3 rfl) ?_
                    refine x_get E hP eB.1 rfl cl6_in 21 (by decide) wf_Mo_56 rfl d_Mo_time_214 ?_
                    refine lv_iload hx hb d_Mo_time_217 (lv_at hl 1 rfl) ?_
                    refine x_lald E hP eB.2.2.2.2.2.2.2.2.2.2.2.2.2.2.2.2.1 (j := b7) hb7 (by omega) (by decide) d_Mo_time_219 ?_
                    exact x_rl E hr hS ⟨by rw [mo_time, if_neg c15, if_neg c21, hb7, nI_clamp (by omega), mo_tm2, mo_ball, if_neg c204], hQ, _, eB⟩ hP hD d_Mo_time_220
                  · refine lv_ldc2 (v := (-1)) hx hb hown (hts _ wk_Mo_136) d_Mo_time_207 ?_
                    refine lv_goto (tgt := 220) hx hb d_Mo_time_210 (by decide) ?_
                    exact x_rl E hr hS ⟨by rw [mo_time, if_neg c15, if_neg c21, hb7, nI_clamp (by omega), mo_tm2, mo_ball, if_pos c204], hQ, _, eB⟩ hP hD d_Mo_time_220
                · have hc9 : c1 < m9 := Nat.not_le.mp fun h => c75 (nI_le h (by omega))
                  refine lv_iconst (v := 0) hx hb d_Mo_time_78 (by decide) ?_
                  refine lv_istore (lv' := [(6, .int 0), (5, .int (nI c1)), (4, .int (mo_find f7 m9 y)), (3, .int (mo_find f7 m9 x)), (0, .ref h), (1, .int x), (2, .int y)]) hx hb d_Mo_time_79 hl (by decide) rfl (fun ls hl => ?_)
                  have l3 : ∀ (fw i : Nat)  (v3 : va_W) (H : Heap) (locs : List Loc) (ls : Array Slot), (m9 < i + fw) → (i ≤ m9) → (lv_has ls 9 [(6, .int (nI i)), (5, .int (nI c1)), (4, .int (mo_find f7 m9 y)), (3, .int (mo_find f7 m9 x)), (0, .ref h), (1, .int x), (2, .int y)]) → (va_P (xD g) vwCl v3 H) → (va_D (xA b0) v3) → (va_S (xA b0) s.heap H locs) → (xQ q (q + 18) ws v3) → (xMo g v3 q h ad s0 s1 s2 s3 (nI m9) s5 s6 f0 f1 f2 f3 f4 f5 f6 f7 f8 f9 f10 f11 f12 f13 f14 (it (mo_b3 f6 f7 f8 f9 f10 m9) i (it (mo_b2 f6 f7 f8 f9 f10 m9) c1 (it (mo_b1 (mo_find f7 m9 x)) m9 f15))) f16) → W p l e (rmL 2) s m ([.ref h, .int x, .int y] : List Value).toArray below meth c H locs 0 0 (MQ below (va_Ql (fun r u => r = mo_time f6 f7 f8 f9 f10 m9 f15 x y ∧ xQ q (q + 18) ws u ∧ ∃ fB, xMo g u q h ad s0 s1 s2 s3 (nI m9) s5 s6 f0 f1 f2 f3 f4 f5 f6 f7 f8 f9 f10 f11 f12 f13 f14 fB f16) (fun u t => va_P (xD g) vwCl u t.heap ∧ va_D (xA b0) u) (xA b0)) ([.ref h, .int x, .int y] : List Value).toArray s 0 0 (xA b0)) (F0 m 81 ls []) := by
                    intro fw
                    induction fw with
                    | zero =>
                      intro i v3 H locs ls hk hi hl hP hD hS hQ eB
                      omega
                    | succ fw ih3 =>
                      intro i v3 H locs ls hk hi hl hP hD hS hQ eB
                      refine lv_iload hx hb d_Mo_time_81 (lv_at hl 0 rfl) ?_
                      refine lv_aload_n hx hb d_Mo_time_83 rfl (lv_at hl 4 rfl) ?_
                      refine x_get E hP eB.1 rfl cl6_in 10 (by decide) wf_Mo_101 rfl d_Mo_time_84 ?_
                      refine lv_icmp_ge (tgt := 187) hx hb d_Mo_time_87 (by decide) (fun c87 => ?_) (fun c87 => ?_)
                      · have hi9 : i = m9 := by
                          have := (nI_leI (by omega) (by omega)).mp c87
                          omega
                        rw [hi9] at eB
                        refine lv_iinc (v := nI (c1 + 1)) (lv' := [(5, .int (nI (c1 + 1))), (6, .int (nI i)), (4, .int (mo_find f7 m9 y)), (3, .int (mo_find f7 m9 x)), (0, .ref h), (1, .int x), (2, .int y)]) hx hb d_Mo_time_187 hl (k := 1) rfl (nI_1 c1) (by decide) rfl (fun ls hl => ?_)
                        refine lv_goto (tgt := 69) hx hb d_Mo_time_190 (by decide) ?_
                        have eB : xMo g _ q h ad s0 s1 s2 s3 (nI m9) s5 s6 f0 f1 f2 f3 f4 f5 f6 f7 f8 f9 f10 f11 f12 f13 f14 (it (mo_b2 f6 f7 f8 f9 f10 m9) (c1 + 1) (it (mo_b1 (mo_find f7 m9 x)) m9 f15)) f16 := eB
                        exact ih (c1 + 1) _ _ _ _ (by omega) (by omega) (lv_sub hl [0, 2, 3, 4, 5, 6] rfl) hP hD hS hQ eB
                      · have hi9 : i < m9 := Nat.not_le.mp fun h => c87 (nI_le h (by omega))
                        refine lv_iconst (v := 0) hx hb d_Mo_time_90 (by decide) ?_
                        refine lv_istore (lv' := [(7, .int 0), (6, .int (nI i)), (5, .int (nI c1)), (4, .int (mo_find f7 m9 y)), (3, .int (mo_find f7 m9 x)), (0, .ref h), (1, .int x), (2, .int y)]) hx hb d_Mo_time_91 hl (by decide) rfl (fun ls hl => ?_)
                        have l4 : ∀ (fx j : Nat)  (v4 : va_W) (H : Heap) (locs : List Loc) (ls : Array Slot), (2 < j + fx) → (j ≤ 2) → (lv_has ls 9 [(7, .int (nI j)), (6, .int (nI i)), (5, .int (nI c1)), (4, .int (mo_find f7 m9 y)), (3, .int (mo_find f7 m9 x)), (0, .ref h), (1, .int x), (2, .int y)]) → (va_P (xD g) vwCl v4 H) → (va_D (xA b0) v4) → (va_S (xA b0) s.heap H locs) → (xQ q (q + 18) ws v4) → (xMo g v4 q h ad s0 s1 s2 s3 (nI m9) s5 s6 f0 f1 f2 f3 f4 f5 f6 f7 f8 f9 f10 f11 f12 f13 f14 (it (mo_b4 f6 f7 f8 f9 f10 m9 i) j (it (mo_b3 f6 f7 f8 f9 f10 m9) i (it (mo_b2 f6 f7 f8 f9 f10 m9) c1 (it (mo_b1 (mo_find f7 m9 x)) m9 f15)))) f16) → W p l e (rmL 2) s m ([.ref h, .int x, .int y] : List Value).toArray below meth c H locs 0 0 (MQ below (va_Ql (fun r u => r = mo_time f6 f7 f8 f9 f10 m9 f15 x y ∧ xQ q (q + 18) ws u ∧ ∃ fB, xMo g u q h ad s0 s1 s2 s3 (nI m9) s5 s6 f0 f1 f2 f3 f4 f5 f6 f7 f8 f9 f10 f11 f12 f13 f14 fB f16) (fun u t => va_P (xD g) vwCl u t.heap ∧ va_D (xA b0) u) (xA b0)) ([.ref h, .int x, .int y] : List Value).toArray s 0 0 (xA b0)) (F0 m 93 ls []) := by
                          intro fx
                          induction fx with
                          | zero =>
                            intro j v4 H locs ls hk hj hl hP hD hS hQ eB
                            omega
                          | succ fx ih4 =>
                            intro j v4 H locs ls hk hj hl hP hD hS hQ eB
                            have eV : it (mo_b4 f6 f7 f8 f9 f10 m9 i) (j + 1) (it (mo_b3 f6 f7 f8 f9 f10 m9) i (it (mo_b2 f6 f7 f8 f9 f10 m9) c1 (it (mo_b1 (mo_find f7 m9 x)) m9 f15))) = mo_b4 f6 f7 f8 f9 f10 m9 i j (it (mo_b4 f6 f7 f8 f9 f10 m9 i) j (it (mo_b3 f6 f7 f8 f9 f10 m9) i (it (mo_b2 f6 f7 f8 f9 f10 m9) c1 (it (mo_b1 (mo_find f7 m9 x)) m9 f15)))) := rfl
                            generalize eV0 : it (mo_b4 f6 f7 f8 f9 f10 m9 i) j (it (mo_b3 f6 f7 f8 f9 f10 m9) i (it (mo_b2 f6 f7 f8 f9 f10 m9) c1 (it (mo_b1 (mo_find f7 m9 x)) m9 f15))) = V at eB eV
                            refine lv_iload hx hb d_Mo_time_93 (lv_at hl 0 rfl) ?_
                            refine lv_iconst (v := 2) hx hb d_Mo_time_95 (by decide) ?_
                            refine lv_icmp_ge (tgt := 181) hx hb d_Mo_time_96 (by decide) (fun c96 => ?_) (fun c96 => ?_)
                            · have hj9 : j = 2 := by
                                have := (nI_leI (a := 2) (by decide) (by omega)).mp c96
                                omega
                              refine lv_iinc (v := nI (i + 1)) (lv' := [(6, .int (nI (i + 1))), (7, .int (nI j)), (5, .int (nI c1)), (4, .int (mo_find f7 m9 y)), (3, .int (mo_find f7 m9 x)), (0, .ref h), (1, .int x), (2, .int y)]) hx hb d_Mo_time_181 hl (k := 1) rfl (nI_1 i) (by decide) rfl (fun ls hl => ?_)
                              refine lv_goto (tgt := 81) hx hb d_Mo_time_184 (by decide) ?_
                              rw [← eV0, hj9] at eB
                              have eB : xMo g _ q h ad s0 s1 s2 s3 (nI m9) s5 s6 f0 f1 f2 f3 f4 f5 f6 f7 f8 f9 f10 f11 f12 f13 f14 (it (mo_b3 f6 f7 f8 f9 f10 m9) (i + 1) (it (mo_b2 f6 f7 f8 f9 f10 m9) c1 (it (mo_b1 (mo_find f7 m9 x)) m9 f15))) f16 := eB
                              exact ih3 (i + 1) _ _ _ _ (by omega) (by omega) (lv_sub hl [0, 2, 3, 4, 5, 6, 7] rfl) hP hD hS hQ eB
                            · have hj9 : j < 2 := Nat.not_le.mp fun h => c96 (nI_le (a := 2) h (by omega))
                              refine lv_aload_n hx hb d_Mo_time_99 rfl (lv_at hl 5 rfl) ?_
                              refine lv_iload hx hb d_Mo_time_100 (lv_at hl 1 rfl) ?_
                              refine lv_iload hx hb d_Mo_time_102 (lv_at hl 0 rfl) ?_
                              refine x_cRi (As := [.int (nI i), .int (nI j)]) (rest := []) E (c_Mo_target l g b0 _ eB hm9 (nI i) (nI j) i j rfl rfl (by omega) (by omega)) wy_Mo_target wl_Mo_113 hP hD hS eB.1 rfl hl.1 ⟨by decide, by decide⟩ ⟨Nat.le_refl _, Nat.le_refl _⟩ rfl (Nat.le_of_ble_eq_true rfl) d_Mo_time_104 (fun r104 hr104 => ?_)
                              subst hr104
                              refine lv_istore (lv' := [(8, .int (mo_tg f7 f10 m9 i j)), (7, .int (nI j)), (6, .int (nI i)), (5, .int (nI c1)), (4, .int (mo_find f7 m9 y)), (3, .int (mo_find f7 m9 x)), (0, .ref h), (1, .int x), (2, .int y)]) hx hb d_Mo_time_107 hl (by decide) rfl (fun ls hl => ?_)
                              refine lv_iload hx hb d_Mo_time_109 (lv_at hl 0 rfl) ?_
                              refine lv_iconst (v := (-1)) hx hb d_Mo_time_111 (by decide) ?_
                              refine lv_icmp_eq (tgt := 175) hx hb d_Mo_time_112 (by decide) (fun c112 => ?_) (fun c112 => ?_)
                              · refine lv_iinc (v := nI (j + 1)) (lv' := [(7, .int (nI (j + 1))), (8, .int (mo_tg f7 f10 m9 i j)), (6, .int (nI i)), (5, .int (nI c1)), (4, .int (mo_find f7 m9 y)), (3, .int (mo_find f7 m9 x)), (0, .ref h), (1, .int x), (2, .int y)]) hx hb d_Mo_time_175 hl (k := 1) rfl (nI_1 j) (by decide) rfl (fun ls hl => ?_)
                                refine lv_goto (tgt := 93) hx hb d_Mo_time_178 (by decide) ?_
                                have e7 : V = it (mo_b4 f6 f7 f8 f9 f10 m9 i) (j + 1) (it (mo_b3 f6 f7 f8 f9 f10 m9) i (it (mo_b2 f6 f7 f8 f9 f10 m9) c1 (it (mo_b1 (mo_find f7 m9 x)) m9 f15))) := by rw [eV, mo_b4, if_pos c112]
                                rw [e7] at eB
                                exact ih4 (j + 1) _ _ _ _ (by omega) (by omega) (lv_sub hl [0, 2, 3, 4, 5, 6, 7, 8] rfl) hP hD hS hQ eB
                              · obtain ⟨b7, hb6, hb7⟩ := (mo_tg_in f7 f10 m9 i j).resolve_left c112
                                refine lv_aload_n hx hb d_Mo_time_115 rfl (lv_at hl 6 rfl) ?_
                                refine x_get E hP eB.1 rfl cl6_in 21 (by decide) wf_Mo_56 rfl d_Mo_time_116 ?_
                                refine lv_iload hx hb d_Mo_time_119 (lv_at hl 2 rfl) ?_
                                refine x_lald E hP eB.2.2.2.2.2.2.2.2.2.2.2.2.2.2.2.2.1 (j := i) rfl (by omega) (by decide) d_Mo_time_121 ?_
                                refine lv_ldc2 (v := 9000000000000) hx hb hown (hts _ wk_Mo_130) d_Mo_time_122 ?_
                                refine W.lcmp hx hb d_Mo_time_125 ?_
                                refine lv_if_ge (tgt := 175) hx hb d_Mo_time_126 (by decide) (fun c126 => ?_) (fun c126 => ?_)
                                · refine lv_iinc (v := nI (j + 1)) (lv' := [(7, .int (nI (j + 1))), (8, .int (mo_tg f7 f10 m9 i j)), (6, .int (nI i)), (5, .int (nI c1)), (4, .int (mo_find f7 m9 y)), (3, .int (mo_find f7 m9 x)), (0, .ref h), (1, .int x), (2, .int y)]) hx hb d_Mo_time_175 hl (k := 1) rfl (nI_1 j) (by decide) rfl (fun ls hl => ?_)
                                  refine lv_goto (tgt := 93) hx hb d_Mo_time_178 (by decide) ?_
                                  have e7 : V = it (mo_b4 f6 f7 f8 f9 f10 m9 i) (j + 1) (it (mo_b3 f6 f7 f8 f9 f10 m9) i (it (mo_b2 f6 f7 f8 f9 f10 m9) c1 (it (mo_b1 (mo_find f7 m9 x)) m9 f15))) := by rw [eV, mo_b4, if_neg c112, if_pos c126]
                                  rw [e7] at eB
                                  exact ih4 (j + 1) _ _ _ _ (by omega) (by omega) (lv_sub hl [0, 2, 3, 4, 5, 6, 7, 8] rfl) hP hD hS hQ eB
                                · refine lv_aload_n hx hb d_Mo_time_129 rfl (lv_at hl 6 rfl) ?_
                                  refine x_get E hP eB.1 rfl cl6_in 21 (by decide) wf_Mo_56 rfl d_Mo_time_130 ?_
                                  refine lv_iload hx hb d_Mo_time_133 (lv_at hl 2 rfl) ?_
                                  refine x_lald E hP eB.2.2.2.2.2.2.2.2.2.2.2.2.2.2.2.2.1 (j := i) rfl (by omega) (by decide) d_Mo_time_135 ?_
                                  refine lv_aload_n hx hb d_Mo_time_136 rfl (lv_at hl 6 rfl) ?_
                                  refine lv_iload hx hb d_Mo_time_137 (lv_at hl 2 rfl) ?_
                                  refine x_cRl (As := [.int (nI i)]) (rest := [.long (V i)]) E (c_Mo_through l g b0 _ eB hm9 hok i hi9) wy_Mo_through wl_Mo_132 hP hD hS eB.1 rfl hl.1 ⟨by decide, by decide⟩ ⟨Nat.le_refl _, Nat.le_refl _⟩ rfl (Nat.le_of_ble_eq_true rfl) d_Mo_time_139 (fun r139 hr139 => ?_)
                                  subst hr139
                                  refine lv_ladd hx hb d_Mo_time_142 ?_
                                  refine lv_aload_n hx hb d_Mo_time_143 rfl (lv_at hl 6 rfl) ?_
                                  refine x_get E hP eB.1 rfl cl6_in 21 (by decide) wf_Mo_56 rfl d_Mo_time_144 ?_
                                  refine lv_iload hx hb d_Mo_time_147 (lv_at hl 0 rfl) ?_
                                  refine x_lald E hP eB.2.2.2.2.2.2.2.2.2.2.2.2.2.2.2.2.1 (j := b7) hb7 (by omega) (by decide) d_Mo_time_149 ?_
                                  refine W.lcmp hx hb d_Mo_time_150 ?_
                                  refine lv_if_ge (tgt := 175) hx hb d_Mo_time_151 (by decide) (fun c151 => ?_) (fun c151 => ?_)
                                  · refine lv_iinc (v := nI (j + 1)) (lv' := [(7, .int (nI (j + 1))), (8, .int (mo_tg f7 f10 m9 i j)), (6, .int (nI i)), (5, .int (nI c1)), (4, .int (mo_find f7 m9 y)), (3, .int (mo_find f7 m9 x)), (0, .ref h), (1, .int x), (2, .int y)]) hx hb d_Mo_time_175 hl (k := 1) rfl (nI_1 j) (by decide) rfl (fun ls hl => ?_)
                                    refine lv_goto (tgt := 93) hx hb d_Mo_time_178 (by decide) ?_
                                    have e7 : V = it (mo_b4 f6 f7 f8 f9 f10 m9 i) (j + 1) (it (mo_b3 f6 f7 f8 f9 f10 m9) i (it (mo_b2 f6 f7 f8 f9 f10 m9) c1 (it (mo_b1 (mo_find f7 m9 x)) m9 f15))) := by rw [eV, mo_b4, if_neg c112, if_neg c126, hb7, nI_clamp (by omega), if_pos c151]
                                    rw [e7] at eB
                                    exact ih4 (j + 1) _ _ _ _ (by omega) (by omega) (lv_sub hl [0, 2, 3, 4, 5, 6, 7, 8] rfl) hP hD hS hQ eB
                                  · refine lv_aload_n hx hb d_Mo_time_154 rfl (lv_at hl 6 rfl) ?_
                                    refine x_get E hP eB.1 rfl cl6_in 21 (by decide) wf_Mo_56 rfl d_Mo_time_155 ?_
                                    refine lv_iload hx hb d_Mo_time_158 (lv_at hl 0 rfl) ?_
                                    refine lv_aload_n hx hb d_Mo_time_160 rfl (lv_at hl 6 rfl) ?_
                                    refine x_get E hP eB.1 rfl cl6_in 21 (by decide) wf_Mo_56 rfl d_Mo_time_161 ?_
                                    refine lv_iload hx hb d_Mo_time_164 (lv_at hl 2 rfl) ?_
                                    refine x_lald E hP eB.2.2.2.2.2.2.2.2.2.2.2.2.2.2.2.2.1 (j := i) rfl (by omega) (by decide) d_Mo_time_166 ?_
                                    refine lv_aload_n hx hb d_Mo_time_167 rfl (lv_at hl 6 rfl) ?_
                                    refine lv_iload hx hb d_Mo_time_168 (lv_at hl 2 rfl) ?_
                                    refine x_cRl (As := [.int (nI i)]) (rest := [.long (V i), .int (mo_tg f7 f10 m9 i j), .ref (ad 15)]) E (c_Mo_through l g b0 _ eB hm9 hok i hi9) wy_Mo_through wl_Mo_132 hP hD hS eB.1 rfl hl.1 ⟨by decide, by decide⟩ ⟨Nat.le_refl _, Nat.le_refl _⟩ rfl (Nat.le_of_ble_eq_true rfl) d_Mo_time_170 (fun r170 hr170 => ?_)
                                    subst hr170
                                    refine lv_ladd hx hb d_Mo_time_173 ?_
                                    refine x_last E hP hD hS eB.2.2.2.2.2.2.2.2.2.2.2.2.2.2.2.2.1 (j := b7) hb7 (by omega) (by decide) d_Mo_time_174 (fun w206 H locs hU206 hP hD hS => ?_)
                                    have eB : xMo g w206 q h ad s0 s1 s2 s3 (nI m9) s5 s6 f0 f1 f2 f3 f4 f5 f6 f7 f8 f9 f10 f11 f12 f13 f14 (vp_updL V b7 ((V i) + (mo_thr f6 f8 f9 i))) f16 := eB.a15 hU206
                                    have hQ := hQ.up hU206 (by omega)
                                    refine lv_iinc (v := nI (j + 1)) (lv' := [(7, .int (nI (j + 1))), (8, .int (mo_tg f7 f10 m9 i j)), (6, .int (nI i)), (5, .int (nI c1)), (4, .int (mo_find f7 m9 y)), (3, .int (mo_find f7 m9 x)), (0, .ref h), (1, .int x), (2, .int y)]) hx hb d_Mo_time_175 hl (k := 1) rfl (nI_1 j) (by decide) rfl (fun ls hl => ?_)
                                    refine lv_goto (tgt := 93) hx hb d_Mo_time_178 (by decide) ?_
                                    have e7 : vp_updL V b7 (V i + mo_thr f6 f8 f9 i) = it (mo_b4 f6 f7 f8 f9 f10 m9 i) (j + 1) (it (mo_b3 f6 f7 f8 f9 f10 m9) i (it (mo_b2 f6 f7 f8 f9 f10 m9) c1 (it (mo_b1 (mo_find f7 m9 x)) m9 f15))) := by rw [eV, mo_b4, if_neg c112, if_neg c126, hb7, nI_clamp (by omega), if_neg c151]
                                    rw [e7] at eB
                                    exact ih4 (j + 1) _ _ _ _ (by omega) (by omega) (lv_sub hl [0, 2, 3, 4, 5, 6, 7, 8] rfl) hP hD hS hQ eB
                        have eB : xMo g _ q h ad s0 s1 s2 s3 (nI m9) s5 s6 f0 f1 f2 f3 f4 f5 f6 f7 f8 f9 f10 f11 f12 f13 f14 (it (mo_b4 f6 f7 f8 f9 f10 m9 i) 0 (it (mo_b3 f6 f7 f8 f9 f10 m9) i (it (mo_b2 f6 f7 f8 f9 f10 m9) c1 (it (mo_b1 (mo_find f7 m9 x)) m9 f15)))) f16 := eB
                        exact l4 3 0 _ _ _ _ (by omega) (by omega) hl hP hD hS hQ eB
                  have eB : xMo g _ q h ad s0 s1 s2 s3 (nI m9) s5 s6 f0 f1 f2 f3 f4 f5 f6 f7 f8 f9 f10 f11 f12 f13 f14 (it (mo_b3 f6 f7 f8 f9 f10 m9) 0 (it (mo_b2 f6 f7 f8 f9 f10 m9) c1 (it (mo_b1 (mo_find f7 m9 x)) m9 f15))) f16 := eB
                  exact l3 (m9 + 1) 0 _ _ _ _ (by omega) (by omega) hl hP hD hS hQ eB
            have eB : xMo g _ q h ad s0 s1 s2 s3 (nI m9) s5 s6 f0 f1 f2 f3 f4 f5 f6 f7 f8 f9 f10 f11 f12 f13 f14 (it (mo_b2 f6 f7 f8 f9 f10 m9) 0 (it (mo_b1 (mo_find f7 m9 x)) m9 f15)) f16 := eB
            exact l2 (m9 + 1) 0 _ _ _ _ (by omega) (by omega) hl hP hD hS hQ eB
          · have hi9 : i < m9 := Nat.not_le.mp fun h => c37 (nI_le h (by omega))
            refine lv_aload_n hx hb d_Mo_time_40 rfl (lv_at hl 3 rfl) ?_
            refine x_get E hP eB.1 rfl cl6_in 21 (by decide) wf_Mo_56 rfl d_Mo_time_41 ?_
            refine lv_iload hx hb d_Mo_time_44 (lv_at hl 0 rfl) ?_
            refine lv_iload hx hb d_Mo_time_46 (lv_at hl 0 rfl) ?_
            refine lv_iload_n hx hb d_Mo_time_48 rfl (lv_at hl 2 rfl) ?_
            refine lv_icmp_ne (tgt := 56) hx hb d_Mo_time_49 (by decide) (fun c49 => ?_) (fun c49 => ?_)
            · refine lv_ldc2 (v := 9000000000000) hx hb hown (hts _ wk_Mo_130) d_Mo_time_56 ?_
              refine x_last E hP hD hS eB.2.2.2.2.2.2.2.2.2.2.2.2.2.2.2.2.1 (j := i) rfl (by omega) (by decide) d_Mo_time_59 (fun w53 H locs hU53 hP hD hS => ?_)
              have eB : xMo g w53 q h ad s0 s1 s2 s3 (nI m9) s5 s6 f0 f1 f2 f3 f4 f5 f6 f7 f8 f9 f10 f11 f12 f13 f14 (vp_updL (it (mo_b1 (mo_find f7 m9 x)) i f15) i 9000000000000) f16 := eB.a15 hU53
              have hQ := hQ.up hU53 (by omega)
              refine lv_iinc (v := nI (i + 1)) (lv' := [(5, .int (nI (i + 1))), (4, .int (mo_find f7 m9 y)), (3, .int (mo_find f7 m9 x)), (0, .ref h), (1, .int x), (2, .int y)]) hx hb d_Mo_time_60 hl (k := 0) rfl (nI_1 i) (by decide) rfl (fun ls hl => ?_)
              refine lv_goto (tgt := 31) hx hb d_Mo_time_63 (by decide) ?_
              have e7 : vp_updL (it (mo_b1 (mo_find f7 m9 x)) i f15) i 9000000000000 = it (mo_b1 (mo_find f7 m9 x)) (i + 1) f15 := by show _ = mo_b1 (mo_find f7 m9 x) i (it (mo_b1 (mo_find f7 m9 x)) i f15); rw [mo_b1, if_neg c49]
              rw [e7] at eB
              exact ih (i + 1) _ _ _ _ (by omega) (by omega) hl hP hD hS hQ eB
            · refine lv_lconst (v := 0) hx hb d_Mo_time_52 (by decide) ?_
              refine lv_goto (tgt := 59) hx hb d_Mo_time_53 (by decide) ?_
              refine x_last E hP hD hS eB.2.2.2.2.2.2.2.2.2.2.2.2.2.2.2.2.1 (j := i) rfl (by omega) (by decide) d_Mo_time_59 (fun w53 H locs hU53 hP hD hS => ?_)
              have eB : xMo g w53 q h ad s0 s1 s2 s3 (nI m9) s5 s6 f0 f1 f2 f3 f4 f5 f6 f7 f8 f9 f10 f11 f12 f13 f14 (vp_updL (it (mo_b1 (mo_find f7 m9 x)) i f15) i 0) f16 := eB.a15 hU53
              have hQ := hQ.up hU53 (by omega)
              refine lv_iinc (v := nI (i + 1)) (lv' := [(5, .int (nI (i + 1))), (4, .int (mo_find f7 m9 y)), (3, .int (mo_find f7 m9 x)), (0, .ref h), (1, .int x), (2, .int y)]) hx hb d_Mo_time_60 hl (k := 0) rfl (nI_1 i) (by decide) rfl (fun ls hl => ?_)
              refine lv_goto (tgt := 31) hx hb d_Mo_time_63 (by decide) ?_
              have e7 : vp_updL (it (mo_b1 (mo_find f7 m9 x)) i f15) i 0 = it (mo_b1 (mo_find f7 m9 x)) (i + 1) f15 := by show _ = mo_b1 (mo_find f7 m9 x) i (it (mo_b1 (mo_find f7 m9 x)) i f15); rw [mo_b1, if_pos c49]
              rw [e7] at eB
              exact ih (i + 1) _ _ _ _ (by omega) (by omega) hl hP hD hS hQ eB
      have eB : xMo g _ q h ad s0 s1 s2 s3 (nI m9) s5 s6 f0 f1 f2 f3 f4 f5 f6 f7 f8 f9 f10 f11 f12 f13 f14 (it (mo_b1 (mo_find f7 m9 x)) 0 f15) f16 := eB
      exact l1 (m9 + 1) 0 _ _ _ _ (by omega) (by omega) hl hP hD hS hQ eB
    · refine lv_ldc2 (v := (-11)) hx hb hown (hts _ wk_Mo_128) d_Mo_time_24 ?_
      exact x_rl E hr hS ⟨by rw [mo_time, if_neg c15, if_pos c21], hQ, _, eB⟩ hP hD d_Mo_time_27
