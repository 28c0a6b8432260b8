def md_run (f : Nat → Int32) (n : Nat) : Nat → md_S → md_S
  | 0, z => z
  | c + 1, z => if (md_step f n z).2.1 = -1 then (if n ≤ (md_step f n z).1 then md_step f n z else md_run f n c (md_step f n z)) else md_step f n z
theorem md_run_s {f : Nat → Int32} {n c : Nat} (z : md_S) : md_run f n (c + 1) z = if (md_step f n z).2.1 = -1 then (if n ≤ (md_step f n z).1 then md_step f n z else md_run f n c (md_step f n z)) else md_step f n z := rfl
theorem md_q7_k {f : Nat → Int32} {n k : Nat} {F : md_F} {b : Nat × Int32} : (md_q7 f n k F b).2.2.1 = k + 1 := rfl
theorem md_q6_k {f : Nat → Int32} {n k : Nat} {kd : Int32} {F : md_F} {b : Nat × Int32} : (md_q6 f n k kd F b).2.2.1 = k + 1 := by
  unfold md_q6
  split
  · rfl
  · rfl
theorem md_q5_k {f : Nat → Int32} {n k : Nat} {kd : Int32} {F : md_F} {b : Nat × Int32} : (md_q5 f n k kd F b).2.2.1 = k + 1 := by
  unfold md_q5
  split
  · exact md_q6_k
  · exact md_q6_k
theorem md_q4_k {f : Nat → Int32} {n k : Nat} {kd : Int32} {F : md_F} {b : Nat × Int32} : (md_q4 f n k kd F b).2.2.1 = k + 1 := by
  unfold md_q4
  split
  · exact md_q5_k
  · exact md_q5_k
theorem md_q1_k {f : Nat → Int32} {n k : Nat} {kd : Int32} {F : md_F} {p : Nat} {wr : Int32} : (md_q1 f n k kd F p wr).2.2.1 = k + 1 := md_q4_k
theorem nI_ne_m1 {p : Nat} (h : p < 2 ^ 31) : ¬ nI p = -1 := fun e => nI_pos h (by rw [e]; decide)
theorem md_step_k {f : Nat → Int32} {n : Nat} {z : md_S} (hz : z.2.2.1 ≤ 24) (hp : z.1 ≤ 300) (hw : z.2.1 = -1) : (md_step f n z).2.2.1 ≤ 24 ∧ ((md_step f n z).2.1 = -1 → (md_step f n z).2.2.1 = z.2.2.1 + 1) := by
  have hm : mo_mark z.2.1 (nI z.1) = nI z.1 := by rw [mo_mark, if_pos hw]
  unfold md_step
  split
  · exact ⟨hz, fun h => absurd (hm.symm.trans h) (nI_ne_m1 (by omega))⟩
  · split
    · exact ⟨hz, fun h => absurd (hm.symm.trans h) (nI_ne_m1 (by omega))⟩
    · rename_i h1 h2
      rw [md_q1_k]
      exact ⟨by omega, fun _ => rfl⟩
theorem it_all {α : Type} {P : α → Prop} {f : Nat → α → α} (h : ∀ k a, P a → P (f k a)) : ∀ (m : Nat) (a : α), P a → P (it f m a)
  | 0, _, h0 => h0
  | m + 1, a, h0 => h m _ (it_all h m a h0)
def mo_01 (L : Nat → Int32) : Prop := ∀ i, i < 576 → L i = 0 ∨ L i = 1
theorem mo_01_up {L : Nat → Int32} (h : mo_01 L) (k : Nat) {x : Int32} (hx : x = 0 ∨ x = 1) : mo_01 (upd L k x) := fun i hi => by
  by_cases e : i = k
  · rw [e, pk_us]; exact hx
  · rw [pk_un e]; exact h i hi
theorem mo_lay_01 {f7 f10 : Nat → Int32} {m : Nat} {L : Nat → Int32} (h : ∀ j, j < 576 → L j = 0) : mo_01 (mo_lay f7 f10 m L) := by
  refine it_all (P := mo_01) (fun o L hL => it_all (P := mo_01) (fun a L hL => it_all (P := mo_01) (fun b L hL => mo_01_up hL _ ?_) _ _ hL) _ _ hL) _ _ ?_
  · unfold mo_v3
    split
    · split
      · exact Or.inl rfl
      · split
        · exact Or.inl rfl
        · exact Or.inr rfl
    · exact Or.inr rfl
  · refine it_all (P := mo_01) (fun a L hL => it_all (P := mo_01) (fun j L hL => ?_) _ _ hL) _ _ (fun i hi => Or.inl (h i hi))
    unfold mo_l2
    split
    · exact hL
    · exact mo_01_up hL _ (Or.inr rfl)
/-- the copied rows are the draft's -/
def md_cp (F : md_F) (m : Nat) (g6 g7 g8 g9 g10 : Nat → Int32) : Prop := ∀ j, j < m → g6 j = F.1 j ∧ g7 j = F.2.1 j ∧ g8 j = F.2.2.1 j ∧ g9 j = F.2.2.2.1 j ∧ g10 (2 * j) = F.2.2.2.2 (2 * j) ∧ g10 (2 * j + 1) = F.2.2.2.2 (2 * j + 1)
theorem md_cp_up {F : md_F} {j : Nat} {g6 g7 g8 g9 g10 : Nat → Int32} (h : md_cp F j g6 g7 g8 g9 g10) : md_cp F (j + 1) (upd g6 j (F.1 j)) (upd g7 j (F.2.1 j)) (upd g8 j (F.2.2.1 j)) (upd g9 j (F.2.2.2.1 j)) (upd (upd g10 (2 * j) (F.2.2.2.2 (2 * j))) (2 * j + 1) (F.2.2.2.2 (2 * j + 1))) := by
  intro i hi
  by_cases e : i = j
  · subst e
    refine ⟨pk_us, pk_us, pk_us, pk_us, ?_, pk_us⟩
    rw [pk_un (by omega), pk_us]
  · obtain ⟨a1, a2, a3, a4, a5, a6⟩ := h i (by omega)
    rw [pk_un e, pk_un e, pk_un e, pk_un e, pk_un (by omega), pk_un (by omega), pk_un (by omega), pk_un (by omega)]
    exact ⟨a1, a2, a3, a4, a5, a6⟩
set_option maxRecDepth 100000 in
set_option maxHeartbeats 4000000 in
theorem c_Mo_read (l : Launch) (g : xG) (b0 : Nat) (ws : va_W) {q h : Nat} {ad : Nat → Nat} {s1 s2 s3 s4 s5 s6 : Int32} {f0 f1 f2 f3 f4 f5 f6 f7 f8 f9 f10 f11 f12 f13 f14 f16 : Nat → Int32} {f15 : Nat → Int64} {n : Nat} (eB : xMo g ws q h ad (nI n) s1 s2 s3 s4 s5 s6 f0 f1 f2 f3 f4 f5 f6 f7 f8 f9 f10 f11 f12 f13 f14 f15 f16) (hn : n ≤ 300) : xMi l g b0 y_Mo_read b_Mo_read 3 (some .int) 4 [.ref h] ws (fun r u => xQ q (q + 18) ws u ∧ (md_run f0 n 25 (0, -1, 0, f1, f2, f3, f4, f5)).1 ≤ n ∧ (md_run f0 n 25 (0, -1, 0, f1, f2, f3, f4, f5)).2.2.1 ≤ 24 ∧ ((¬ (md_run f0 n 25 (0, -1, 0, f1, f2, f3, f4, f5)).2.1 = -1 ∧ r = -1 - (md_run f0 n 25 (0, -1, 0, f1, f2, f3, f4, f5)).2.1 ∧ xMo g u q h ad (nI 0) (nI (md_run f0 n 25 (0, -1, 0, f1, f2, f3, f4, f5)).1) ((md_run f0 n 25 (0, -1, 0, f1, f2, f3, f4, f5)).2.1) (nI (md_run f0 n 25 (0, -1, 0, f1, f2, f3, f4, f5)).2.2.1) s4 s5 s6 f0 ((md_run f0 n 25 (0, -1, 0, f1, f2, f3, f4, f5)).2.2.2.1) ((md_run f0 n 25 (0, -1, 0, f1, f2, f3, f4, f5)).2.2.2.2.1) ((md_run f0 n 25 (0, -1, 0, f1, f2, f3, f4, f5)).2.2.2.2.2.1) ((md_run f0 n 25 (0, -1, 0, f1, f2, f3, f4, f5)).2.2.2.2.2.2.1) ((md_run f0 n 25 (0, -1, 0, f1, f2, f3, f4, f5)).2.2.2.2.2.2.2) f6 f7 f8 f9 f10 f11 f12 f13 f14 f15 f16) ∨ ((md_run f0 n 25 (0, -1, 0, f1, f2, f3, f4, f5)).2.1 = -1 ∧ r = nI (md_run f0 n 25 (0, -1, 0, f1, f2, f3, f4, f5)).2.2.1 ∧ ∃ g6 g7 g8 g9 g10 Lz, md_cp (md_run f0 n 25 (0, -1, 0, f1, f2, f3, f4, f5)).2.2.2 (md_run f0 n 25 (0, -1, 0, f1, f2, f3, f4, f5)).2.2.1 g6 g7 g8 g9 g10 ∧ (∀ j, j < 576 → Lz j = 0) ∧ xMo g u q h ad (nI 0) (nI (md_run f0 n 25 (0, -1, 0, f1, f2, f3, f4, f5)).1) ((md_run f0 n 25 (0, -1, 0, f1, f2, f3, f4, f5)).2.1) (nI (md_run f0 n 25 (0, -1, 0, f1, f2, f3, f4, f5)).2.2.1) (nI (md_run f0 n 25 (0, -1, 0, f1, f2, f3, f4, f5)).2.2.1) (nI (mj_all g6 g7 g8 g10 (mo_lay g7 g10 (md_run f0 n 25 (0, -1, 0, f1, f2, f3, f4, f5)).2.2.1 Lz) (md_run f0 n 25 (0, -1, 0, f1, f2, f3, f4, f5)).2.2.1 (0, f12, f13, f14)).1) s6 f0 ((md_run f0 n 25 (0, -1, 0, f1, f2, f3, f4, f5)).2.2.2.1) ((md_run f0 n 25 (0, -1, 0, f1, f2, f3, f4, f5)).2.2.2.2.1) ((md_run f0 n 25 (0, -1, 0, f1, f2, f3, f4, f5)).2.2.2.2.2.1) ((md_run f0 n 25 (0, -1, 0, f1, f2, f3, f4, f5)).2.2.2.2.2.2.1) ((md_run f0 n 25 (0, -1, 0, f1, f2, f3, f4, f5)).2.2.2.2.2.2.2) g6 g7 g8 g9 g10 (mo_lay g7 g10 (md_run f0 n 25 (0, -1, 0, f1, f2, f3, f4, f5)).2.2.1 Lz) ((mj_all g6 g7 g8 g10 (mo_lay g7 g10 (md_run f0 n 25 (0, -1, 0, f1, f2, f3, f4, f5)).2.2.1 Lz) (md_run f0 n 25 (0, -1, 0, f1, f2, f3, f4, f5)).2.2.1 (0, f12, f13, f14)).2.1) ((mj_all g6 g7 g8 g10 (mo_lay g7 g10 (md_run f0 n 25 (0, -1, 0, f1, f2, f3, f4, f5)).2.2.1 Lz) (md_run f0 n 25 (0, -1, 0, f1, f2, f3, f4, f5)).2.2.1 (0, f12, f13, f14)).2.2.1) ((mj_all g6 g7 g8 g10 (mo_lay g7 g10 (md_run f0 n 25 (0, -1, 0, f1, f2, f3, f4, f5)).2.2.1 Lz) (md_run f0 n 25 (0, -1, 0, f1, f2, f3, f4, f5)).2.2.1 (0, f12, f13, f14)).2.2.2) f15 f16))) := by
  unfold xMi
  refine x_in (by decide) (Nat.le_of_ble_eq_true rfl) ?_
  intro p e s m below meth c ls E hr hin hP hD hl
  obtain ⟨hx, hb, hml, hown, hts, hK, hZ, hb0, hlocks⟩ := id E
  have hS : va_S (xA b0) s.heap s.heap [] := va_S.rf
  have hl : lv_has ls 3 [(0, .ref h)] := hl
  have hQ : xQ q (q + 18) ws ws := xQ.rf
  refine lv_aload_n hx hb d_Mo_read_0 rfl (lv_at hl 0 rfl) ?_
  refine lv_iconst (v := 0) hx hb d_Mo_read_1 (by decide) ?_
  refine x_put E hP hD hS eB.1 rfl cl6_in cl6_ty cl6_nm 2 (by decide) wf_Mo_67 rfl rfl rfl (Nat.le_of_ble_eq_true rfl) d_Mo_read_2 (fun w1 H locs hU1 hP hD hS => ?_)
  have eB : xMo g w1 q h ad (nI n) 0 s2 s3 s4 s5 s6 f0 f1 f2 f3 f4 f5 f6 f7 f8 f9 f10 f11 f12 f13 f14 f15 f16 := eB.t1 hU1
  have hQ := hQ.up hU1 (by omega)
  refine lv_aload_n hx hb d_Mo_read_5 rfl (lv_at hl 0 rfl) ?_
  refine lv_iconst (v := (-1)) hx hb d_Mo_read_6 (by decide) ?_
  refine x_put E hP hD hS eB.1 rfl cl6_in cl6_ty cl6_nm 3 (by decide) wf_Mo_70 rfl rfl rfl (Nat.le_of_ble_eq_true rfl) d_Mo_read_7 (fun w2 H locs hU2 hP hD hS => ?_)
  have eB : xMo g w2 q h ad (nI n) 0 (-1) s3 s4 s5 s6 f0 f1 f2 f3 f4 f5 f6 f7 f8 f9 f10 f11 f12 f13 f14 f15 f16 := eB.t2 hU2
  have hQ := hQ.up hU2 (by omega)
  refine lv_aload_n hx hb d_Mo_read_10 rfl (lv_at hl 0 rfl) ?_
  refine lv_iconst (v := 0) hx hb d_Mo_read_11 (by decide) ?_
  refine x_put E hP hD hS eB.1 rfl cl6_in cl6_ty cl6_nm 4 (by decide) wf_Mo_81 rfl rfl rfl (Nat.le_of_ble_eq_true rfl) d_Mo_read_12 (fun w3 H locs hU3 hP hD hS => ?_)
  have eB : xMo g w3 q h ad (nI n) 0 (-1) 0 s4 s5 s6 f0 f1 f2 f3 f4 f5 f6 f7 f8 f9 f10 f11 f12 f13 f14 f15 f16 := eB.t3 hU3
  have hQ := hQ.up hU3 (by omega)
  refine lv_iconst (v := 1) hx hb d_Mo_read_15 (by decide) ?_
  refine lv_istore_n (lv' := [(1, .int 1), (0, .ref h)]) hx hb d_Mo_read_16 rfl hl (by decide) rfl (fun ls hl => ?_)
  have loop : ∀ (fu i : Nat) (z : md_S) (v1 : va_W) (H : Heap) (locs : List Loc) (ls : Array Slot), (24 < i + fu) → (z.2.2.1 = i) → (i ≤ 24) → (z.2.1 = -1) → (z.1 ≤ n) → (md_run f0 n 25 (0, -1, 0, f1, f2, f3, f4, f5) = md_run f0 n (25 - i) z) → (lv_has ls 3 [(1, .int 1), (0, .ref h)]) → (va_P (xD g) vwCl v1 H) → (va_D (xA b0) v1) → (va_S (xA b0) s.heap H locs) → (xQ q (q + 18) ws v1) → (xMo g v1 q h ad (nI n) (nI z.1) z.2.1 (nI z.2.2.1) s4 s5 s6 f0 z.2.2.2.1 z.2.2.2.2.1 z.2.2.2.2.2.1 z.2.2.2.2.2.2.1 z.2.2.2.2.2.2.2 f6 f7 f8 f9 f10 f11 f12 f13 f14 f15 f16) → W p l e (rmL 4) s m ([.ref h] : List Value).toArray below meth c H locs 0 0 (MQ below (va_Qi (fun r u => xQ q (q + 18) ws u ∧ (md_run f0 n 25 (0, -1, 0, f1, f2, f3, f4, f5)).1 ≤ n ∧ (md_run f0 n 25 (0, -1, 0, f1, f2, f3, f4, f5)).2.2.1 ≤ 24 ∧ ((¬ (md_run f0 n 25 (0, -1, 0, f1, f2, f3, f4, f5)).2.1 = -1 ∧ r = -1 - (md_run f0 n 25 (0, -1, 0, f1, f2, f3, f4, f5)).2.1 ∧ xMo g u q h ad (nI 0) (nI (md_run f0 n 25 (0, -1, 0, f1, f2, f3, f4, f5)).1) ((md_run f0 n 25 (0, -1, 0, f1, f2, f3, f4, f5)).2.1) (nI (md_run f0 n 25 (0, -1, 0, f1, f2, f3, f4, f5)).2.2.1) s4 s5 s6 f0 ((md_run f0 n 25 (0, -1, 0, f1, f2, f3, f4, f5)).2.2.2.1) ((md_run f0 n 25 (0, -1, 0, f1, f2, f3, f4, f5)).2.2.2.2.1) ((md_run f0 n 25 (0, -1, 0, f1, f2, f3, f4, f5)).2.2.2.2.2.1) ((md_run f0 n 25 (0, -1, 0, f1, f2, f3, f4, f5)).2.2.2.2.2.2.1) ((md_run f0 n 25 (0, -1, 0, f1, f2, f3, f4, f5)).2.2.2.2.2.2.2) f6 f7 f8 f9 f10 f11 f12 f13 f14 f15 f16) ∨ ((md_run f0 n 25 (0, -1, 0, f1, f2, f3, f4, f5)).2.1 = -1 ∧ r = nI (md_run f0 n 25 (0, -1, 0, f1, f2, f3, f4, f5)).2.2.1 ∧ ∃ g6 g7 g8 g9 g10 Lz, md_cp (md_run f0 n 25 (0, -1, 0, f1, f2, f3, f4, f5)).2.2.2 (md_run f0 n 25 (0, -1, 0, f1, f2, f3, f4, f5)).2.2.1 g6 g7 g8 g9 g10 ∧ (∀ j, j < 576 → Lz j = 0) ∧ xMo g u q h ad (nI 0) (nI (md_run f0 n 25 (0, -1, 0, f1, f2, f3, f4, f5)).1) ((md_run f0 n 25 (0, -1, 0, f1, f2, f3, f4, f5)).2.1) (nI (md_run f0 n 25 (0, -1, 0, f1, f2, f3, f4, f5)).2.2.1) (nI (md_run f0 n 25 (0, -1, 0, f1, f2, f3, f4, f5)).2.2.1) (nI (mj_all g6 g7 g8 g10 (mo_lay g7 g10 (md_run f0 n 25 (0, -1, 0, f1, f2, f3, f4, f5)).2.2.1 Lz) (md_run f0 n 25 (0, -1, 0, f1, f2, f3, f4, f5)).2.2.1 (0, f12, f13, f14)).1) s6 f0 ((md_run f0 n 25 (0, -1, 0, f1, f2, f3, f4, f5)).2.2.2.1) ((md_run f0 n 25 (0, -1, 0, f1, f2, f3, f4, f5)).2.2.2.2.1) ((md_run f0 n 25 (0, -1, 0, f1, f2, f3, f4, f5)).2.2.2.2.2.1) ((md_run f0 n 25 (0, -1, 0, f1, f2, f3, f4, f5)).2.2.2.2.2.2.1) ((md_run f0 n 25 (0, -1, 0, f1, f2, f3, f4, f5)).2.2.2.2.2.2.2) g6 g7 g8 g9 g10 (mo_lay g7 g10 (md_run f0 n 25 (0, -1, 0, f1, f2, f3, f4, f5)).2.2.1 Lz) ((mj_all g6 g7 g8 g10 (mo_lay g7 g10 (md_run f0 n 25 (0, -1, 0, f1, f2, f3, f4, f5)).2.2.1 Lz) (md_run f0 n 25 (0, -1, 0, f1, f2, f3, f4, f5)).2.2.1 (0, f12, f13, f14)).2.1) ((mj_all g6 g7 g8 g10 (mo_lay g7 g10 (md_run f0 n 25 (0, -1, 0, f1, f2, f3, f4, f5)).2.2.1 Lz) (md_run f0 n 25 (0, -1, 0, f1, f2, f3, f4, f5)).2.2.1 (0, f12, f13, f14)).2.2.1) ((mj_all g6 g7 g8 g10 (mo_lay g7 g10 (md_run f0 n 25 (0, -1, 0, f1, f2, f3, f4, f5)).2.2.1 Lz) (md_run f0 n 25 (0, -1, 0, f1, f2, f3, f4, f5)).2.2.1 (0, f12, f13, f14)).2.2.2) f15 f16))) (fun u t => va_P (xD g) vwCl u t.heap ∧ va_D (xA b0) u) (xA b0)) ([.ref h] : List Value).toArray s 0 0 (xA b0)) (F0 m 17 ls []) := by
    intro fu
    induction fu with
    | zero =>
      intro i z v1 H locs ls hk hzk hzl hzw hzp hv hl hP hD hS hQ eB
      omega
    | succ fu ih =>
      intro i z v1 H locs ls hk hzk hzl hzw hzp hv hl hP hD hS hQ eB
      refine lv_iload_n hx hb d_Mo_read_17 rfl (lv_at hl 0 rfl) ?_
      refine lv_if_eq (tgt := 53) hx hb d_Mo_read_18 (by decide) (fun c18 => absurd c18 (by decide)) (fun c18 => ?_)
      refine lv_aload_n hx hb d_Mo_read_21 rfl (lv_at hl 1 rfl) ?_
      refine x_cVv (As := []) (rest := []) E (c_Mo_readPart l g b0 _ (t := z.1) (k := z.2.2.1) eB hn hzp (by omega)) wy_Mo_readPart wl_Mo_98 hP hD hS eB.1 rfl hl.1 ⟨by decide, by decide⟩ ⟨Nat.le_refl _, Nat.le_refl _⟩ rfl (Nat.le_of_ble_eq_true rfl) d_Mo_read_22 (fun w54 H locs hr22 hP hD hS => ?_)
      obtain ⟨hq, eB, hzp⟩ := hr22
      have hQ := hQ.tr hq
      have hk9 := md_step_k (f := f0) (n := n) (z := z) (by omega) (by omega) hzw
      rw [show 25 - i = (25 - (i + 1)) + 1 by omega, md_run_s z] at hv
      generalize hZ9 : md_step f0 n z = Z at eB hzp hk9 hv
      refine lv_aload_n hx hb d_Mo_read_25 rfl (lv_at hl 1 rfl) ?_
      refine x_get E hP eB.1 rfl cl6_in 3 (by decide) wf_Mo_70 rfl d_Mo_read_26 ?_
      refine lv_iconst (v := (-1)) hx hb d_Mo_read_29 (by decide) ?_
      refine lv_icmp_ne (tgt := 48) hx hb d_Mo_read_30 (by decide) (fun c30 => ?_) (fun c30 => ?_)
      · have hvZ : md_run f0 n 25 (0, -1, 0, f1, f2, f3, f4, f5) = Z := by rw [hv, if_neg c30]
        refine lv_iconst (v := 0) hx hb d_Mo_read_48 (by decide) ?_
        refine lv_istore_n (lv' := [(1, .int 0), (0, .ref h)]) hx hb d_Mo_read_49 rfl hl (by decide) rfl (fun ls hl => ?_)
        refine lv_goto (tgt := 17) hx hb d_Mo_read_50 (by decide) ?_
        refine lv_iload_n hx hb d_Mo_read_17 rfl (lv_at hl 0 rfl) ?_
        refine lv_if_eq (tgt := 53) hx hb d_Mo_read_18 (by decide) (fun c18_1 => ?_) (fun c18_1 => absurd (by decide) c18_1)
        refine lv_aload_n hx hb d_Mo_read_53 rfl (lv_at hl 1 rfl) ?_
        refine lv_iconst (v := 0) hx hb d_Mo_read_54 (by decide) ?_
        refine x_put E hP hD hS eB.1 rfl cl6_in cl6_ty cl6_nm 1 (by decide) wf_Mo_63 rfl rfl rfl (Nat.le_of_ble_eq_true rfl) d_Mo_read_55 (fun w55 H locs hU55 hP hD hS => ?_)
        have eB : xMo g w55 q h ad 0 (nI Z.1) Z.2.1 (nI Z.2.2.1) s4 s5 s6 f0 Z.2.2.2.1 Z.2.2.2.2.1 Z.2.2.2.2.2.1 Z.2.2.2.2.2.2.1 Z.2.2.2.2.2.2.2 f6 f7 f8 f9 f10 f11 f12 f13 f14 f15 f16 := eB.t0 hU55
        have hQ := hQ.up hU55 (by omega)
        refine lv_aload_n hx hb d_Mo_read_58 rfl (lv_at hl 1 rfl) ?_
        refine x_get E hP eB.1 rfl cl6_in 3 (by decide) wf_Mo_70 rfl d_Mo_read_59 ?_
        refine lv_iconst (v := (-1)) hx hb d_Mo_read_62 (by decide) ?_
        refine lv_icmp_eq (tgt := 73) hx hb d_Mo_read_63 (by decide) (fun c63 => absurd c63 c30) (fun c63 => ?_)
        refine lv_iconst (v := (-1)) hx hb d_Mo_read_66 (by decide) ?_
        refine lv_aload_n hx hb d_Mo_read_67 rfl (lv_at hl 1 rfl) ?_
        refine x_get E hP eB.1 rfl cl6_in 3 (by decide) wf_Mo_70 rfl d_Mo_read_68 ?_
        refine lv_isub hx hb d_Mo_read_71 ?_
        refine x_ri E hr hS ⟨hQ, ?_⟩ hP hD d_Mo_read_72
        rw [hvZ]
        exact ⟨hzp, hk9.1, Or.inl ⟨c30, rfl, eB⟩⟩
      · refine lv_aload_n hx hb d_Mo_read_33 rfl (lv_at hl 1 rfl) ?_
        refine x_get E hP eB.1 rfl cl6_in 2 (by decide) wf_Mo_67 rfl d_Mo_read_34 ?_
        refine lv_aload_n hx hb d_Mo_read_37 rfl (lv_at hl 1 rfl) ?_
        refine x_get E hP eB.1 rfl cl6_in 1 (by decide) wf_Mo_63 rfl d_Mo_read_38 ?_
        refine lv_icmp_ge (tgt := 48) hx hb d_Mo_read_41 (by decide) (fun c41 => ?_) (fun c41 => ?_)
        · have h41 : n ≤ Z.1 := (nI_leI (by omega) (by omega)).mp c41
          have hvZ : md_run f0 n 25 (0, -1, 0, f1, f2, f3, f4, f5) = Z := by rw [hv, if_pos c30, if_pos h41]
          refine lv_iconst (v := 0) hx hb d_Mo_read_48 (by decide) ?_
          refine lv_istore_n (lv' := [(1, .int 0), (0, .ref h)]) hx hb d_Mo_read_49 rfl hl (by decide) rfl (fun ls hl => ?_)
          refine lv_goto (tgt := 17) hx hb d_Mo_read_50 (by decide) ?_
          refine lv_iload_n hx hb d_Mo_read_17 rfl (lv_at hl 0 rfl) ?_
          refine lv_if_eq (tgt := 53) hx hb d_Mo_read_18 (by decide) (fun c18_2 => ?_) (fun c18_2 => absurd (by decide) c18_2)
          refine lv_aload_n hx hb d_Mo_read_53 rfl (lv_at hl 1 rfl) ?_
          refine lv_iconst (v := 0) hx hb d_Mo_read_54 (by decide) ?_
          refine x_put E hP hD hS eB.1 rfl cl6_in cl6_ty cl6_nm 1 (by decide) wf_Mo_63 rfl rfl rfl (Nat.le_of_ble_eq_true rfl) d_Mo_read_55 (fun w55 H locs hU55 hP hD hS => ?_)
          have eB : xMo g w55 q h ad 0 (nI Z.1) Z.2.1 (nI Z.2.2.1) s4 s5 s6 f0 Z.2.2.2.1 Z.2.2.2.2.1 Z.2.2.2.2.2.1 Z.2.2.2.2.2.2.1 Z.2.2.2.2.2.2.2 f6 f7 f8 f9 f10 f11 f12 f13 f14 f15 f16 := eB.t0 hU55
          have hQ := hQ.up hU55 (by omega)
          refine lv_aload_n hx hb d_Mo_read_58 rfl (lv_at hl 1 rfl) ?_
          refine x_get E hP eB.1 rfl cl6_in 3 (by decide) wf_Mo_70 rfl d_Mo_read_59 ?_
          refine lv_iconst (v := (-1)) hx hb d_Mo_read_62 (by decide) ?_
          refine lv_icmp_eq (tgt := 73) hx hb d_Mo_read_63 (by decide) (fun c63 => ?_) (fun c63 => absurd c30 c63)
          refine lv_aload_n hx hb d_Mo_read_73 rfl (lv_at hl 1 rfl) ?_
          refine lv_aload_n hx hb d_Mo_read_74 rfl (lv_at hl 1 rfl) ?_
          refine x_get E hP eB.1 rfl cl6_in 4 (by decide) wf_Mo_81 rfl d_Mo_read_75 ?_
          refine x_put E hP hD hS eB.1 rfl cl6_in cl6_ty cl6_nm 10 (by decide) wf_Mo_101 rfl rfl rfl (Nat.le_of_ble_eq_true rfl) d_Mo_read_78 (fun w56 H locs hU56 hP hD hS => ?_)
          have eB : xMo g w56 q h ad 0 (nI Z.1) Z.2.1 (nI Z.2.2.1) (nI Z.2.2.1) s5 s6 f0 Z.2.2.2.1 Z.2.2.2.2.1 Z.2.2.2.2.2.1 Z.2.2.2.2.2.2.1 Z.2.2.2.2.2.2.2 f6 f7 f8 f9 f10 f11 f12 f13 f14 f15 f16 := eB.t4 hU56
          have hQ := hQ.up hU56 (by omega)
          refine lv_iconst (v := 0) hx hb d_Mo_read_81 (by decide) ?_
          refine lv_istore_n (lv' := [(2, .int 0), (1, .int 0), (0, .ref h)]) hx hb d_Mo_read_82 rfl hl (by decide) rfl (fun ls hl => ?_)
          have copy : ∀ (fv j : Nat) (g6 : Nat → Int32) (g7 : Nat → Int32) (g8 : Nat → Int32) (g9 : Nat → Int32) (g10 : Nat → Int32) (v2 : va_W) (H : Heap) (locs : List Loc) (ls : Array Slot), (Z.2.2.1 < j + fv) → (j ≤ Z.2.2.1) → (md_cp Z.2.2.2 j g6 g7 g8 g9 g10) → (lv_has ls 3 [(2, .int (nI j)), (1, .int 0), (0, .ref h)]) → (va_P (xD g) vwCl v2 H) → (va_D (xA b0) v2) → (va_S (xA b0) s.heap H locs) → (xQ q (q + 18) ws v2) → (xMo g v2 q h ad 0 (nI Z.1) Z.2.1 (nI Z.2.2.1) (nI Z.2.2.1) s5 s6 f0 Z.2.2.2.1 Z.2.2.2.2.1 Z.2.2.2.2.2.1 Z.2.2.2.2.2.2.1 Z.2.2.2.2.2.2.2 g6 g7 g8 g9 g10 f11 f12 f13 f14 f15 f16) → W p l e (rmL 4) s m ([.ref h] : List Value).toArray below meth c H locs 0 0 (MQ below (va_Qi (fun r u => xQ q (q + 18) ws u ∧ (md_run f0 n 25 (0, -1, 0, f1, f2, f3, f4, f5)).1 ≤ n ∧ (md_run f0 n 25 (0, -1, 0, f1, f2, f3, f4, f5)).2.2.1 ≤ 24 ∧ ((¬ (md_run f0 n 25 (0, -1, 0, f1, f2, f3, f4, f5)).2.1 = -1 ∧ r = -1 - (md_run f0 n 25 (0, -1, 0, f1, f2, f3, f4, f5)).2.1 ∧ xMo g u q h ad (nI 0) (nI (md_run f0 n 25 (0, -1, 0, f1, f2, f3, f4, f5)).1) ((md_run f0 n 25 (0, -1, 0, f1, f2, f3, f4, f5)).2.1) (nI (md_run f0 n 25 (0, -1, 0, f1, f2, f3, f4, f5)).2.2.1) s4 s5 s6 f0 ((md_run f0 n 25 (0, -1, 0, f1, f2, f3, f4, f5)).2.2.2.1) ((md_run f0 n 25 (0, -1, 0, f1, f2, f3, f4, f5)).2.2.2.2.1) ((md_run f0 n 25 (0, -1, 0, f1, f2, f3, f4, f5)).2.2.2.2.2.1) ((md_run f0 n 25 (0, -1, 0, f1, f2, f3, f4, f5)).2.2.2.2.2.2.1) ((md_run f0 n 25 (0, -1, 0, f1, f2, f3, f4, f5)).2.2.2.2.2.2.2) f6 f7 f8 f9 f10 f11 f12 f13 f14 f15 f16) ∨ ((md_run f0 n 25 (0, -1, 0, f1, f2, f3, f4, f5)).2.1 = -1 ∧ r = nI (md_run f0 n 25 (0, -1, 0, f1, f2, f3, f4, f5)).2.2.1 ∧ ∃ g6 g7 g8 g9 g10 Lz, md_cp (md_run f0 n 25 (0, -1, 0, f1, f2, f3, f4, f5)).2.2.2 (md_run f0 n 25 (0, -1, 0, f1, f2, f3, f4, f5)).2.2.1 g6 g7 g8 g9 g10 ∧ (∀ j, j < 576 → Lz j = 0) ∧ xMo g u q h ad (nI 0) (nI (md_run f0 n 25 (0, -1, 0, f1, f2, f3, f4, f5)).1) ((md_run f0 n 25 (0, -1, 0, f1, f2, f3, f4, f5)).2.1) (nI (md_run f0 n 25 (0, -1, 0, f1, f2, f3, f4, f5)).2.2.1) (nI (md_run f0 n 25 (0, -1, 0, f1, f2, f3, f4, f5)).2.2.1) (nI (mj_all g6 g7 g8 g10 (mo_lay g7 g10 (md_run f0 n 25 (0, -1, 0, f1, f2, f3, f4, f5)).2.2.1 Lz) (md_run f0 n 25 (0, -1, 0, f1, f2, f3, f4, f5)).2.2.1 (0, f12, f13, f14)).1) s6 f0 ((md_run f0 n 25 (0, -1, 0, f1, f2, f3, f4, f5)).2.2.2.1) ((md_run f0 n 25 (0, -1, 0, f1, f2, f3, f4, f5)).2.2.2.2.1) ((md_run f0 n 25 (0, -1, 0, f1, f2, f3, f4, f5)).2.2.2.2.2.1) ((md_run f0 n 25 (0, -1, 0, f1, f2, f3, f4, f5)).2.2.2.2.2.2.1) ((md_run f0 n 25 (0, -1, 0, f1, f2, f3, f4, f5)).2.2.2.2.2.2.2) g6 g7 g8 g9 g10 (mo_lay g7 g10 (md_run f0 n 25 (0, -1, 0, f1, f2, f3, f4, f5)).2.2.1 Lz) ((mj_all g6 g7 g8 g10 (mo_lay g7 g10 (md_run f0 n 25 (0, -1, 0, f1, f2, f3, f4, f5)).2.2.1 Lz) (md_run f0 n 25 (0, -1, 0, f1, f2, f3, f4, f5)).2.2.1 (0, f12, f13, f14)).2.1) ((mj_all g6 g7 g8 g10 (mo_lay g7 g10 (md_run f0 n 25 (0, -1, 0, f1, f2, f3, f4, f5)).2.2.1 Lz) (md_run f0 n 25 (0, -1, 0, f1, f2, f3, f4, f5)).2.2.1 (0, f12, f13, f14)).2.2.1) ((mj_all g6 g7 g8 g10 (mo_lay g7 g10 (md_run f0 n 25 (0, -1, 0, f1, f2, f3, f4, f5)).2.2.1 Lz) (md_run f0 n 25 (0, -1, 0, f1, f2, f3, f4, f5)).2.2.1 (0, f12, f13, f14)).2.2.2) f15 f16))) (fun u t => va_P (xD g) vwCl u t.heap ∧ va_D (xA b0) u) (xA b0)) ([.ref h] : List Value).toArray s 0 0 (xA b0)) (F0 m 83 ls []) := by
            intro fv
            induction fv with
            | zero =>
              intro j g6 g7 g8 g9 g10 v2 H locs ls hk hj hc hl hP hD hS hQ eB
              omega
            | succ fv ih2 =>
              intro j g6 g7 g8 g9 g10 v2 H locs ls hk hj hc hl hP hD hS hQ eB
              refine lv_iload_n hx hb d_Mo_read_83 rfl (lv_at hl 0 rfl) ?_
              refine lv_aload_n hx hb d_Mo_read_84 rfl (lv_at hl 2 rfl) ?_
              refine x_get E hP eB.1 rfl cl6_in 10 (by decide) wf_Mo_101 rfl d_Mo_read_85 ?_
              refine lv_icmp_ge (tgt := 181) hx hb d_Mo_read_88 (by decide) (fun c88 => ?_) (fun c88 => ?_)
              · have hj9 : j = Z.2.2.1 := by
                  have := (nI_leI (by omega) (by omega)).mp c88
                  omega
                rw [hj9] at hc
                refine lv_aload_n hx hb d_Mo_read_181 rfl (lv_at hl 2 rfl) ?_
                refine x_cVv (As := []) (rest := []) E (c_Mo_lay l g b0 _ eB hk9.1) wy_Mo_lay wl_Mo_104 hP hD hS eB.1 rfl hl.1 ⟨by decide, by decide⟩ ⟨Nat.le_refl _, Nat.le_refl _⟩ rfl (Nat.le_of_ble_eq_true rfl) d_Mo_read_182 (fun w107 H locs hr182 hP hD hS => ?_)
                obtain ⟨hq, Lz, hLz, eB⟩ := hr182
                have hQ := hQ.tr hq
                refine lv_aload_n hx hb d_Mo_read_185 rfl (lv_at hl 2 rfl) ?_
                refine x_cVv (As := []) (rest := []) E (c_Mo_judge l g b0 _ eB hk9.1 (mo_lay_01 hLz)) wy_Mo_judge wl_Mo_107 hP hD hS eB.1 rfl hl.1 ⟨by decide, by decide⟩ ⟨Nat.le_refl _, Nat.le_refl _⟩ rfl (Nat.le_of_ble_eq_true rfl) d_Mo_read_186 (fun w108 H locs hr186 hP hD hS => ?_)
                obtain ⟨hq, eB⟩ := hr186
                have hQ := hQ.tr hq
                refine lv_aload_n hx hb d_Mo_read_189 rfl (lv_at hl 2 rfl) ?_
                refine x_get E hP eB.1 rfl cl6_in 10 (by decide) wf_Mo_101 rfl d_Mo_read_190 ?_
                refine x_ri E hr hS ⟨hQ, ?_⟩ hP hD d_Mo_read_193
                rw [hvZ]
                exact ⟨hzp, hk9.1, Or.inr ⟨c30, rfl, g6, g7, g8, g9, g10, Lz, hc, hLz, eB⟩⟩
              · have hj9 : j < Z.2.2.1 := Nat.not_le.mp fun h => c88 (nI_le h (by omega))
                refine lv_aload_n hx hb d_Mo_read_91 rfl (lv_at hl 2 rfl) ?_
                refine x_get E hP eB.1 rfl cl6_in 11 (by decide) wf_Mo_28 rfl d_Mo_read_92 ?_
                refine lv_iload_n hx hb d_Mo_read_95 rfl (lv_at hl 0 rfl) ?_
                refine lv_aload_n hx hb d_Mo_read_96 rfl (lv_at hl 2 rfl) ?_
                refine x_get E hP eB.1 rfl cl6_in 5 (by decide) wf_Mo_13 rfl d_Mo_read_97 ?_
                refine lv_iload_n hx hb d_Mo_read_100 rfl (lv_at hl 0 rfl) ?_
                refine x_iald E hP eB.2.2.1 (j := j) rfl (by omega) (by decide) d_Mo_read_101 ?_
                refine x_iast E hP hD hS eB.2.2.2.2.2.2.2.1 (j := j) rfl (by omega) (by decide) d_Mo_read_102 (fun w107 H locs hU107 hP hD hS => ?_)
                have eB : xMo g w107 q h ad 0 (nI Z.1) Z.2.1 (nI Z.2.2.1) (nI Z.2.2.1) s5 s6 f0 Z.2.2.2.1 Z.2.2.2.2.1 Z.2.2.2.2.2.1 Z.2.2.2.2.2.2.1 Z.2.2.2.2.2.2.2 (upd g6 j (Z.2.2.2.1 j)) g7 g8 g9 g10 f11 f12 f13 f14 f15 f16 := eB.a6 hU107
                have hQ := hQ.up hU107 (by omega)
                refine lv_aload_n hx hb d_Mo_read_103 rfl (lv_at hl 2 rfl) ?_
                refine x_get E hP eB.1 rfl cl6_in 12 (by decide) wf_Mo_31 rfl d_Mo_read_104 ?_
                refine lv_iload_n hx hb d_Mo_read_107 rfl (lv_at hl 0 rfl) ?_
                refine lv_aload_n hx hb d_Mo_read_108 rfl (lv_at hl 2 rfl) ?_
                refine x_get E hP eB.1 rfl cl6_in 6 (by decide) wf_Mo_16 rfl d_Mo_read_109 ?_
                refine lv_iload_n hx hb d_Mo_read_112 rfl (lv_at hl 0 rfl) ?_
                refine x_iald E hP eB.2.2.2.1 (j := j) rfl (by omega) (by decide) d_Mo_read_113 ?_
                refine x_iast E hP hD hS eB.2.2.2.2.2.2.2.2.1 (j := j) rfl (by omega) (by decide) d_Mo_read_114 (fun w108 H locs hU108 hP hD hS => ?_)
                have eB : xMo g w108 q h ad 0 (nI Z.1) Z.2.1 (nI Z.2.2.1) (nI Z.2.2.1) s5 s6 f0 Z.2.2.2.1 Z.2.2.2.2.1 Z.2.2.2.2.2.1 Z.2.2.2.2.2.2.1 Z.2.2.2.2.2.2.2 (upd g6 j (Z.2.2.2.1 j)) (upd g7 j (Z.2.2.2.2.1 j)) g8 g9 g10 f11 f12 f13 f14 f15 f16 := eB.a7 hU108
                have hQ := hQ.up hU108 (by omega)
                refine lv_aload_n hx hb d_Mo_read_115 rfl (lv_at hl 2 rfl) ?_
                refine x_get E hP eB.1 rfl cl6_in 13 (by decide) wf_Mo_34 rfl d_Mo_read_116 ?_
                refine lv_iload_n hx hb d_Mo_read_119 rfl (lv_at hl 0 rfl) ?_
                refine lv_aload_n hx hb d_Mo_read_120 rfl (lv_at hl 2 rfl) ?_
                refine x_get E hP eB.1 rfl cl6_in 7 (by decide) wf_Mo_19 rfl d_Mo_read_121 ?_
                refine lv_iload_n hx hb d_Mo_read_124 rfl (lv_at hl 0 rfl) ?_
                refine x_iald E hP eB.2.2.2.2.1 (j := j) rfl (by omega) (by decide) d_Mo_read_125 ?_
                refine x_iast E hP hD hS eB.2.2.2.2.2.2.2.2.2.1 (j := j) rfl (by omega) (by decide) d_Mo_read_126 (fun w109 H locs hU109 hP hD hS => ?_)
                have eB : xMo g w109 q h ad 0 (nI Z.1) Z.2.1 (nI Z.2.2.1) (nI Z.2.2.1) s5 s6 f0 Z.2.2.2.1 Z.2.2.2.2.1 Z.2.2.2.2.2.1 Z.2.2.2.2.2.2.1 Z.2.2.2.2.2.2.2 (upd g6 j (Z.2.2.2.1 j)) (upd g7 j (Z.2.2.2.2.1 j)) (upd g8 j (Z.2.2.2.2.2.1 j)) g9 g10 f11 f12 f13 f14 f15 f16 := eB.a8 hU109
                have hQ := hQ.up hU109 (by omega)
                refine lv_aload_n hx hb d_Mo_read_127 rfl (lv_at hl 2 rfl) ?_
                refine x_get E hP eB.1 rfl cl6_in 14 (by decide) wf_Mo_37 rfl d_Mo_read_128 ?_
                refine lv_iload_n hx hb d_Mo_read_131 rfl (lv_at hl 0 rfl) ?_
                refine lv_aload_n hx hb d_Mo_read_132 rfl (lv_at hl 2 rfl) ?_
                refine x_get E hP eB.1 rfl cl6_in 8 (by decide) wf_Mo_22 rfl d_Mo_read_133 ?_
                refine lv_iload_n hx hb d_Mo_read_136 rfl (lv_at hl 0 rfl) ?_
                refine x_iald E hP eB.2.2.2.2.2.1 (j := j) rfl (by omega) (by decide) d_Mo_read_137 ?_
                refine x_iast E hP hD hS eB.2.2.2.2.2.2.2.2.2.2.1 (j := j) rfl (by omega) (by decide) d_Mo_read_138 (fun w110 H locs hU110 hP hD hS => ?_)
                have eB : xMo g w110 q h ad 0 (nI Z.1) Z.2.1 (nI Z.2.2.1) (nI Z.2.2.1) s5 s6 f0 Z.2.2.2.1 Z.2.2.2.2.1 Z.2.2.2.2.2.1 Z.2.2.2.2.2.2.1 Z.2.2.2.2.2.2.2 (upd g6 j (Z.2.2.2.1 j)) (upd g7 j (Z.2.2.2.2.1 j)) (upd g8 j (Z.2.2.2.2.2.1 j)) (upd g9 j (Z.2.2.2.2.2.2.1 j)) g10 f11 f12 f13 f14 f15 f16 := eB.a9 hU110
                have hQ := hQ.up hU110 (by omega)
                refine lv_aload_n hx hb d_Mo_read_139 rfl (lv_at hl 2 rfl) ?_
                refine x_get E hP eB.1 rfl cl6_in 15 (by decide) wf_Mo_40 rfl d_Mo_read_140 ?_
                refine lv_iconst (v := 2) hx hb d_Mo_read_143 (by decide) ?_
                refine lv_iload_n hx hb d_Mo_read_144 rfl (lv_at hl 0 rfl) ?_
                refine lv_imul hx hb d_Mo_read_145 ?_
                refine x_top (y := nI (2 * j)) (pk_mul 2 j) ?_
                refine lv_aload_n hx hb d_Mo_read_146 rfl (lv_at hl 2 rfl) ?_
                refine x_get E hP eB.1 rfl cl6_in 9 (by decide) wf_Mo_25 rfl d_Mo_read_147 ?_
                refine lv_iconst (v := 2) hx hb d_Mo_read_150 (by decide) ?_
                refine lv_iload_n hx hb d_Mo_read_151 rfl (lv_at hl 0 rfl) ?_
                refine lv_imul hx hb d_Mo_read_152 ?_
                refine x_top (y := nI (2 * j)) (pk_mul 2 j) ?_
                refine x_iald E hP eB.2.2.2.2.2.2.1 (j := 2 * j) rfl (by omega) (by decide) d_Mo_read_153 ?_
                refine x_iast E hP hD hS eB.2.2.2.2.2.2.2.2.2.2.2.1 (j := 2 * j) rfl (by omega) (by decide) d_Mo_read_154 (fun w111 H locs hU111 hP hD hS => ?_)
                have eB : xMo g w111 q h ad 0 (nI Z.1) Z.2.1 (nI Z.2.2.1) (nI Z.2.2.1) s5 s6 f0 Z.2.2.2.1 Z.2.2.2.2.1 Z.2.2.2.2.2.1 Z.2.2.2.2.2.2.1 Z.2.2.2.2.2.2.2 (upd g6 j (Z.2.2.2.1 j)) (upd g7 j (Z.2.2.2.2.1 j)) (upd g8 j (Z.2.2.2.2.2.1 j)) (upd g9 j (Z.2.2.2.2.2.2.1 j)) (upd g10 (2 * j) (Z.2.2.2.2.2.2.2 (2 * j))) f11 f12 f13 f14 f15 f16 := eB.a10 hU111
                have hQ := hQ.up hU111 (by omega)
                refine lv_aload_n hx hb d_Mo_read_155 rfl (lv_at hl 2 rfl) ?_
                refine x_get E hP eB.1 rfl cl6_in 15 (by decide) wf_Mo_40 rfl d_Mo_read_156 ?_
                refine lv_iconst (v := 2) hx hb d_Mo_read_159 (by decide) ?_
                refine lv_iload_n hx hb d_Mo_read_160 rfl (lv_at hl 0 rfl) ?_
                refine lv_imul hx hb d_Mo_read_161 ?_
                refine x_top (y := nI (2 * j)) (pk_mul 2 j) ?_
                refine lv_iconst (v := 1) hx hb d_Mo_read_162 (by decide) ?_
                refine lv_iadd hx hb d_Mo_read_163 ?_
                refine x_top (y := nI (2 * j + 1)) (nI_1 (2 * j)) ?_
                refine lv_aload_n hx hb d_Mo_read_164 rfl (lv_at hl 2 rfl) ?_
                refine x_get E hP eB.1 rfl cl6_in 9 (by decide) wf_Mo_25 rfl d_Mo_read_165 ?_
                refine lv_iconst (v := 2) hx hb d_Mo_read_168 (by decide) ?_
                refine lv_iload_n hx hb d_Mo_read_169 rfl (lv_at hl 0 rfl) ?_
                refine lv_imul hx hb d_Mo_read_170 ?_
                refine x_top (y := nI (2 * j)) (pk_mul 2 j) ?_
                refine lv_iconst (v := 1) hx hb d_Mo_read_171 (by decide) ?_
                refine lv_iadd hx hb d_Mo_read_172 ?_
                refine x_top (y := nI (2 * j + 1)) (nI_1 (2 * j)) ?_
                refine x_iald E hP eB.2.2.2.2.2.2.1 (j := 2 * j + 1) rfl (by omega) (by decide) d_Mo_read_173 ?_
                refine x_iast E hP hD hS eB.2.2.2.2.2.2.2.2.2.2.2.1 (j := 2 * j + 1) rfl (by omega) (by decide) d_Mo_read_174 (fun w112 H locs hU112 hP hD hS => ?_)
                have eB : xMo g w112 q h ad 0 (nI Z.1) Z.2.1 (nI Z.2.2.1) (nI Z.2.2.1) s5 s6 f0 Z.2.2.2.1 Z.2.2.2.2.1 Z.2.2.2.2.2.1 Z.2.2.2.2.2.2.1 Z.2.2.2.2.2.2.2 (upd g6 j (Z.2.2.2.1 j)) (upd g7 j (Z.2.2.2.2.1 j)) (upd g8 j (Z.2.2.2.2.2.1 j)) (upd g9 j (Z.2.2.2.2.2.2.1 j)) (upd (upd g10 (2 * j) (Z.2.2.2.2.2.2.2 (2 * j))) (2 * j + 1) (Z.2.2.2.2.2.2.2 (2 * j + 1))) f11 f12 f13 f14 f15 f16 := eB.a10 hU112
                have hQ := hQ.up hU112 (by omega)
                refine lv_iinc (v := nI (j + 1)) (lv' := [(2, .int (nI (j + 1))), (1, .int 0), (0, .ref h)]) hx hb d_Mo_read_175 hl (k := 0) rfl (nI_1 j) (by decide) rfl (fun ls hl => ?_)
                refine lv_goto (tgt := 83) hx hb d_Mo_read_178 (by decide) ?_
                exact ih2 (j + 1) (upd g6 j (Z.2.2.2.1 j)) (upd g7 j (Z.2.2.2.2.1 j)) (upd g8 j (Z.2.2.2.2.2.1 j)) (upd g9 j (Z.2.2.2.2.2.2.1 j)) (upd (upd g10 (2 * j) (Z.2.2.2.2.2.2.2 (2 * j))) (2 * j + 1) (Z.2.2.2.2.2.2.2 (2 * j + 1))) _ _ _ _ (by omega) (by omega) (md_cp_up hc) hl hP hD hS hQ eB
          exact copy (Z.2.2.1 + 1) 0 f6 f7 f8 f9 f10 _ _ _ _ (by omega) (by omega) (fun j hj => absurd hj (Nat.not_lt_zero j)) hl hP hD hS hQ eB
        · have h41 : ¬ n ≤ Z.1 := fun h => c41 (nI_le h (by omega))
          have hk8 := hk9.2 c30
          refine lv_iconst (v := 1) hx hb d_Mo_read_44 (by decide) ?_
          refine lv_goto (tgt := 49) hx hb d_Mo_read_45 (by decide) ?_
          refine lv_istore_n (lv' := [(1, .int 1), (0, .ref h)]) hx hb d_Mo_read_49 rfl hl (by decide) rfl (fun ls hl => ?_)
          refine lv_goto (tgt := 17) hx hb d_Mo_read_50 (by decide) ?_
          exact ih (i + 1) Z _ _ _ _ (by omega) (by omega) (by omega) c30 hzp (by rw [hv, if_pos c30, if_neg h41]) hl hP hD hS hQ eB
  exact loop 25 0 (0, -1, 0, f1, f2, f3, f4, f5) _ _ _ _ (by omega) rfl (by omega) rfl (Nat.zero_le _) rfl hl hP hD hS hQ eB
