/-! what both sides keep, and that every call answers alike -/
def Inv (σ : cl_S) (n m k np : Nat) (f0 f6 f7 f8 f9 f10 f11 f12 f13 f14 f16 : Nat → Int32) : Prop :=
  (σ.1.2 = n ∧ n ≤ 300 ∧ tx_R σ.1.1 f0 n) ∧ (txS σ.2.1 (f16, np) np ∧ np ≤ 300) ∧
  (σ.2.2.2.2.2.1.2.2 = m ∧ m ≤ 24 ∧ mk_ok f6 f7 f8 f9 f10 m ∧ mk_eq σ.2.2.2.2.2.1.1 f6 f7 f8 f9 f10 m ∧ mk_ix σ.2.2.2.2.2.1.2.1 f7 m ∧ sl (f6, f7, f8, f9, f10) m ≤ 300) ∧
  fw_I (ge f7 f10 m) (gt f6 f8 f9 m) m m σ.2.2.2.1 f11 ∧ (fR σ.2.2.2.2.1 (k, f12, f13, f14) ∧ k ≤ 288 ∧ (m = 0 → k = 0))
theorem fw_TL {e : Nat → Nat → Prop} {t : Nat → Nat} {m k : Nat} {T : Nat → Nat → Int32} {L : Nat → Int32} (h : fw_I e t m k T L) : TL T L m := fun i j hi hj => (h i j hi hj).2.2
section IV
variable {σ : cl_S} {n m k np : Nat} {f0 f6 f7 f8 f9 f10 f11 f12 f13 f14 f16 : Nat → Int32}
theorem iv_ix {ix : Nat → Int32} (hm : m ≤ 24) (hok : mk_ok f6 f7 f8 f9 f10 m) (hx : mk_ix ix f7 m) (x : Int32) : mc_ix ix x = mo_find f7 m x := by
  by_cases h0 : x < 0
  · rw [mc_ix, if_pos h0]
    refine (find_none (fun b hb q => ?_)).symm
    obtain ⟨kd, nm, nu, -, -, h1, h2, -⟩ := hok b hb
    rw [← q, h2] at h0
    exact nI_pos (by omega) h0
  · by_cases h1 : x < 30
    · obtain ⟨j, hj, e⟩ := x_ixl (n := 30) (by decide) h0 h1
      rw [mc_ix, if_neg h0, if_pos h1, e, nI_clamp (by omega)]
      exact hx j hj
    · rw [mc_ix, if_neg h0, if_neg h1]
      refine (find_none (fun b hb q => ?_)).symm
      obtain ⟨kd, nm, nu, -, -, h3, h2, -⟩ := hok b hb
      rw [← q, h2] at h1
      exact h1 (nI_lt (b := 30) h3 (by decide))
theorem iv_part (h : Inv σ n m k np f0 f6 f7 f8 f9 f10 f11 f12 f13 f14 f16) (i w : Int32) : cl_part σ i w = mo_part f6 f7 f8 f9 f10 m i w := by
  obtain ⟨-, -, ⟨h1, h2, h3, h4, h5, -⟩, -, -⟩ := h
  rw [cl_part, mo_part, h1]
  by_cases a : w < 0
  · rw [if_pos a, if_pos a]
  · rw [if_neg a, if_neg a]
    by_cases b : w ≤ 5
    · rw [if_pos b, if_pos (Int32.lt_of_le_of_lt b (by decide))]
      obtain ⟨j, hj, e⟩ := nI_of2 (x := w) (M := 5) (n := 5) (by decide) a b
      by_cases c1 : i < 0
      · rw [mc_val, if_pos c1, if_pos c1]
      · rw [if_neg c1]
        by_cases c2 : i < nI m
        · rw [if_pos c2]
          obtain ⟨t, ht, et⟩ := x_ixl (n := m) (by omega) c1 c2
          rw [et, e, mv_c h2 ht (by omega), nI_clamp (by omega)]
          obtain ⟨a0, a1, a2, a3, a4, a5⟩ := h4 t ht
          obtain rfl | rfl | rfl | rfl | rfl | rfl : j = 0 ∨ j = 1 ∨ j = 2 ∨ j = 3 ∨ j = 4 ∨ j = 5 := by omega
          · rw [if_pos (by decide)]; exact a0
          · rw [if_neg (by decide), if_pos (by decide)]; exact a1
          · rw [if_neg (by decide), if_neg (by decide), if_pos (by decide)]; exact a2
          · rw [if_neg (by decide), if_neg (by decide), if_neg (by decide), if_pos (by decide)]; exact a3
          · rw [if_neg (by decide), if_neg (by decide), if_neg (by decide), if_neg (by decide), nI_clamp (by omega)]; exact a4
          · rw [if_neg (by decide), if_neg (by decide), if_neg (by decide), if_neg (by decide), nI_clamp (by omega)]; exact a5
        · rw [if_neg c2, mc_val, if_neg c1, if_pos (Int32.not_lt.mp c2)]
    · have b' : ¬ w < 6 := fun q => by
        obtain ⟨j, hj, e⟩ := x_ixl (n := 6) (by decide) a q
        exact b (by rw [e]; exact nI_le (b := 5) (by omega) (by decide))
      rw [if_neg b, if_neg b']
theorem iv_check (h : Inv σ n m k np f0 f6 f7 f8 f9 f10 f11 f12 f13 f14 f16) : cl_check σ = if nI m = 0 then -1 else nI k := by
  obtain ⟨-, -, ⟨h1, -⟩, -, ⟨⟨h2, -⟩, -⟩⟩ := h
  rw [cl_check, h1, h2]
theorem iv_fault (h : Inv σ n m k np f0 f6 f7 f8 f9 f10 f11 f12 f13 f14 f16) (i w : Int32) : cl_fault σ i w = mo_fault f12 f13 f14 m k i w := by
  obtain ⟨-, -, ⟨-, hm, -⟩, -, ⟨⟨h1, h2⟩, h3, h4⟩⟩ := h
  have h1 : σ.2.2.2.2.1.2 = k := h1
  rw [cl_fault, mo_fault, h1]
  by_cases a : w < 0
  · rw [if_pos a, if_pos a]
  · rw [if_neg a, if_neg a]
    by_cases b : w ≤ 2
    · rw [if_pos b, if_pos (Int32.lt_of_le_of_lt b (by decide))]
      obtain ⟨j, hj, e⟩ := nI_of2 (x := w) (M := 2) (n := 2) (by decide) a b
      by_cases c1 : i < 0
      · rw [fl_val, if_pos c1, if_pos c1]
      · by_cases c2 : nI k ≤ i
        · rw [fl_val, if_neg c1, if_neg c1, if_pos c2, if_pos c2]
        · obtain ⟨t, ht, et⟩ := x_ix (n := k) (by omega) c1 c2
          have hm0 : ¬ nI m = 0 := fun q => by
            have : m = 0 := (nI_eq (b := 0) (by omega) (by decide)).mp q
            have := h4 this
            omega
          rw [fl_val, if_neg c1, if_neg c1, if_neg c2, if_neg c2, if_neg a, if_pos (Int32.lt_of_le_of_lt b (by decide)), if_neg hm0, et, e, nI_clamp (by omega), nI_clamp (by omega)]
          obtain ⟨a0, a1, a2⟩ := h2 t (by omega)
          obtain rfl | rfl | rfl : j = 0 ∨ j = 1 ∨ j = 2 := by omega
          · rw [if_pos (by decide)]; exact a0
          · rw [if_neg (by decide), if_pos (by decide)]; exact a1
          · rw [if_neg (by decide), if_neg (by decide)]; exact a2
    · have b' : ¬ w < 3 := fun q => by
        obtain ⟨j, hj, e⟩ := x_ixl (n := 3) (by decide) a q
        exact b (by rw [e]; exact nI_le (b := 2) (by omega) (by decide))
      rw [if_neg b, if_neg b']
theorem iv_reach (h : Inv σ n m k np f0 f6 f7 f8 f9 f10 f11 f12 f13 f14 f16) (x : Int32) : cl_reach σ x = mo_reach f6 f7 f8 f11 m x := by
  obtain ⟨-, -, ⟨h1, h2, h3, h4, h5, -⟩, hI, -⟩ := h
  rw [cl_reach, mo_reach, show cl_ix σ x = mo_find f7 m x from iv_ix h2 h3 h5 x]
  rcases mo_find_in f7 m x with q | ⟨b, hb, q⟩
  · rw [if_pos q, if_pos q]
  · rw [q, if_neg (nI_ne_m1 (by omega)), if_neg (nI_ne_m1 (by omega)), nI_clamp (by omega), cl_val, cl_gp, h1, mv_0 h2 h4 hb, gap_eq h2 h4 (fw_TL hI) hb]
theorem iv_gap (h : Inv σ n m k np f0 f6 f7 f8 f9 f10 f11 f12 f13 f14 f16) (x : Int32) : cl_gap σ x = mo_gapn f6 f7 f8 f11 m x := by
  obtain ⟨-, -, ⟨h1, h2, h3, h4, h5, -⟩, hI, -⟩ := h
  rw [cl_gap, mo_gapn, show cl_ix σ x = mo_find f7 m x from iv_ix h2 h3 h5 x]
  rcases mo_find_in f7 m x with q | ⟨b, hb, q⟩
  · rw [if_pos q, if_pos q]
  · rw [q, if_neg (nI_ne_m1 (by omega)), if_neg (nI_ne_m1 (by omega)), nI_clamp (by omega), cl_gp, h1, gap_eq h2 h4 (fw_TL hI) hb]
theorem iv_suff (h : Inv σ n m k np f0 f6 f7 f8 f9 f10 f11 f12 f13 f14 f16) (x : Int32) (v : Int64) : cl_suff σ x v = mo_suff f6 f7 f8 m x v := by
  obtain ⟨-, -, ⟨h1, h2, h3, h4, h5, -⟩, hI, -⟩ := h
  rw [cl_suff, mo_suff, show cl_ix σ x = mo_find f7 m x from iv_ix h2 h3 h5 x]
  rcases mo_find_in f7 m x with q | ⟨b, hb, q⟩
  · rw [if_pos q, q, cl_val, mv_m1, if_neg (by decide)]
  · rw [q, if_neg (nI_ne_m1 (by omega)), nI_clamp (by omega), cl_val, cl_val, h1, mv_0 h2 h4 hb, mv_2 h2 h4 hb]
theorem iv_time (h : Inv σ n m k np f0 f6 f7 f8 f9 f10 f11 f12 f13 f14 f16) (x y : Int32) (B : Nat → Int64) : cl_time σ x y = mo_time f6 f7 f8 f9 f10 m B x y := by
  obtain ⟨-, -, ⟨h1, h2, h3, h4, h5, -⟩, hI, -⟩ := h
  rw [cl_time, mo_time, show cl_ix σ x = mo_find f7 m x from iv_ix h2 h3 h5 x, show cl_ix σ y = mo_find f7 m y from iv_ix h2 h3 h5 y]
  rcases mo_find_in f7 m x with q | ⟨a, ha, q⟩
  · rw [if_pos q, if_pos q]
  · rw [q, if_neg (nI_ne_m1 (by omega)), if_neg (nI_ne_m1 (by omega))]
    rcases mo_find_in f7 m y with q2 | ⟨b, hb, q2⟩
    · rw [if_pos q2, if_pos q2]
    · rw [q2, if_neg (nI_ne_m1 (by omega)), if_neg (nI_ne_m1 (by omega)), nI_clamp (by omega), time_eq h2 h3 hI ha hb B, pa_lt_nat (by omega) (by omega)]
      by_cases e : a = b
      · rw [if_pos e, if_pos (by rw [e])]
      · rw [if_neg e, if_neg (fun z => e ((nI_is (by omega) (by omega)).mp z))]
theorem iv_at (h : Inv σ n m k np f0 f6 f7 f8 f9 f10 f11 f12 f13 f14 f16) (i : Int32) : cl_at σ i = mo_at f16 np i := by
  obtain ⟨-, ⟨⟨h1, h2, h3⟩, h4⟩, -⟩ := h
  rw [cl_at, tx_at, mo_at, h1]
  by_cases a : i < 0
  · rw [if_pos a, if_pos a]
  · rw [if_neg a, if_neg a]
    by_cases b : nI np ≤ i
    · rw [if_pos b, if_pos b]
    · rw [if_neg b, if_neg b]
      obtain ⟨t, ht, et⟩ := x_ix (n := np) (by omega) a b
      rw [et, nI_clamp (by omega)]
      exact h3 t ht
theorem iv_sign (h : Inv σ n m k np f0 f6 f7 f8 f9 f10 f11 f12 f13 f14 f16) (x : Int32) : (cl_sign σ x).1 = mo_sign n x ∧ Inv (cl_sign σ x).2 (if mo_sign n x = 0 then n else n + 1) m k np (if mo_sign n x = 0 then f0 else upd f0 n x) f6 f7 f8 f9 f10 f11 f12 f13 f14 f16 := by
  have h' := h
  obtain ⟨⟨h1, h2, h3⟩, hr⟩ := h
  by_cases a : x < 32
  · have e : mo_sign n x = 0 := by
      rw [mo_sign]
      by_cases q : n = 300
      · rw [if_pos q]
      · rw [if_neg q, if_pos a]
    rw [cl_sign, if_pos a, if_pos e, if_pos e]
    exact ⟨e.symm, h'⟩
  · by_cases b : 126 < x
    · have e : mo_sign n x = 0 := by
        rw [mo_sign]
        by_cases q : n = 300
        · rw [if_pos q]
        · rw [if_neg q, if_neg a, if_pos b]
      rw [cl_sign, if_neg a, if_pos b, if_pos e, if_pos e]
      exact ⟨e.symm, h'⟩
    · rw [cl_sign, if_neg a, if_neg b, h1]
      by_cases q : n < 300
      · have e : mo_sign n x = 1 := by rw [mo_sign, if_neg (by omega), if_neg a, if_neg b]
        obtain ⟨c, c1, c2, c3⟩ := x_chr a b
        rw [e, if_neg (show ¬ (1 : Int32) = 0 by decide), if_neg (show ¬ (1 : Int32) = 0 by decide), if_pos q]
        refine ⟨rfl, ⟨?_, by omega, ?_⟩, hr⟩
        · show tx_len σ.1.2 = n + 1
          rw [tx_len, h1, if_pos q]
        · intro j hj
          show tx_add σ.1.1 σ.1.2 x j = upd f0 n x j ∧ ∃ c : Nat, 32 ≤ c ∧ c ≤ 126 ∧ upd f0 n x j = nI c
          rw [tx_add, h1, if_pos q]
          by_cases z : j = n
          · rw [z, pk_us, pk_us]
            exact ⟨rfl, c, c1, c2, c3⟩
          · rw [pk_un z, pk_un z]
            exact h3 j (by omega)
      · have e : mo_sign n x = 0 := by rw [mo_sign, if_pos (by omega)]
        rw [if_neg q, e, if_pos (show (0 : Int32) = 0 from rfl), if_pos (show (0 : Int32) = 0 from rfl)]
        refine ⟨rfl, ⟨?_, h2, ?_⟩, hr⟩
        · show tx_len σ.1.2 = n
          rw [tx_len, h1, if_neg q]
        · intro j hj
          show tx_add σ.1.1 σ.1.2 x j = f0 j ∧ _
          rw [tx_add, h1, if_neg q]
          exact h3 j hj
theorem iv_print (h : Inv σ n m k np f0 f6 f7 f8 f9 f10 f11 f12 f13 f14 f16) : (cl_print σ).1 = nI (mo_pall f6 f7 f8 f9 f10 m (f16, 0)).2 ∧ Inv (cl_print σ).2 n m k (mo_pall f6 f7 f8 f9 f10 m (f16, 0)).2 f0 f6 f7 f8 f9 f10 f11 f12 f13 f14 (mo_pall f6 f7 f8 f9 f10 m (f16, 0)).1 := by
  obtain ⟨ha, -, hb, hc⟩ := h
  have hb' := hb
  obtain ⟨h1, h2, h3, h4, h5, h6⟩ := hb
  obtain ⟨p1, p2, p3⟩ := print_eq h2 h3 h4 h6 σ.2.1.1 f16 m (Nat.le_refl _)
  have e : pr_all σ.2.2.2.2.2.1.1 σ.2.2.2.2.2.1.2.2 (σ.2.1.1, 0) = it (fun i => pr_part σ.2.2.2.2.2.1.1 m (nI i)) m (σ.2.1.1, 0) := by rw [pr_all, h1]
  rw [cl_print, e]
  refine ⟨by rw [p1, p2], ha, ⟨⟨?_, rfl, ?_⟩, by omega⟩, hb', hc⟩
  · show (it (fun i => pr_part σ.2.2.2.2.2.1.1 m (nI i)) m (σ.2.1.1, 0)).2 = _
    rw [p1, p2]
  · rw [p2]; exact p3
theorem iv_pok (h : Inv σ n m k np f0 f6 f7 f8 f9 f10 f11 f12 f13 f14 f16) : mo_pok f6 f7 f8 f9 f10 m ∧ mo_sok f6 f9 m := by
  obtain ⟨-, -, ⟨-, h2, h3, -⟩, -⟩ := h
  refine ⟨fun i hi => ?_, fun i hi q => ?_⟩
  · obtain ⟨kd, nm, nu, a1, a6, a7, a7', a8, a8', a9, -, b0, -, b1, -⟩ := h3 i hi
    refine ⟨⟨nm, by omega, a7'⟩, ⟨nu, a8, a8'⟩, fun q => ?_, fun q => ?_, fun q => ?_⟩
    · obtain ⟨sp, s1, s2, s3⟩ := a9 ((nI_is (b := 1) (by omega) (by omega)).mp (a6.symm.trans q))
      exact ⟨sp, s2, s3⟩
    · obtain ⟨w, w1, w2⟩ := b0 (by
        rcases Nat.lt_or_ge kd 4 with z | z
        · exact z
        · exact absurd (show (4 : Int32) ≤ f6 i by rw [a6]; exact nI_le (a := 4) z (by omega)) q)
      exact ⟨w, by omega, w2⟩
    · obtain ⟨w, w1, w2⟩ := b1 ((nI_is (b := 3) (by omega) (by omega)).mp (a6.symm.trans q))
      exact ⟨w, by omega, w2⟩
  · obtain ⟨kd, nm, nu, a1, a6, -, -, -, -, a9, -⟩ := h3 i hi
    exact a9 ((nI_is (b := 1) (by omega) (by omega)).mp (a6.symm.trans q))
/-- reading: the same answer, and what stands afterwards -/
theorem iv_read (h : Inv σ n m k np f0 f6 f7 f8 f9 f10 f11 f12 f13 f14 f16) {ix0 : Nat → Int32} {T0 : Nat → Nat → Int32} (hix : ∀ j, j < 30 → ix0 j = -1) (hT0 : ∀ i j, i < 24 → j < 24 → T0 i j = -1) (F : md_F) (h24 : (md_run f0 n 25 (0, -1, 0, F)).2.2.1 ≤ 24) :
    (¬ (md_run f0 n 25 (0, -1, 0, F)).2.1 = -1 → (cl_read σ ix0 T0).1 = -1 - (md_run f0 n 25 (0, -1, 0, F)).2.1 ∧ Inv (cl_read σ ix0 T0).2 0 m k np f0 f6 f7 f8 f9 f10 f11 f12 f13 f14 f16) ∧
    ((md_run f0 n 25 (0, -1, 0, F)).2.1 = -1 → (cl_read σ ix0 T0).1 = nI (md_run f0 n 25 (0, -1, 0, F)).2.2.1 ∧ ∀ g6 g7 g8 g9 g10 Lz g12 g13 g14, md_cp (md_run f0 n 25 (0, -1, 0, F)).2.2.2 (md_run f0 n 25 (0, -1, 0, F)).2.2.1 g6 g7 g8 g9 g10 → (∀ j, j < 576 → Lz j = 0) →
      Inv (cl_read σ ix0 T0).2 0 (md_run f0 n 25 (0, -1, 0, F)).2.2.1 (mj_all g6 g7 g8 g10 (mo_lay g7 g10 (md_run f0 n 25 (0, -1, 0, F)).2.2.1 Lz) (md_run f0 n 25 (0, -1, 0, F)).2.2.1 (0, g12, g13, g14)).1 np f0 g6 g7 g8 g9 g10 (mo_lay g7 g10 (md_run f0 n 25 (0, -1, 0, F)).2.2.1 Lz)
        (mj_all g6 g7 g8 g10 (mo_lay g7 g10 (md_run f0 n 25 (0, -1, 0, F)).2.2.1 Lz) (md_run f0 n 25 (0, -1, 0, F)).2.2.1 (0, g12, g13, g14)).2.1 (mj_all g6 g7 g8 g10 (mo_lay g7 g10 (md_run f0 n 25 (0, -1, 0, F)).2.2.1 Lz) (md_run f0 n 25 (0, -1, 0, F)).2.2.1 (0, g12, g13, g14)).2.2.1 (mj_all g6 g7 g8 g10 (mo_lay g7 g10 (md_run f0 n 25 (0, -1, 0, F)).2.2.1 Lz) (md_run f0 n 25 (0, -1, 0, F)).2.2.1 (0, g12, g13, g14)).2.2.2 f16) := by
  obtain ⟨⟨h1, h2, h3⟩, hp, hr⟩ := h
  have hall := st_all h3 h2 σ.2.2.2.2.2.2.1 hix F
  rw [cl_read, h1]
  generalize hX : ps_parts σ.1.1 n (0, σ.2.2.2.2.2.2.1, ix0, 0) = X at hall ⊢
  have h0 : (0 = 0 ∧ 0 ≤ 300 ∧ tx_R σ.1.1 f0 0) := ⟨rfl, by omega, fun j hj => absurd hj (Nat.not_lt_zero _)⟩
  rcases hall with ⟨a1, a2, a3⟩ | ⟨a1, F', a2, a3, a4⟩
  · rw [a3, if_pos a1]
    exact ⟨fun _ => ⟨rfl, h0, hp, hr⟩, fun q => absurd q (nI_ne_m1 (by omega))⟩
  · rw [a2, if_neg (by rw [a1]; decide)]
    refine ⟨fun q => absurd rfl q, fun _ => ⟨rfl, fun g6 g7 g8 g9 g10 Lz g12 g13 g14 hcp hLz => ?_⟩⟩
    have hcp : md_cp F' X.2.2.2.2 g6 g7 g8 g9 g10 := hcp
    show Inv _ 0 X.2.2.2.2 (mj_all g6 g7 g8 g10 (mo_lay g7 g10 X.2.2.2.2 Lz) X.2.2.2.2 (0, g12, g13, g14)).1 np f0 g6 g7 g8 g9 g10 (mo_lay g7 g10 X.2.2.2.2 Lz) (mj_all g6 g7 g8 g10 (mo_lay g7 g10 X.2.2.2.2 Lz) X.2.2.2.2 (0, g12, g13, g14)).2.1 (mj_all g6 g7 g8 g10 (mo_lay g7 g10 X.2.2.2.2 Lz) X.2.2.2.2 (0, g12, g13, g14)).2.2.1 (mj_all g6 g7 g8 g10 (mo_lay g7 g10 X.2.2.2.2 Lz) X.2.2.2.2 (0, g12, g13, g14)).2.2.2 f16
    obtain ⟨b1, b2, b3, b4, b5⟩ := a3
    have hm : X.2.2.2.2 ≤ 24 := by rw [a2] at h24; exact h24
    generalize hmm : X.2.2.2.2 = m' at hcp hm a4 b2 b3 b4 b5 ⊢
    have ok : mk_ok g6 g7 g8 g9 g10 m' := fun i hi => by
      obtain ⟨c1, c2, c3, c4, c5, c6⟩ := hcp i hi
      rw [c1, c2, c3, c4, c5, c6]
      exact b3 i hi
    have eq : mk_eq X.2.2.1 g6 g7 g8 g9 g10 m' := fun i hi => by
      obtain ⟨c1, c2, c3, c4, c5, c6⟩ := hcp i hi
      rw [c1, c2, c3, c4, c5, c6]
      exact b2 i hi
    have fe : fr F' (g6, g7, g8, g9, g10) m' := fun i hi => hcp i hi
    have ixx : mk_ix X.2.2.2.1 g7 m' := fun x hx => by
      rw [b4 x hx]
      rcases mo_fd_in F'.2.1 (nI x) m' 0 with ⟨w1, w2⟩ | ⟨b, -, w1, w2, w3, w4⟩
      · refine (show mo_find F'.2.1 m' (nI x) = -1 from w1).trans (find_none (fun c hc => ?_)).symm
        rw [(hcp c hc).2.1]; exact w2 c (by omega) (by omega)
      · refine (show mo_find F'.2.1 m' (nI x) = nI b from w2).trans (find_at (by omega) ?_ (fun c hc => ?_)).symm
        · rw [(hcp b (by omega)).2.1]; exact w3
        · rw [(hcp c (by omega)).2.1]; exact w4 c (by omega) hc
    have slx : sl (g6, g7, g8, g9, g10) m' ≤ 300 := by rw [fr_sl m' fe]; omega
    have fw := fw_main hm ok eq ixx hT0 hLz
    refine ⟨h0, hp, ⟨hmm, hm, ok, eq, ixx, slx⟩, ?_, ⟨?_, mj_all_le hm rfl, fun q => by omega⟩⟩
    · exact fw
    · exact faults_eq hm ok eq ixx (fw_TL fw) _ g12 g13 g14
end IV
