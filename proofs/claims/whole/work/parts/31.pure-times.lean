/-! the machine's rows, as a read leaves them -/
def mk_ok (f6 f7 f8 f9 f10 : Nat → Int32) (m : Nat) : Prop := ∀ i, i < m → ∃ kd nm nu : Nat, kd ≤ 4 ∧ f6 i = nI kd ∧ nm < 30 ∧ f7 i = nI nm ∧ nu ≤ 9999 ∧ f8 i = nI nu ∧ (kd = 1 → ∃ sp, 1 ≤ sp ∧ sp ≤ 9999 ∧ f9 i = nI sp) ∧ (kd ≠ 1 → f9 i = -1) ∧ (kd < 4 → ∃ w, w < 30 ∧ f10 (2 * i) = nI w) ∧ (kd = 4 → f10 (2 * i) = -1) ∧ (kd = 3 → ∃ w, w < 30 ∧ f10 (2 * i + 1) = nI w) ∧ (kd ≠ 3 → f10 (2 * i + 1) = -1)
def mk_eq (M : Nat → Nat → Int32) (f6 f7 f8 f9 f10 : Nat → Int32) (m : Nat) : Prop := ∀ i, i < m → M 0 i = f6 i ∧ M 1 i = f7 i ∧ M 2 i = f8 i ∧ M 3 i = f9 i ∧ M 4 i = f10 (2 * i) ∧ M 5 i = f10 (2 * i + 1)
def mk_ix (ix f7 : Nat → Int32) (m : Nat) : Prop := ∀ x, x < 30 → ix x = mo_find f7 m (nI x)
theorem mk_way {f6 f7 f8 f9 f10 : Nat → Int32} {m i w : Nat} (hok : mk_ok f6 f7 f8 f9 f10 m) (hi : i < m) (hw : w < 2) : f10 (2 * i + w) = -1 ∨ ∃ x, x < 30 ∧ f10 (2 * i + w) = nI x := by
  obtain ⟨kd, nm, nu, h1, -, -, -, -, -, -, -, h2, h3, h4, h5⟩ := hok i hi
  obtain rfl | rfl : w = 0 ∨ w = 1 := by omega
  · by_cases h : kd < 4
    · obtain ⟨x, a, b⟩ := h2 h
      exact Or.inr ⟨x, a, b⟩
    · exact Or.inl (h3 (by omega))
  · by_cases h : kd = 3
    · obtain ⟨x, a, b⟩ := h4 h
      exact Or.inr ⟨x, a, b⟩
    · exact Or.inl (h5 h)
theorem mv_c {M : Nat → Nat → Int32} {m i k : Nat} (hm : m ≤ 24) (hi : i < m) (hk : k < 6) : mc_val M m (nI i) (nI k) = M k i := by
  rw [mc_val, if_neg (nI_pos (by omega)), if_neg (nI_ge hi (by omega)), if_neg (nI_pos (by omega)), if_pos (show nI k < 6 from nI_lt (b := 6) hk (by decide)), nI_clamp (by omega), nI_clamp (by omega)]
theorem mv_m1 {M : Nat → Nat → Int32} {m : Nat} {k : Int32} : mc_val M m (-1) k = -1 := by rw [mc_val, if_pos (by decide)]
section GMK
variable {M : Nat → Nat → Int32} {ix f6 f7 f8 f9 f10 : Nat → Int32} {m : Nat}
theorem mk_goal (hm : m ≤ 24) (hok : mk_ok f6 f7 f8 f9 f10 m) (he : mk_eq M f6 f7 f8 f9 f10 m) (hx : mk_ix ix f7 m) {i w : Nat} (hi : i < m) (hw : w < 2) : mc_goal M ix m (nI i) (nI w) = mo_tg f7 f10 m i w := by
  have e1 : mc_val M m (nI i) (4 + nI w) = f10 (2 * i + w) := by
    rw [show (4 : Int32) + nI w = nI (4 + w) from nI_add 4 w, mv_c hm hi (by omega)]
    obtain ⟨-, -, -, -, h4, h5⟩ := he i hi
    obtain rfl | rfl : w = 0 ∨ w = 1 := by omega
    · exact h4
    · exact h5
  rw [mc_goal, e1, mo_tg]
  rcases mk_way hok hi hw with h | ⟨x, h1, h2⟩
  · rw [if_pos h, h, mc_ix, if_pos (by decide)]
  · rw [h2, if_neg (nI_ne_m1 (by omega)), mc_ix, if_neg (nI_pos (by omega)), if_pos (show nI x < 30 from nI_lt (b := 30) h1 (by decide)), nI_clamp (by omega)]
    exact hx x h1
/-- the time through a part -/
def gt (f6 f8 f9 : Nat → Int32) (m k : Nat) : Nat := if k < m then (if f6 k = 1 then (1000 * (f8 k).toNatClampNeg + (f9 k).toNatClampNeg - 1) / (f9 k).toNatClampNeg else if f6 k = 2 then (f8 k).toNatClampNeg else 0) else 0
theorem gt_le (hok : mk_ok f6 f7 f8 f9 f10 m) (k : Nat) : gt f6 f8 f9 m k ≤ 9999000 := by
  unfold gt
  split
  · rename_i hk
    obtain ⟨kd, nm, nu, h1, h6, -, -, h8, h8', h9, -⟩ := hok k hk
    rw [h8', nI_clamp (by omega)]
    split
    · rename_i e
      rw [h6] at e
      have : kd = 1 := (nI_eq (b := 1) (by omega) (by decide)).mp e
      obtain ⟨sp, s1, s2, s3⟩ := h9 this
      rw [s3, nI_clamp (by omega)]
      refine Nat.div_le_of_le_mul ?_
      have : sp * 9999000 = sp * 9998999 + sp := by omega
      have h3 : 1 * 9998999 ≤ sp * 9998999 := Nat.mul_le_mul_right _ s1
      omega
    · split
      · omega
      · omega
  · omega
theorem gt_cl (hm : m ≤ 24) (hok : mk_ok f6 f7 f8 f9 f10 m) (he : mk_eq M f6 f7 f8 f9 f10 m) {k : Nat} (hk : k < m) : mc_tt M m (nI k) = nI (gt f6 f8 f9 m k) := by
  obtain ⟨kd, nm, nu, h1, h6, -, -, h8, h8', h9, -⟩ := hok k hk
  obtain ⟨e0, -, e2, e3, -, -⟩ := he k hk
  have v0 : mc_val M m (nI k) 0 = f6 k := (mv_c hm hk (k := 0) (by omega)).trans e0
  have v2 : mc_val M m (nI k) 2 = f8 k := (mv_c hm hk (k := 2) (by omega)).trans e2
  have v3 : mc_val M m (nI k) 3 = f9 k := (mv_c hm hk (k := 3) (by omega)).trans e3
  rw [mc_tt, v0, v2, v3, gt, if_pos hk]
  by_cases h : f6 k = 1
  · rw [if_pos h, if_pos h]
    rw [h6] at h
    obtain ⟨sp, s1, s2, s3⟩ := h9 ((nI_eq (b := 1) (by omega) (by decide)).mp h)
    rw [s3, if_neg (nI_nle (by omega) (by omega)), h8', nI_clamp (by omega), nI_clamp (by omega), show (1000 : Int32) * nI nu = nI (1000 * nu) from pk_mul 1000 nu, nI_add, show nI (1000 * nu + sp) - 1 = nI (1000 * nu + sp - 1) from pk_sub (b := 1) (by omega), pk_div (by omega) (by omega) (by omega)]
  · rw [if_neg h, if_neg h]
    by_cases h2 : f6 k = 2
    · rw [if_pos h2, if_pos h2, h8', nI_clamp (by omega)]
    · rw [if_neg h2, if_neg h2]
      rfl
theorem gt_mo (hm : m ≤ 24) (hok : mk_ok f6 f7 f8 f9 f10 m) {k : Nat} (hk : k < m) : mo_thr f6 f8 f9 k = lN (gt f6 f8 f9 m k) := by
  obtain ⟨kd, nm, nu, h1, h6, -, -, h8, h8', h9, -⟩ := hok k hk
  rw [mo_thr, gt, if_pos hk]
  by_cases h : f6 k = 1
  · rw [if_pos h, if_pos h, if_neg (by rw [h]; decide)]
    rw [h6] at h
    obtain ⟨sp, s1, s2, s3⟩ := h9 ((nI_eq (b := 1) (by omega) (by decide)).mp h)
    rw [s3, h8', nI_l (by omega), nI_l (by omega), nI_clamp (by omega), nI_clamp (by omega), show (1000 : Int64) * lN nu = lN (1000 * nu) from lN_mul 1000 nu, lN_add, show lN (1000 * nu + sp) - 1 = lN (1000 * nu + sp - 1) from lN_sub (b := 1) (by omega)]
    exact (Int64.ofNat_div (by omega) (by omega)).symm
  · rw [if_neg h, if_neg h]
    by_cases h2 : f6 k = 2
    · rw [if_pos h2, if_pos h2, h8', nI_l (by omega), nI_clamp (by omega)]
    · rw [if_neg h2, if_neg h2]
      rfl
end GMK
abbrev ge (f7 f10 : Nat → Int32) (m : Nat) (i j : Nat) : Prop := j < m ∧ (mo_tg f7 f10 m i 0 = nI j ∨ mo_tg f7 f10 m i 1 = nI j)
theorem pa_shg {V : Nat → Nat → Int32} {i a b m : Nat} {g x : Int32} (hm : m ≤ 24) (hb : b < m) (hg : g = -1 ∨ ∃ c, c < m ∧ g = nI c) : pa_sh V i g x a b = if a = i ∧ g = nI b then (if V i b = -1 then x else if V i b ≤ x then V i b else x) else V a b := by
  rcases hg with rfl | ⟨c, hc, rfl⟩
  · rw [pa_sh, if_pos (by decide), if_neg (fun q => nI_ne_m1 (p := b) (by omega) q.2.symm)]
  · rw [pa_sh_at (by omega)]
    by_cases h : a = i ∧ b = c
    · rw [if_pos h, if_pos (show a = i ∧ nI c = nI b from ⟨h.1, by rw [h.2]⟩), h.2]
    · rw [if_neg h, if_neg (fun q => h ⟨q.1, ((nI_eq (by omega) (by omega)).mp q.2).symm⟩)]
theorem pa_row0 {M : Nat → Nat → Int32} {ix f6 f7 f8 f9 f10 : Nat → Int32} {m : Nat} (hm : m ≤ 24) (hok : mk_ok f6 f7 f8 f9 f10 m) (he : mk_eq M f6 f7 f8 f9 f10 m) (hx : mk_ix ix f7 m) {T0 : Nat → Nat → Int32} (hT : ∀ i j, i < 24 → j < 24 → T0 i j = -1) :
    ∀ k, k ≤ m → ∀ i j, i < m → j < m → it (pa_e1 M ix m) k T0 i j = if i < k ∧ ge f7 f10 m i j then nI (gt f6 f8 f9 m i) else -1
  | 0, _, i, j, hi, hj => by
    rw [if_neg (by omega)]
    exact hT i j (by omega) (by omega)
  | k + 1, hk, i, j, hi, hj => by
    have ih := pa_row0 hm hok he hx hT k (by omega)
    show it (pa_e2 M ix m k) 2 (it (pa_e1 M ix m) k T0) i j = _
    show pa_sh (pa_sh (it (pa_e1 M ix m) k T0) k (mc_goal M ix m (nI k) (nI 0)) (mc_tt M m (nI k))) k (mc_goal M ix m (nI k) (nI 1)) (mc_tt M m (nI k)) i j = _
    rw [mk_goal hm hok he hx (by omega : k < m) (by omega : 0 < 2), mk_goal hm hok he hx (by omega : k < m) (by omega : 1 < 2), gt_cl hm hok he (by omega : k < m)]
    have gl := gt_le hok k
    have n1 : ¬ nI (gt f6 f8 f9 m k) = -1 := nI_ne_m1 (by omega)
    have v0 : ∀ b, b < m → it (pa_e1 M ix m) k T0 k b = -1 := fun b hb => by rw [ih k b (by omega) hb, if_neg (fun q => absurd q.1 (Nat.lt_irrefl _))]
    have inn : ∀ a b, b < m → pa_sh (it (pa_e1 M ix m) k T0) k (mo_tg f7 f10 m k 0) (nI (gt f6 f8 f9 m k)) a b = if a = k ∧ mo_tg f7 f10 m k 0 = nI b then nI (gt f6 f8 f9 m k) else it (pa_e1 M ix m) k T0 a b := by
      intro a b hb
      rw [pa_shg hm hb (mo_tg_in f7 f10 m k 0), v0 b hb, if_pos rfl]
    generalize pa_sh (it (pa_e1 M ix m) k T0) k (mo_tg f7 f10 m k 0) (nI (gt f6 f8 f9 m k)) = V at inn ⊢
    rw [pa_shg hm hj (mo_tg_in f7 f10 m k 1)]
    by_cases h : i = k
    · subst h
      by_cases h0 : mo_tg f7 f10 m i 0 = nI j
      · have hV : V i j = nI (gt f6 f8 f9 m i) := by rw [inn i j hj, if_pos ⟨rfl, h0⟩]
        rw [hV, if_neg n1, if_pos (Int32.le_refl _), if_pos (show i < i + 1 ∧ ge f7 f10 m i j from ⟨by omega, hj, Or.inl h0⟩)]
        split <;> rfl
      · have hV : V i j = -1 := by rw [inn i j hj, if_neg (fun q => h0 q.2), v0 j hj]
        rw [hV, if_pos rfl]
        by_cases h1 : mo_tg f7 f10 m i 1 = nI j
        · rw [if_pos (show i = i ∧ mo_tg f7 f10 m i 1 = nI j from ⟨rfl, h1⟩), if_pos (show i < i + 1 ∧ ge f7 f10 m i j from ⟨by omega, hj, Or.inr h1⟩)]
        · rw [if_neg (show ¬ (i = i ∧ mo_tg f7 f10 m i 1 = nI j) from fun q => h1 q.2), if_neg (show ¬ (i < i + 1 ∧ ge f7 f10 m i j) from fun q => q.2.2.elim h0 h1)]
    · rw [if_neg (show ¬ (i = k ∧ mo_tg f7 f10 m k 1 = nI j) from fun q => h q.1), inn i j hj, if_neg (show ¬ (i = k ∧ mo_tg f7 f10 m k 0 = nI j) from fun q => h q.1), ih i j hi hj]
      by_cases h2 : i < k
      · by_cases h3 : ge f7 f10 m i j
        · rw [if_pos ⟨h2, h3⟩, if_pos ⟨by omega, h3⟩]
        · rw [if_neg (fun q => h3 q.2), if_neg (fun q => h3 q.2)]
      · rw [if_neg (fun q => h2 q.1), if_neg (fun q => by omega)]
theorem ml_row0 {f7 f10 : Nat → Int32} {m : Nat} (hm : m ≤ 24) {L : Nat → Int32} (hL : ∀ j, j < 576 → L j = 0) :
    ∀ k, k ≤ m → ∀ i j, i < m → j < m → it (mo_l1 f7 f10 m) k L (24 * i + j) = if i < k ∧ ge f7 f10 m i j then 1 else 0
  | 0, _, i, j, hi, hj => by
    rw [if_neg (by omega)]
    exact hL _ (by omega)
  | k + 1, hk, i, j, hi, hj => by
    have ih := ml_row0 (f7 := f7) (f10 := f10) hm hL k (by omega)
    have one : ∀ (w : Nat) (V : Nat → Int32), mo_l2 f7 f10 m k w V (24 * i + j) = if i = k ∧ mo_tg f7 f10 m k w = nI j then 1 else V (24 * i + j) := by
      intro w V
      unfold mo_l2
      rcases mo_tg_in f7 f10 m k w with h | ⟨c, hc, h⟩
      · rw [if_pos h, if_neg (fun q => nI_ne_m1 (p := j) (by omega) (q.2.symm.trans h))]
      · rw [if_neg (by rw [h]; exact nI_ne_m1 (by omega)), h, nI_clamp (by omega)]
        by_cases h2 : i = k ∧ j = c
        · rw [if_pos ⟨h2.1, by rw [h2.2]⟩, h2.1, h2.2]
          exact pk_us
        · rw [if_neg (fun q => h2 ⟨q.1, ((nI_eq (by omega) (by omega)).mp q.2).symm⟩)]
          exact pk_un (by omega)
    show mo_l2 f7 f10 m k 1 (mo_l2 f7 f10 m k 0 (it (mo_l1 f7 f10 m) k L)) (24 * i + j) = _
    rw [one, one, ih i j hi hj]
    by_cases h : i = k
    · subst h
      by_cases h0 : mo_tg f7 f10 m i 0 = nI j
      · rw [if_pos (show i = i ∧ mo_tg f7 f10 m i 0 = nI j from ⟨rfl, h0⟩), if_pos (show i < i + 1 ∧ ge f7 f10 m i j from ⟨by omega, hj, Or.inl h0⟩)]
        split <;> rfl
      · rw [if_neg (show ¬ (i = i ∧ mo_tg f7 f10 m i 0 = nI j) from fun q => h0 q.2), if_neg (show ¬ (i < i ∧ ge f7 f10 m i j) from fun q => absurd q.1 (Nat.lt_irrefl _))]
        by_cases h1 : mo_tg f7 f10 m i 1 = nI j
        · rw [if_pos (show i = i ∧ mo_tg f7 f10 m i 1 = nI j from ⟨rfl, h1⟩), if_pos (show i < i + 1 ∧ ge f7 f10 m i j from ⟨by omega, hj, Or.inr h1⟩)]
        · rw [if_neg (show ¬ (i = i ∧ mo_tg f7 f10 m i 1 = nI j) from fun q => h1 q.2), if_neg (show ¬ (i < i + 1 ∧ ge f7 f10 m i j) from fun q => q.2.2.elim h0 h1)]
    · rw [if_neg (show ¬ (i = k ∧ mo_tg f7 f10 m k 1 = nI j) from fun q => h q.1), if_neg (show ¬ (i = k ∧ mo_tg f7 f10 m k 0 = nI j) from fun q => h q.1)]
      by_cases h2 : i < k
      · by_cases h3 : ge f7 f10 m i j
        · rw [if_pos ⟨h2, h3⟩, if_pos ⟨by omega, h3⟩]
        · rw [if_neg (fun q => h3 q.2), if_neg (fun q => h3 q.2)]
      · rw [if_neg (fun q => h2 q.1), if_neg (fun q => by omega)]
theorem fw_main {M : Nat → Nat → Int32} {ix f6 f7 f8 f9 f10 : Nat → Int32} {m : Nat} (hm : m ≤ 24) (hok : mk_ok f6 f7 f8 f9 f10 m) (he : mk_eq M f6 f7 f8 f9 f10 m) (hx : mk_ix ix f7 m) {T0 : Nat → Nat → Int32} (hT : ∀ i j, i < 24 → j < 24 → T0 i j = -1) {L : Nat → Int32} (hL : ∀ j, j < 576 → L j = 0) :
    fw_I (ge f7 f10 m) (gt f6 f8 f9 m) m m (pa_all M ix m T0) (mo_lay f7 f10 m L) := by
  refine fw_all hm (gt_le hok) ?_ m (Nat.le_refl _)
  intro i j hi hj
  rw [pa_row0 hm hok he hx hT m (Nat.le_refl _) i j hi hj, ml_row0 hm hL m (Nat.le_refl _) i j hi hj]
  have gl := gt_le hok i
  by_cases h : ge f7 f10 m i j
  · rw [if_pos ⟨hi, h⟩, if_pos ⟨hi, h⟩]
    refine ⟨Or.inr ⟨[], h, fun v hv => absurd hv (List.not_mem_nil), rfl, ?_⟩, fun l hl hv => ?_, Or.inr rfl, ?_⟩
    · show gt f6 f8 f9 m i ≤ _
      omega
    · rcases l with _ | ⟨v, l⟩
      · exact ⟨_, rfl, Nat.le_refl _, by show gt f6 f8 f9 m i ≤ _; omega⟩
      · exact absurd (hv v List.mem_cons_self) (Nat.not_lt_zero _)
    · exact ⟨fun q => absurd q (nI_ne_m1 (by omega)), fun q => absurd q (by decide)⟩
  · rw [if_neg (fun q => h q.2), if_neg (fun q => h q.2)]
    refine ⟨Or.inl rfl, fun l hl hv => ?_, Or.inl rfl, ⟨fun _ => rfl, fun _ => rfl⟩⟩
    rcases l with _ | ⟨v, l⟩
    · exact absurd hl h
    · exact absurd (hv v List.mem_cons_self) (Nat.not_lt_zero _)
