/-! gaps and faults: the same on both sides -/
def TL (T : Nat → Nat → Int32) (L : Nat → Int32) (m : Nat) : Prop := ∀ i j, i < m → j < m → (L (24 * i + j) = 0 ∨ L (24 * i + j) = 1) ∧ (T i j = -1 ↔ L (24 * i + j) = 0)
theorem it_cong {α : Type} {f g : Nat → α → α} : ∀ (n : Nat) (a : α), (∀ k a, k < n → f k a = g k a) → it f n a = it g n a
  | 0, _, _ => rfl
  | n + 1, a, h => by
    show f n (it f n a) = g n (it g n a)
    rw [it_cong n a (fun k a hk => h k a (by omega)), h n _ (by omega)]
theorem it_shift {α : Type} {f : Nat → α → α} : ∀ (n : Nat) (a : α), it f (n + 1) a = it (fun k => f (k + 1)) n (f 0 a)
  | 0, _ => rfl
  | n + 1, a => by
    show f (n + 1) (it f (n + 1) a) = f (n + 1) (it (fun k => f (k + 1)) n (f 0 a))
    rw [it_shift n a]
section FQ
variable {M : Nat → Nat → Int32} {ix f6 f7 f8 f9 f10 : Nat → Int32} {m : Nat} {T : Nat → Nat → Int32} {L : Nat → Int32}
theorem ld_eq (hm : m ≤ 24) (hT : TL T L m) {i j : Nat} (hi : i < m) (hj : j < m) : pa_ld T (nI i) (nI j) = L (24 * i + j) := by
  rw [pa_ld, pa_lt_nat (by omega) (by omega)]
  obtain ⟨h1, h2⟩ := hT i j hi hj
  by_cases h : T i j = -1
  · rw [if_pos h, h2.mp h]
  · rw [if_neg h]
    exact (h1.resolve_left (fun q => h (h2.mpr q))).symm
theorem mv_0 (hm : m ≤ 24) (he : mk_eq M f6 f7 f8 f9 f10 m) {i : Nat} (hi : i < m) : mc_val M m (nI i) 0 = f6 i := (mv_c hm hi (k := 0) (by omega)).trans (he i hi).1
theorem mv_1 (hm : m ≤ 24) (he : mk_eq M f6 f7 f8 f9 f10 m) {i : Nat} (hi : i < m) : mc_val M m (nI i) 1 = f7 i := (mv_c hm hi (k := 1) (by omega)).trans (he i hi).2.1
theorem mv_2 (hm : m ≤ 24) (he : mk_eq M f6 f7 f8 f9 f10 m) {i : Nat} (hi : i < m) : mc_val M m (nI i) 2 = f8 i := (mv_c hm hi (k := 2) (by omega)).trans (he i hi).2.2.1
theorem gap_eq (hm : m ≤ 24) (he : mk_eq M f6 f7 f8 f9 f10 m) (hT : TL T L m) {i : Nat} (hi : i < m) : pa_gp M m T (nI i) = mo_gap f6 f8 L m i := by
  refine it_cong m (-1) (fun k v hk => ?_)
  rw [pa_gs, mo_gs, mv_0 hm he hk, mv_2 hm he hk, ld_eq hm hT hk hi]
theorem gate_eq (hm : m ≤ 24) (he : mk_eq M f6 f7 f8 f9 f10 m) (i w : Nat) : mc_val M m (mo_tg f7 f10 m i w) 0 = 3 ↔ ¬ mo_g1 f6 f7 f10 m i w = 0 := by
  rw [mo_g1]
  rcases mo_tg_in f7 f10 m i w with h | ⟨b, hb, h⟩
  · rw [h, mv_m1, if_pos rfl]
    exact ⟨fun q => absurd q (by decide), fun q => absurd rfl q⟩
  · rw [h, mv_0 hm he hb, if_neg (nI_ne_m1 (by omega)), nI_clamp (by omega)]
    by_cases q : f6 b = 3
    · rw [if_pos q]; exact ⟨fun _ => by decide, fun _ => q⟩
    · rw [if_neg q]; exact ⟨fun z => absurd z q, fun z => absurd rfl z⟩
theorem sm_0 {a : Nat} : ∀ n, (it (mo_sm L a) n 0 = 0 ∧ ∀ k, k < n → L (24 * k + a) = 0) ∨ (it (mo_sm L a) n 0 = 1 ∧ ∃ k, k < n ∧ ¬ L (24 * k + a) = 0)
  | 0 => Or.inl ⟨rfl, fun k hk => absurd hk (Nat.not_lt_zero _)⟩
  | n + 1 => by
    show (mo_sm L a n (it (mo_sm L a) n 0) = 0 ∧ _) ∨ (mo_sm L a n (it (mo_sm L a) n 0) = 1 ∧ _)
    rcases sm_0 n with ⟨h1, h2⟩ | ⟨h1, k, h2, h3⟩
    · rw [h1, mo_sm, if_pos rfl]
      by_cases q : L (24 * n + a) = 0
      · rw [if_pos q]
        refine Or.inl ⟨rfl, fun k hk => ?_⟩
        by_cases e : k = n
        · rw [e]; exact q
        · exact h2 k (by omega)
      · rw [if_neg q]
        exact Or.inr ⟨rfl, n, by omega, q⟩
    · rw [h1, mo_sm, if_neg (by decide)]
      exact Or.inr ⟨rfl, k, by omega, h3⟩
theorem is_eq (hm : m ≤ 24) (hok : mk_ok f6 f7 f8 f9 f10 m) (he : mk_eq M f6 f7 f8 f9 f10 m) (hx : mk_ix ix f7 m) (hT : TL T L m) {i : Nat} (hi : i < m) {k : Nat} (hk : 2 ≤ k ∧ k ≤ 6) : fl_is k M ix m T (nI i) = mo_wr f6 f7 f8 f10 L m k i 0 := by
  obtain rfl | rfl | rfl | rfl | rfl : k = 2 ∨ k = 3 ∨ k = 4 ∨ k = 5 ∨ k = 6 := by omega
  · rw [fl_is_2, mo_wr_2, mv_0 hm he hi, fl_slow, gap_eq hm he hT hi, mv_2 hm he hi]
  · rw [fl_is_3, mo_wr_3, mv_0 hm he hi, fl_gate, show mc_goal M ix m (nI i) 0 = mo_tg f7 f10 m i 0 from mk_goal hm hok he hx hi (w := 0) (by omega), show mc_goal M ix m (nI i) 1 = mo_tg f7 f10 m i 1 from mk_goal hm hok he hx hi (w := 1) (by omega)]
    by_cases q0 : mo_g1 f6 f7 f10 m i 0 = 0
    · rw [if_pos q0, if_neg (show ¬ mc_val M m (mo_tg f7 f10 m i 0) 0 = 3 from fun z => (gate_eq hm he i 0).mp z q0)]
      by_cases q1 : mo_g1 f6 f7 f10 m i 1 = 0
      · rw [if_pos q1, if_neg (show ¬ mc_val M m (mo_tg f7 f10 m i 1) 0 = 3 from fun z => (gate_eq hm he i 1).mp z q1)]
      · rw [if_neg q1, if_pos ((gate_eq hm he i 1).mpr q1)]
    · rw [if_neg q0, if_pos ((gate_eq hm he i 0).mpr q0)]
  · rw [fl_is_4, mo_wr_4, ld_eq hm hT hi hi]
  · rw [fl_is_5, mo_wr_5, mv_0 hm he hi, gap_eq hm he hT hi]
  · rw [mo_wr_6]
    by_cases q : f6 i = 0
    · rw [if_pos q]
      rcases sm_0 (L := L) (a := i) m with ⟨h1, h2⟩ | ⟨h1, k, h2, h3⟩
      · rw [if_pos h1]
        refine fl_is_6n (fun z => ?_)
        obtain ⟨-, k, z1, z2⟩ := z
        rw [pa_lt_nat (by omega) (by omega)] at z2
        exact z2 ((hT k i z1 hi).2.mpr (h2 k z1))
      · rw [if_neg (by rw [h1]; decide)]
        refine fl_is_6y ⟨(mv_0 hm he hi).trans q, k, h2, fun z => ?_⟩
        rw [pa_lt_nat (by omega) (by omega)] at z
        exact h3 ((hT k i h2 hi).2.mp z)
    · rw [if_neg q]
      exact fl_is_6n (fun z => q ((mv_0 hm he hi).symm.trans z.1))
def fR (f : fl_S) (z : mj_S) : Prop := f.2 = z.1 ∧ ∀ j, j < f.2 → f.1 0 j = z.2.1 j ∧ f.1 1 j = z.2.2.1 j ∧ f.1 2 j = z.2.2.2 j
theorem fR_add {f : fl_S} {z : mj_S} (h : fR f z) (a b w : Int32) : fR (fl_add f a b w) (mj_add z a b w) := by
  obtain ⟨h1, h2⟩ := h
  refine ⟨by show f.2 + 1 = z.1 + 1; omega, fun j hj => ?_⟩
  have hj : j < f.2 + 1 := hj
  show xg_up (xg_up (xg_up f.1 0 f.2 a) 1 f.2 b) 2 f.2 w 0 j = upd z.2.1 z.1 a j ∧ xg_up (xg_up (xg_up f.1 0 f.2 a) 1 f.2 b) 2 f.2 w 1 j = upd z.2.2.1 z.1 b j ∧ xg_up (xg_up (xg_up f.1 0 f.2 a) 1 f.2 b) 2 f.2 w 2 j = upd z.2.2.2 z.1 w j
  simp only [xg_at]
  rw [← h1]
  by_cases e : j = f.2
  · rw [e, pk_us, pk_us, pk_us]
    simp
  · obtain ⟨a1, a2, a3⟩ := h2 j (by omega)
    rw [pk_un e, pk_un e, pk_un e]
    simp only [e, and_false, if_false]
    exact ⟨a1, a2, a3⟩
theorem faults_eq (hm : m ≤ 24) (hok : mk_ok f6 f7 f8 f9 f10 m) (he : mk_eq M f6 f7 f8 f9 f10 m) (hx : mk_ix ix f7 m) (hT : TL T L m) (F : Nat → Nat → Int32) (g1 g2 g3 : Nat → Int32) : fR (fl_all M ix m T F) (mj_all f6 f7 f8 f10 L m (0, g1, g2, g3)) := by
  unfold fl_all mj_all
  rw [it_shift 5]
  refine it_rel (R := fR) 5 _ _ ?_ (fun k a b hk h => it_rel (R := fR) m _ _ h (fun i a b hi h => ?_))
  · refine it_rel (R := fR) m _ _ ⟨rfl, fun j hj => absurd hj (Nat.not_lt_zero _)⟩ (fun i a b hi h => ?_)
    show fR (it (fl_w2 M ix m i) 2 a) (it (mj_3 f6 f7 f8 f10 L m 1 i) (if 1 = 1 then 2 else 1) b)
    rw [if_pos rfl]
    refine it_rel (R := fR) 2 _ _ h (fun w a b hw h => ?_)
    have e1 : mc_val M m (nI i) (4 + nI w) = f10 (2 * i + w) := by
      rw [show (4 : Int32) + nI w = nI (4 + w) from nI_add 4 w, mv_c hm hi (by omega)]
      obtain ⟨-, -, -, -, h4, h5⟩ := he i hi
      obtain rfl | rfl : w = 0 ∨ w = 1 := by omega
      · exact h4
      · exact h5
    rw [fl_w2, mj_3, mo_wr_1, mc_has, e1, mk_goal hm hok he hx hi hw, mv_1 hm he hi, if_pos (show (1 : Nat) = 1 from rfl)]
    by_cases q : f10 (2 * i + w) = -1
    · rw [if_pos q, if_pos rfl, if_pos q, if_pos rfl]; exact h
    · rw [if_neg q, if_neg q, if_neg (show ¬ (1 : Int32) = 0 by decide)]
      by_cases q2 : mo_tg f7 f10 m i w = -1
      · rw [if_pos q2, if_pos q2, if_neg (show ¬ (1 : Int32) = 0 by decide)]
        exact fR_add h 1 (f7 i) (nI w)
      · rw [if_neg q2, if_neg q2, if_pos rfl]; exact h
  · show fR (fl_k2 M ix m T (k + 2) i a) (it (mj_3 f6 f7 f8 f10 L m (k + 1 + 1) i) (if k + 1 + 1 = 1 then 2 else 1) b)
    rw [if_neg (by omega)]
    show fR (fl_k2 M ix m T (k + 2) i a) (mj_3 f6 f7 f8 f10 L m (k + 2) i 0 b)
    rw [fl_k2, mj_3, is_eq hm hok he hx hT hi (by omega), mv_1 hm he hi, if_neg (show ¬ k + 2 = 1 by omega)]
    by_cases q : mo_wr f6 f7 f8 f10 L m (k + 2) i 0 = 0
    · rw [if_pos q, if_pos q]; exact h
    · rw [if_neg q, if_neg q]; exact fR_add h _ _ _
end FQ
