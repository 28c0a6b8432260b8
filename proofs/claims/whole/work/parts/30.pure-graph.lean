/-! walks in a graph: from i over the list's places to j -/
def gw (e : Nat → Nat → Prop) : Nat → List Nat → Nat → Prop
  | i, [], j => e i j
  | i, v :: l, j => e i v ∧ gw e v l j
def gs (t : Nat → Nat) : Nat → List Nat → Nat
  | i, [] => t i
  | i, v :: l => t i + gs t v l
theorem gw_app {e : Nat → Nat → Prop} {v j : Nat} {c : List Nat} : ∀ (a : List Nat) (i : Nat), gw e i (a ++ v :: c) j ↔ gw e i a v ∧ gw e v c j
  | [], i => Iff.rfl
  | x :: a, i => by
    show e i x ∧ gw e x (a ++ v :: c) j ↔ (e i x ∧ gw e x a v) ∧ gw e v c j
    rw [gw_app a x, and_assoc]
theorem gs_app {t : Nat → Nat} {v : Nat} {c : List Nat} : ∀ (a : List Nat) (i : Nat), gs t i (a ++ v :: c) = gs t i a + gs t v c
  | [], i => rfl
  | x :: a, i => by
    show t i + gs t x (a ++ v :: c) = t i + gs t x a + gs t v c
    rw [gs_app a x, Nat.add_assoc]
theorem gw_simple {e : Nat → Nat → Prop} (t : Nat → Nat) {j : Nat} : ∀ (l : List Nat) (i : Nat), gw e i l j → ∃ l', gw e i l' j ∧ (∀ v ∈ l', v ∈ l) ∧ l'.Nodup ∧ gs t i l' ≤ gs t i l
  | [], i, h => ⟨[], h, fun _ h => h, List.nodup_nil, Nat.le_refl _⟩
  | x :: l, i, h => by
    obtain ⟨l', h1, h2, h3, h4⟩ := gw_simple t l x h.2
    by_cases hx : x ∈ l'
    · obtain ⟨a, c, rfl⟩ := List.append_of_mem hx
      refine ⟨x :: c, ⟨h.1, ((gw_app a x).mp h1).2⟩, fun v hv => ?_, (List.nodup_append.mp h3).2.1, ?_⟩
      · rcases List.mem_cons.mp hv with e | e
        · rw [e]; exact List.mem_cons_self
        · exact List.mem_cons_of_mem _ (h2 v (List.mem_append_right _ (List.mem_cons_of_mem _ e)))
      · rw [gs_app] at h4
        show t i + gs t x c ≤ t i + gs t x l
        omega
    · refine ⟨x :: l', ⟨h.1, h1⟩, fun v hv => ?_, List.nodup_cons.mpr ⟨hx, h3⟩, ?_⟩
      · rcases List.mem_cons.mp hv with e | e
        · rw [e]; exact List.mem_cons_self
        · exact List.mem_cons_of_mem _ (h2 v e)
      · show t i + gs t x l' ≤ t i + gs t x l
        omega
theorem gw_start {e : Nat → Nat → Prop} (t : Nat → Nat) {i j : Nat} {l : List Nat} (h : gw e i l j) : ∃ l', gw e i l' j ∧ (∀ v ∈ l', v ∈ l) ∧ (i :: l').Nodup ∧ gs t i l' ≤ gs t i l := by
  obtain ⟨l', h1, h2, h3, h4⟩ := gw_simple t l i h
  by_cases hx : i ∈ l'
  · obtain ⟨a, c, rfl⟩ := List.append_of_mem hx
    refine ⟨c, ((gw_app a i).mp h1).2, fun v hv => h2 v (List.mem_append_right _ (List.mem_cons_of_mem _ hv)), (List.nodup_append.mp h3).2.1, ?_⟩
    rw [gs_app] at h4
    omega
  · exact ⟨l', h1, h2, List.nodup_cons.mpr ⟨hx, h3⟩, h4⟩
theorem pg_hole : ∀ (k : Nat) (l : List Nat), l.Nodup → (∀ v ∈ l, v < k) → l.length ≤ k
  | 0, [], _, _ => Nat.le_refl _
  | 0, x :: l, _, h => absurd (h x List.mem_cons_self) (Nat.not_lt_zero _)
  | k + 1, l, hn, h => by
    by_cases hk : k ∈ l
    · obtain ⟨a, c, rfl⟩ := List.append_of_mem hk
      have hd := List.nodup_append.mp hn
      have hn2 : (a ++ c).Nodup := by
        refine List.nodup_append.mpr ⟨hd.1, (List.nodup_cons.mp hd.2.1).2, fun x hx y hy => hd.2.2 x hx y (List.mem_cons_of_mem _ hy)⟩
      have hlt : ∀ v ∈ a ++ c, v < k := fun v hv => by
        have h1 : v < k + 1 := by
          rcases List.mem_append.mp hv with q | q
          · exact h v (List.mem_append_left _ q)
          · exact h v (List.mem_append_right _ (List.mem_cons_of_mem _ q))
        have h2 : v ≠ k := fun e => by
          rcases List.mem_append.mp hv with q | q
          · exact hd.2.2 v q k List.mem_cons_self e
          · exact (List.nodup_cons.mp hd.2.1).1 (e ▸ q)
        omega
      have := pg_hole k (a ++ c) hn2 hlt
      simp only [List.length_append, List.length_cons] at this ⊢
      omega
    · have := pg_hole k l hn (fun v hv => by
        have h1 := h v hv
        have h2 : v ≠ k := fun e => hk (e ▸ hv)
        omega)
      omega
theorem gs_le {t : Nat → Nat} {B : Nat} (hB : ∀ v, t v ≤ B) : ∀ (l : List Nat) (i : Nat), gs t i l ≤ (l.length + 1) * B
  | [], i => by
    show t i ≤ (0 + 1) * B
    have := hB i
    omega
  | x :: l, i => by
    have h1 := hB i
    have h2 := gs_le hB l x
    show t i + gs t x l ≤ (l.length + 1 + 1) * B
    rw [Nat.add_mul (l.length + 1) 1 B]
    omega
/-! a matrix changed in its own place, row by row -/
theorem gr_row {S : Type} (rd : S → Nat → Nat → Int32) (c : Int32 → Int32 → Int32 → Int32) {m a k : Nat} (ha : a < m) (hk : k < m) (st : Nat → S → S) (S0 : S) (A : Int32) (hA : rd S0 a k = A)
    (hst : ∀ b s, b < m → rd s a k = A → ∀ i j, i < m → j < m → rd (st b s) i j = if i = a ∧ j = b then c (rd s a b) A (rd s k b) else rd s i j) (h1 : c A A (rd S0 k k) = A) :
    ∀ b, b ≤ m → ∀ i j, i < m → j < m → rd (it st b S0) i j = if i = a ∧ j < b then c (rd S0 a j) A (rd S0 k j) else rd S0 i j
  | 0, _, i, j, _, _ => by rw [if_neg (by omega)]; rfl
  | b + 1, hb, i, j, hi, hj => by
    have ih := gr_row rd c ha hk st S0 A hA hst h1 b (by omega)
    have e1 : rd (it st b S0) a k = A := by
      rw [ih a k ha hk]
      split
      · rename_i h; rw [hA]; exact h1
      · exact hA
    have e2 : rd (it st b S0) k b = rd S0 k b := by
      rw [ih k b hk (by omega), if_neg (by omega)]
    have e3 : rd (it st b S0) a b = rd S0 a b := by
      rw [ih a b ha (by omega), if_neg (by omega)]
    show rd (st b (it st b S0)) i j = _
    rw [hst b _ (by omega) e1 i j hi hj, e2, e3]
    by_cases h : i = a ∧ j = b
    · rw [if_pos h, if_pos (by omega), h.2]
    · rw [if_neg h, ih i j hi hj]
      by_cases h2 : i = a ∧ j < b
      · rw [if_pos h2, if_pos (by omega)]
      · rw [if_neg h2, if_neg (by omega)]
theorem gr_all {S : Type} (rd : S → Nat → Nat → Int32) (c : Int32 → Int32 → Int32 → Int32) {m k : Nat} (hk : k < m) (row : Nat → S → S) (S0 : S)
    (hrow : ∀ a s, a < m → c (rd s a k) (rd s a k) (rd s k k) = rd s a k → ∀ i j, i < m → j < m → rd (row a s) i j = if i = a then c (rd s a j) (rd s a k) (rd s k j) else rd s i j)
    (h1 : ∀ i, i < m → c (rd S0 i k) (rd S0 i k) (rd S0 k k) = rd S0 i k) (h2 : ∀ j, j < m → c (rd S0 k j) (rd S0 k k) (rd S0 k j) = rd S0 k j) :
    ∀ a, a ≤ m → ∀ i j, i < m → j < m → rd (it row a S0) i j = if i < a then c (rd S0 i j) (rd S0 i k) (rd S0 k j) else rd S0 i j
  | 0, _, i, j, _, _ => by rw [if_neg (by omega)]; rfl
  | a + 1, ha, i, j, hi, hj => by
    have ih := gr_all rd c hk row S0 hrow h1 h2 a (by omega)
    have e1 : rd (it row a S0) a k = rd S0 a k := by rw [ih a k (by omega) hk, if_neg (by omega)]
    have e2 : rd (it row a S0) k k = rd S0 k k := by
      rw [ih k k hk hk]
      split
      · exact h1 k hk
      · rfl
    have e3 : ∀ j, j < m → rd (it row a S0) k j = rd S0 k j := fun j hj => by
      rw [ih k j hk hj]
      split
      · exact h2 j hj
      · rfl
    show rd (row a (it row a S0)) i j = _
    rw [hrow a _ (by omega) (by rw [e1, e2]; exact h1 a (by omega)) i j hi hj]
    by_cases h : i = a
    · rw [if_pos h, if_pos (by omega), e1, e3 j hj, ih a j (by omega) hj, if_neg (by omega), h]
    · rw [if_neg h, ih i j hi hj]
      by_cases h3 : i < a
      · rw [if_pos h3, if_pos (by omega)]
      · rw [if_neg h3, if_neg (by omega)]
/-! one round of the class's times, one round of the reference's leads -/
theorem xg_at {M : Nat → Nat → Int32} {a b i j : Nat} {x : Int32} : xg_up M a b x i j = if i = a ∧ j = b then x else M i j := by
  unfold xg_up
  by_cases h : i = a
  · rw [if_pos h]
    by_cases h2 : j = b
    · rw [if_pos ⟨h, h2⟩, h2]; exact pk_us
    · rw [if_neg (fun q => h2 q.2)]; exact pk_un h2
  · rw [if_neg h, if_neg (fun q => h q.1)]
def fw_c (x a b : Int32) : Int32 := if a = -1 then x else if b = -1 then x else if x = -1 then a + b else if x ≤ a + b then x else a + b
def ml_c (x a b : Int32) : Int32 := if x = 0 then (if a = 0 then 0 else if b = 0 then 0 else 1) else 1
theorem pa_sh_at {V : Nat → Nat → Int32} {a b i j : Nat} {x : Int32} (hb : b < 24) : pa_sh V a (nI b) x i j = if i = a ∧ j = b then (if V a b = -1 then x else if V a b ≤ x then V a b else x) else V i j := by
  unfold pa_sh
  rw [if_neg (nI_pos (by omega)), if_pos (show nI b < 24 from nI_lt (b := 24) hb (by decide)), nI_clamp (by omega)]
  by_cases h : i = a ∧ j = b
  · rw [if_pos h]
    split
    · rw [xg_at, if_pos h]
    · split
      · rw [h.1, h.2]
      · rw [xg_at, if_pos h]
  · rw [if_neg h]
    split
    · rw [xg_at, if_neg h]
    · split
      · rfl
      · rw [xg_at, if_neg h]
theorem nI_add_m1 {a b : Nat} (ha : a ≤ 249975000) (hb : b ≤ 249975000) : ¬ nI a + nI b = -1 := by
  rw [nI_add]
  exact nI_ne_m1 (by omega)
theorem fw_step {T : Nat → Nat → Int32} {m k : Nat} (hm : m ≤ 24) (hk : k < m) (hC : ∀ i j, i < m → j < m → T i j = -1 ∨ ∃ x, x ≤ 249975000 ∧ T i j = nI x) : ∀ i j, i < m → j < m → pa_f1 m k T i j = fw_c (T i j) (T i k) (T k j) := by
  intro i j hi hj
  have hrow : ∀ a (s : Nat → Nat → Int32), a < m → fw_c (s a k) (s a k) (s k k) = s a k → ∀ i j, i < m → j < m → pa_f2 m k a s i j = if i = a then fw_c (s a j) (s a k) (s k j) else s i j := by
    intro a s ha h1 i j hi hj
    show pa_jn s k a m i j = _
    unfold pa_jn
    by_cases hA : s a k = -1
    · rw [if_pos hA]
      by_cases h : i = a
      · rw [if_pos h, fw_c, if_pos hA, h]
      · rw [if_neg h]
    · rw [if_neg hA]
      have := gr_row (fun (V : Nat → Nat → Int32) i j => V i j) fw_c ha hk (fun b V => if V k b = -1 then V else pa_sh V a (nI b) (s a k + V k b)) s (s a k) rfl (by
        intro b V hb _ i j hi hj
        show (if V k b = -1 then V else pa_sh V a (nI b) (s a k + V k b)) i j = if i = a ∧ j = b then fw_c (V a b) (s a k) (V k b) else V i j
        by_cases h : i = a ∧ j = b
        · rw [if_pos h, fw_c, if_neg hA]
          by_cases hb1 : V k b = -1
          · rw [if_pos hb1, if_pos hb1, h.1, h.2]
          · rw [if_neg hb1, if_neg hb1, pa_sh_at (by omega), if_pos h]
        · rw [if_neg h]
          by_cases hb1 : V k b = -1
          · rw [if_pos hb1]
          · rw [if_neg hb1, pa_sh_at (by omega), if_neg h]) h1 m (Nat.le_refl _) i j hi hj
      refine this.trans ?_
      by_cases h : i = a
      · rw [if_pos ⟨h, hj⟩, if_pos h]
      · rw [if_neg (fun q => h q.1), if_neg h]
  have hxx : ∀ x b : Int32, (x = -1 ∨ ∃ y, y ≤ 249975000 ∧ x = nI y) → (b = -1 ∨ ∃ y, y ≤ 249975000 ∧ b = nI y) → fw_c x x b = x ∧ fw_c x b x = x := by
    intro x b hx hb
    rcases hx with rfl | ⟨y, hy, rfl⟩
    · refine ⟨if_pos rfl, ?_⟩
      unfold fw_c
      split
      · rfl
      · exact if_pos rfl
    · have n1 := nI_ne_m1 (p := y) (by omega)
      rcases hb with rfl | ⟨z, hz, rfl⟩
      · exact ⟨by rw [fw_c, if_neg n1, if_pos rfl], by rw [fw_c, if_pos rfl]⟩
      · have n2 := nI_ne_m1 (p := z) (by omega)
        exact ⟨by rw [fw_c, if_neg n1, if_neg n2, if_neg n1, nI_add, if_pos (nI_le (by omega) (by omega))], by rw [fw_c, if_neg n2, if_neg n1, if_neg n1, nI_add, if_pos (nI_le (by omega) (by omega))]⟩
  have h := gr_all (fun (V : Nat → Nat → Int32) i j => V i j) fw_c hk (pa_f2 m k) T hrow (fun i hi => (hxx _ _ (hC i k hi hk) (hC k k hk hk)).1) (fun j hj => (hxx _ _ (hC k j hk hj) (hC k k hk hk)).2) m (Nat.le_refl _) i j hi hj
  exact h.trans (if_pos hi)
theorem ml_step {L : Nat → Int32} {m k : Nat} (hm : m ≤ 24) (hk : k < m) (h01 : ∀ i j, i < m → j < m → L (24 * i + j) = 0 ∨ L (24 * i + j) = 1) : ∀ i j, i < m → j < m → mo_w1 m k L (24 * i + j) = ml_c (L (24 * i + j)) (L (24 * i + k)) (L (24 * k + j)) := by
  intro i j hi hj
  have hrow : ∀ a (s : Nat → Int32), a < m → ml_c (s (24 * a + k)) (s (24 * a + k)) (s (24 * k + k)) = s (24 * a + k) → ∀ i j, i < m → j < m → mo_w2 m k a s (24 * i + j) = if i = a then ml_c (s (24 * a + j)) (s (24 * a + k)) (s (24 * k + j)) else s (24 * i + j) := by
    intro a s ha h1 i j hi hj
    have := gr_row (fun (V : Nat → Int32) i j => V (24 * i + j)) ml_c ha hk (mo_w3 k a) s (s (24 * a + k)) rfl (by
      intro b V hb hVa i j hi hj
      show upd V (24 * a + b) (mo_v3 V k a b) (24 * i + j) = _
      have hVa : V (24 * a + k) = s (24 * a + k) := hVa
      by_cases h : i = a ∧ j = b
      · rw [if_pos h, h.1, h.2, pk_us, mo_v3, hVa]
        rfl
      · rw [if_neg h, pk_un (by omega)]) h1 m (Nat.le_refl _) i j hi hj
    refine (show mo_w2 m k a s (24 * i + j) = _ from this).trans ?_
    by_cases h : i = a
    · rw [if_pos ⟨h, hj⟩, if_pos h]
    · rw [if_neg (fun q => h q.1), if_neg h]
  have hxx : ∀ x b : Int32, (x = 0 ∨ x = 1) → ml_c x x b = x ∧ ml_c x b x = x := by
    intro x b hx
    unfold ml_c
    rcases hx with rfl | rfl
    · refine ⟨by rw [if_pos rfl, if_pos rfl], ?_⟩
      rw [if_pos rfl]
      split
      · rfl
      · rw [if_pos rfl]
    · exact ⟨if_neg (by decide), if_neg (by decide)⟩
  have h := gr_all (fun (V : Nat → Int32) i j => V (24 * i + j)) ml_c hk (mo_w2 m k) L hrow (fun i hi => (hxx _ _ (h01 i k hi hk)).1) (fun j hj => (hxx _ _ (h01 k j hk hj)).2) m (Nat.le_refl _) i j hi hj
  exact (show mo_w1 m k L (24 * i + j) = _ from h).trans (if_pos hi)
/-- what stands behind k rounds -/
def fw_I (e : Nat → Nat → Prop) (t : Nat → Nat) (m k : Nat) (T : Nat → Nat → Int32) (L : Nat → Int32) : Prop := ∀ i j, i < m → j < m →
  (T i j = -1 ∨ ∃ l, gw e i l j ∧ (∀ v ∈ l, v < k) ∧ T i j = nI (gs t i l) ∧ gs t i l ≤ 249975000) ∧
  (∀ l, gw e i l j → (∀ v ∈ l, v < k) → ∃ x, T i j = nI x ∧ x ≤ gs t i l ∧ x ≤ 249975000) ∧
  (L (24 * i + j) = 0 ∨ L (24 * i + j) = 1) ∧ (T i j = -1 ↔ L (24 * i + j) = 0)
theorem fw_I.val {e : Nat → Nat → Prop} {t : Nat → Nat} {m k : Nat} {T : Nat → Nat → Int32} {L : Nat → Int32} (h : fw_I e t m k T L) : ∀ i j, i < m → j < m → T i j = -1 ∨ ∃ x, x ≤ 249975000 ∧ T i j = nI x := fun i j hi hj => by
  rcases (h i j hi hj).1 with q | ⟨l, -, -, h1, h2⟩
  · exact Or.inl q
  · exact Or.inr ⟨_, h2, h1⟩
theorem fw_c_le {x y z : Nat} (hx : x ≤ 249975000) {a b : Int32} (ha : a = -1 ∨ ∃ y, y ≤ 249975000 ∧ a = nI y) (hb : b = -1 ∨ ∃ y, y ≤ 249975000 ∧ b = nI y) : ∃ w, fw_c (nI x) a b = nI w ∧ w ≤ x := by
  unfold fw_c
  rcases ha with rfl | ⟨y, hy, rfl⟩
  · exact ⟨x, if_pos rfl, Nat.le_refl _⟩
  · rw [if_neg (nI_ne_m1 (by omega))]
    rcases hb with rfl | ⟨z, hz, rfl⟩
    · exact ⟨x, if_pos rfl, Nat.le_refl _⟩
    · rw [if_neg (nI_ne_m1 (by omega)), if_neg (nI_ne_m1 (by omega)), nI_add]
      by_cases h : x ≤ y + z
      · exact ⟨x, if_pos (nI_le h (by omega)), Nat.le_refl _⟩
      · exact ⟨y + z, if_neg (nI_ge (by omega) (by omega)), by omega⟩
theorem fw_c_sum {y z : Nat} (hy : y ≤ 249975000) (hz : z ≤ 249975000) {x : Int32} (hx : x = -1 ∨ ∃ y, y ≤ 249975000 ∧ x = nI y) : ∃ w, fw_c x (nI y) (nI z) = nI w ∧ w ≤ y + z := by
  unfold fw_c
  rw [if_neg (nI_ne_m1 (by omega)), if_neg (nI_ne_m1 (by omega)), nI_add]
  rcases hx with rfl | ⟨x, hx, rfl⟩
  · exact ⟨y + z, if_pos rfl, Nat.le_refl _⟩
  · rw [if_neg (nI_ne_m1 (by omega))]
    by_cases h : x ≤ y + z
    · exact ⟨x, if_pos (nI_le h (by omega)), h⟩
    · exact ⟨y + z, if_neg (nI_ge (by omega) (by omega)), Nat.le_refl _⟩
theorem fw_next {e : Nat → Nat → Prop} {t : Nat → Nat} {m k : Nat} {T : Nat → Nat → Int32} {L : Nat → Int32} (hm : m ≤ 24) (hk : k < m) (hB : ∀ v, t v ≤ 9999000) (h : fw_I e t m k T L) : fw_I e t m (k + 1) (pa_f1 m k T) (mo_w1 m k L) := by
  intro i j hi hj
  have hC := h.val
  rw [fw_step hm hk hC i j hi hj, ml_step hm hk (fun i j hi hj => (h i j hi hj).2.2.1) i j hi hj]
  have two : ∀ l, gw e i l j → (∀ v ∈ l, v < k + 1) → ∃ x, fw_c (T i j) (T i k) (T k j) = nI x ∧ x ≤ gs t i l ∧ x ≤ 249975000 := by
    intro l hl hlt
    obtain ⟨l', h1, h2, h3, h4⟩ := gw_simple t l i hl
    have hlen := pg_hole (k + 1) l' h3 (fun v hv => hlt v (h2 v hv))
    have hgs := gs_le hB l' i
    have hgs2 : gs t i l' ≤ 249975000 := Nat.le_trans hgs (Nat.le_trans (Nat.mul_le_mul_right 9999000 (show l'.length + 1 ≤ 25 by omega)) (by decide))
    by_cases hx : k ∈ l'
    · obtain ⟨a, c, rfl⟩ := List.append_of_mem hx
      have hd := List.nodup_append.mp h3
      have ha : ∀ v ∈ a, v < k := fun v hv => by
        have q1 := hlt v (h2 v (List.mem_append_left _ hv))
        have q2 : v ≠ k := hd.2.2 v hv k List.mem_cons_self
        omega
      have hc : ∀ v ∈ c, v < k := fun v hv => by
        have q1 := hlt v (h2 v (List.mem_append_right _ (List.mem_cons_of_mem _ hv)))
        have q2 : v ≠ k := fun q => (List.nodup_cons.mp hd.2.1).1 (q ▸ hv)
        omega
      have hw := (gw_app a i).mp h1
      obtain ⟨x1, e1, b1, c1⟩ := (h i k hi hk).2.1 a hw.1 ha
      obtain ⟨x2, e2, b2, c2⟩ := (h k j hk hj).2.1 c hw.2 hc
      rw [gs_app] at h4 hgs2
      rw [e1, e2]
      obtain ⟨w, hw1, hw2⟩ := fw_c_sum c1 c2 (hC i j hi hj)
      exact ⟨w, hw1, by omega, by omega⟩
    · obtain ⟨x, e1, b1, c1⟩ := (h i j hi hj).2.1 l' h1 (fun v hv => by
        have q1 := hlt v (h2 v hv)
        have q2 : v ≠ k := fun q => hx (q ▸ hv)
        omega)
      rw [e1]
      obtain ⟨w, hw1, hw2⟩ := fw_c_le (y := 0) (z := 0) c1 (hC i k hi hk) (hC k j hk hj)
      exact ⟨w, hw1, by omega, by omega⟩
  have old : (T i j = -1 ∨ ∃ l, gw e i l j ∧ (∀ v ∈ l, v < k + 1) ∧ T i j = nI (gs t i l) ∧ gs t i l ≤ 249975000) := by
    rcases (h i j hi hj).1 with q | ⟨l, a1, a2, a3, a4⟩
    · exact Or.inl q
    · exact Or.inr ⟨l, a1, fun v hv => by have := a2 v hv; omega, a3, a4⟩
  refine ⟨?_, two, ?_, ?_⟩
  · by_cases hA : T i k = -1
    · rw [fw_c, if_pos hA]; exact old
    · by_cases hA2 : T k j = -1
      · rw [fw_c, if_neg hA, if_pos hA2]; exact old
      · obtain ⟨l1, a1, a2, a3, a4⟩ := (h i k hi hk).1.resolve_left hA
        obtain ⟨l2, b1, b2, b3, b4⟩ := (h k j hk hj).1.resolve_left hA2
        have key : T i k + T k j = nI (gs t i (l1 ++ k :: l2)) := by rw [a3, b3, nI_add, gs_app]
        have wk : gw e i (l1 ++ k :: l2) j := (gw_app l1 i).mpr ⟨a1, b1⟩
        have lt : ∀ v ∈ l1 ++ k :: l2, v < k + 1 := fun v hv => by
          rcases List.mem_append.mp hv with q | q
          · have := a2 v q; omega
          · rcases List.mem_cons.mp q with q | q
            · omega
            · have := b2 v q; omega
        have fin : fw_c (T i j) (T i k) (T k j) = T i k + T k j → ∃ l, gw e i l j ∧ (∀ v ∈ l, v < k + 1) ∧ fw_c (T i j) (T i k) (T k j) = nI (gs t i l) ∧ gs t i l ≤ 249975000 := by
          intro q
          obtain ⟨x, x1, x2, x3⟩ := two _ wk lt
          have hb : gs t i (l1 ++ k :: l2) ≤ 499950000 := by rw [gs_app]; omega
          have : x = gs t i (l1 ++ k :: l2) := (nI_eq (by omega) (by omega)).mp (x1.symm.trans (q.trans key))
          exact ⟨_, wk, lt, q.trans key, by omega⟩
        by_cases hx : T i j = -1
        · exact Or.inr (fin (by rw [fw_c, if_neg hA, if_neg hA2, if_pos hx]))
        · by_cases hx2 : T i j ≤ T i k + T k j
          · rw [fw_c, if_neg hA, if_neg hA2, if_neg hx, if_pos hx2]; exact old
          · exact Or.inr (fin (by rw [fw_c, if_neg hA, if_neg hA2, if_neg hx, if_neg hx2]))
  · unfold ml_c
    split
    · split
      · exact Or.inl rfl
      · split
        · exact Or.inl rfl
        · exact Or.inr rfl
    · exact Or.inr rfl
  · have f1 := (h i j hi hj).2.2.2
    have f2 := (h i k hi hk).2.2.2
    have f3 := (h k j hk hj).2.2.2
    by_cases hA : T i k = -1
    · rw [fw_c, if_pos hA, ml_c, if_pos (f2.mp hA)]
      rw [f1]
      exact ⟨fun q => if_pos q, fun q => by
        by_cases q2 : L (24 * i + j) = 0
        · exact q2
        · rw [if_neg q2] at q; exact absurd q (by decide)⟩
    · by_cases hA2 : T k j = -1
      · rw [fw_c, if_neg hA, if_pos hA2, ml_c, if_neg (fun q => hA (f2.mpr q)), if_pos (f3.mp hA2), f1]
        exact ⟨fun q => if_pos q, fun q => by
          by_cases q2 : L (24 * i + j) = 0
          · exact q2
          · rw [if_neg q2] at q; exact absurd q (by decide)⟩
      · have z1 : ml_c (L (24 * i + j)) (L (24 * i + k)) (L (24 * k + j)) = 1 := by
          rw [ml_c, if_neg (fun q => hA (f2.mpr q)), if_neg (fun q => hA2 (f3.mpr q))]
          split <;> rfl
        rw [z1]
        refine ⟨fun q => ?_, fun q => absurd q (by decide)⟩
        obtain ⟨x1, b1, c1⟩ := (hC i k hi hk).resolve_left hA
        obtain ⟨x2, b2, c2⟩ := (hC k j hk hj).resolve_left hA2
        rw [c1, c2] at q
        obtain ⟨w, hw1, hw2⟩ := fw_c_sum b1 b2 (hC i j hi hj)
        rw [hw1] at q
        exact absurd q (nI_ne_m1 (by omega))
theorem fw_all {e : Nat → Nat → Prop} {t : Nat → Nat} {m : Nat} {T : Nat → Nat → Int32} {L : Nat → Int32} (hm : m ≤ 24) (hB : ∀ v, t v ≤ 9999000) (h : fw_I e t m 0 T L) : ∀ k, k ≤ m → fw_I e t m k (it (pa_f1 m) k T) (it (mo_w1 m) k L)
  | 0, _ => h
  | k + 1, hk => fw_next hm (by omega) hB (fw_all hm hB h k (by omega))
