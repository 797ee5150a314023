abbrev enP (μ : St) (a t : Nat) : Prop := ∀ q : Nat, q < 6 → μ (4 + t) q ≤ μ a q
def NI (μ : St) (P T : Nat) : Prop := P ≤ 6 ∧ T ≤ 8 ∧ μ 1 0 = P ∧ μ 1 1 = T ∧ (∀ q : Nat, q < 6 → 0 ≤ μ 2 q ∧ μ 2 q ≤ 9) ∧ (∀ t q : Nat, t < 8 → q < 6 → 0 ≤ μ (4 + t) q ∧ μ (4 + t) q ≤ 4 ∧ 0 ≤ μ (13 + t) q ∧ μ (13 + t) q ≤ 4)
def mkP (μ : St) (i : Nat) : Prop := ∀ q : Nat, q < 6 → (0 ≤ μ (24 + i) q ∧ μ (24 + i) q ≤ 9 + 4 * i) ∨ μ (24 + i) q = 1000000
def feP (μ : St) (n : Nat) : Prop := (μ 22 2 = -2 ∧ ∀ i q : Nat, i < n → q < 6 → μ (24 + i) q ≠ 1000000) ∨ ∃ f : Nat, f < n ∧ μ 22 2 = f ∧ ∃ i q : Nat, i < n ∧ q < 6 ∧ μ (24 + i) q = 1000000
def TI (μ : St) (T n : Nat) : Prop := 1 ≤ n ∧ n ≤ 100 ∧ μ 22 1 = n ∧ chP μ n ∧ (∀ i : Nat, i < n → mkP μ i) ∧ (∀ i : Nat, 0 < i → i < n → ∃ b : Nat, μ 125 i = b ∧ b < T) ∧ (∀ i : Nat, i < n → μ 127 i = 0 ∨ μ 127 i = 1) ∧ feP μ n ∧ μ 124 0 = -2 ∧ μ 125 0 = -2
theorem ch5_ne (μ : St) {n : Nat} (u t : Nat) {x : Nat} (h1 : x ≠ 22) (h2 : x ≠ 24 + n) (h3 : x ≠ 124) (h4 : x ≠ 125) (h5 : x ≠ 126) (k : Int) : ch5 μ n u t x k = μ x k := by
  unfold ch5 ch4
  rw [repS_ne _ _ _ _ h1 h2, updS_ne _ _ _ _ h5, updS_ne _ _ _ _ h4, updS_ne _ _ _ _ h3, preS_ne _ _ _ _ h2]
theorem chS_ne (μ : St) {n : Nat} (u t : Nat) {x : Nat} (h1 : x ≠ 22) (h2 : x ≠ 24 + n) (h3 : x ≠ 124) (h4 : x ≠ 125) (h5 : x ≠ 126) (h6 : x ≠ 127) (k : Int) : chS μ n u t x k = μ x k := by
  unfold chS
  rw [updS_ne _ _ _ _ h1, updS_ne _ _ _ _ h6, ch5_ne _ _ _ h1 h2 h3 h4 h5]
theorem chS_out (μ : St) {n : Nat} (hn : n < 100) (u t : Nat) {x : Nat} (h1 : x ≠ 22) (h2 : x < 24 ∨ 128 ≤ x) (k : Int) : chS μ n u t x k = μ x k :=
  chS_ne μ u t h1 (by omega) (by omega) (by omega) (by omega) (by omega) k
theorem ch5_124 (μ : St) {n : Nat} (hn : n < 100) (u t : Nat) (k : Int) : ch5 μ n u t 124 k = if k = n then (u : Int) else μ 124 k := by
  unfold ch5
  rw [repS_ne _ _ _ _ (by omega) (by omega), ch4_124 _ _ _ _ hn]
theorem ch5_126 (μ : St) {n : Nat} (hn : n < 100) (u t : Nat) (k : Int) : ch5 μ n u t 126 k = if k = n then μ 126 u + 1 else μ 126 k := by
  unfold ch5
  rw [repS_ne _ _ _ _ (by omega) (by omega), ch4_126 _ _ _ _ hn]
theorem ch5_125 (μ : St) {n : Nat} (hn : n < 100) (u t : Nat) (k : Int) : ch5 μ n u t 125 k = if k = n then (t : Int) else μ 125 k := by
  unfold ch5 ch4
  rw [repS_ne _ _ _ _ (by omega) (by omega), updS_ap, if_neg (by omega), updS_ap]
  by_cases h : k = n
  · rw [if_pos ⟨rfl, h⟩, if_pos h]
  · rw [if_neg (fun z => h z.2), if_neg h, updS_ap, if_neg (by omega), preS_ne _ _ _ _ (by omega)]
theorem chS_124 (μ : St) {n : Nat} (hn : n < 100) (u t : Nat) (k : Int) : chS μ n u t 124 k = if k = n then (u : Int) else μ 124 k := by
  unfold chS
  rw [updS_ne _ _ _ _ (by omega), updS_ne _ _ _ _ (by omega), ch5_124 _ hn]
theorem chS_125 (μ : St) {n : Nat} (hn : n < 100) (u t : Nat) (k : Int) : chS μ n u t 125 k = if k = n then (t : Int) else μ 125 k := by
  unfold chS
  rw [updS_ne _ _ _ _ (by omega), updS_ne _ _ _ _ (by omega), ch5_125 _ hn]
theorem chS_126 (μ : St) {n : Nat} (hn : n < 100) (u t : Nat) (k : Int) : chS μ n u t 126 k = if k = n then μ 126 u + 1 else μ 126 k := by
  unfold chS
  rw [updS_ne _ _ _ _ (by omega), updS_ne _ _ _ _ (by omega), ch5_126 _ hn]
theorem chS_127 (μ : St) {n : Nat} (hn : n < 100) (u t : Nat) (k : Int) : chS μ n u t 127 k = if k = n then amo (ch5 μ n u t) n else μ 127 k := by
  unfold chS
  rw [updS_ne _ _ _ _ (by omega), updS_ap]
  by_cases h : k = n
  · rw [if_pos ⟨rfl, h⟩, if_pos h]
  · rw [if_neg (fun z => h z.2), if_neg h, ch5_ne _ _ _ (by omega) (by omega) (by omega) (by omega) (by omega)]
theorem chS_row (μ : St) {n : Nat} (hn : n < 100) (u t i : Nat) (k : Int) : chS μ n u t (24 + i) k = if 24 + i = 22 ∨ 24 + i = 127 then chS μ n u t (24 + i) k else ch5 μ n u t (24 + i) k := by
  split
  · rfl
  · unfold chS
    rw [updS_ne _ _ _ _ (by omega), updS_ne _ _ _ _ (by omega)]
theorem chS_mk (μ : St) {n : Nat} (hn : n < 100) (u t : Nat) {i : Nat} (hi : i < n) (k : Int) : chS μ n u t (24 + i) k = μ (24 + i) k :=
  chS_ne μ u t (by omega) (by omega) (by omega) (by omega) (by omega) (by omega) k
theorem chS_mkn (μ : St) {n : Nat} (hn : n < 100) (u t : Nat) (k : Int) : chS μ n u t (24 + n) k = ch5 μ n u t (24 + n) k := by
  unfold chS
  rw [updS_ne _ _ _ _ (by omega), updS_ne _ _ _ _ (by omega)]
theorem chS_22 (μ : St) {n : Nat} (hn : n < 100) (u t : Nat) : chS μ n u t 22 1 = ((n + 1 : Nat) : Int) := by
  unfold chS
  rw [updS_self]
  omega
theorem chS_22' (μ : St) {n : Nat} (hn : n < 100) (u t : Nat) {k : Int} (hk : k ≠ 1) : chS μ n u t 22 k = ch5 μ n u t 22 k := by
  unfold chS
  rw [updS_nk _ _ _ _ hk, updS_ne _ _ _ _ (by omega)]
theorem hitS_row {R : Int → Prop} (hW : R 1000000) (μ : St) (n a : Nat) (d : Int) (h : ∀ q : Nat, q < 6 → R (μ (24 + n) q)) : ∀ q : Nat, q < 6 → R (hitS μ n a d (24 + n) q) := by
  intro q hq
  unfold hitS
  split
  · rw [noteS_ne _ _ _ (by omega), preS_ap, if_pos ⟨rfl, by omega, by omega⟩]
    unfold moreV
    split
    · exact hW
    · exact h q hq
  · exact h q hq
theorem repS_row {R : Int → Prop} (hW : R 1000000) : ∀ (d : Nat) (μ : St) (n a : Nat) (h : ∀ q : Nat, q < 6 → R (μ (24 + n) q)), ∀ q : Nat, q < 6 → R (repS d μ n a (24 + n) q)
  | 0, μ, n, a, h => hitS_row hW μ n a 0 h
  | d + 1, μ, n, a, h => by
    rw [repS_succ]
    exact repS_row hW d _ n _ (hitS_row hW μ n a _ h)
theorem hitS_fe (μ : St) (n a : Nat) (d : Int) : (hitS μ n a d = μ) ∨ ((∃ q : Nat, q < 6 ∧ hitS μ n a d (24 + n) q = 1000000) ∧ hitS μ n a d 22 2 = if μ 22 2 = -2 then (n : Int) else μ 22 2) := by
  unfold hitS
  split
  · rename_i hh
    refine Or.inr ⟨?_, ?_⟩
    · have : ∃ q : Nat, q < 6 ∧ μ (24 + a) q < μ (24 + n) q := by
        refine Classical.byContradiction (fun hc => hh.2 (fun q hq => ?_))
        have h1 := hh.1 q hq
        have h2 : ¬ μ (24 + a) q < μ (24 + n) q := fun z => hc ⟨q, hq, z⟩
        omega
      obtain ⟨q, hq, h1⟩ := this
      refine ⟨q, hq, ?_⟩
      rw [noteS_ne _ _ _ (by omega), preS_ap, if_pos ⟨rfl, by omega, by omega⟩]
      unfold moreV
      rw [if_pos h1]
    · unfold noteS
      rw [preS_ne _ _ _ _ (by omega)]
      split
      · rw [updS_nk _ _ _ _ (by decide), updS_self]
      · rw [preS_ne _ _ _ _ (by omega)]
  · exact Or.inl rfl
theorem repS_W : ∀ (d : Nat) (μ : St) (n a : Nat) (q : Nat), q < 6 → μ (24 + n) q = 1000000 → repS d μ n a (24 + n) q = 1000000 := by
  have hh : ∀ (μ : St) (n a : Nat) (d : Int) (q : Nat), q < 6 → μ (24 + n) q = 1000000 → hitS μ n a d (24 + n) q = 1000000 := by
    intro μ n a d q hq h
    unfold hitS
    split
    · rw [noteS_ne _ _ _ (by omega), preS_ap, if_pos ⟨rfl, by omega, by omega⟩]
      unfold moreV
      split
      · rfl
      · exact h
    · exact h
  intro d
  induction d with
  | zero => exact fun μ n a q hq h => hh μ n a 0 q hq h
  | succ d ih =>
    intro μ n a q hq h
    rw [repS_succ]
    exact ih _ _ _ q hq (hh μ n a _ q hq h)
theorem repS_fe2 : ∀ (d : Nat) (μ : St) (n a : Nat), μ 22 2 ≠ -2 → repS d μ n a 22 2 = μ 22 2 := by
  have hh : ∀ (μ : St) (n a : Nat) (d : Int), μ 22 2 ≠ -2 → hitS μ n a d 22 2 = μ 22 2 := by
    intro μ n a d h
    rcases hitS_fe μ n a d with e | ⟨-, e⟩
    · rw [e]
    · rw [e, if_neg h]
  intro d
  induction d with
  | zero => exact fun μ n a h => hh μ n a 0 h
  | succ d ih =>
    intro μ n a h
    rw [repS_succ, ih _ _ _ (by rw [hh μ n a _ h]; exact h), hh μ n a _ h]
theorem repS_fe : ∀ (d : Nat) (μ : St) (n a : Nat), μ 22 2 = -2 → (repS d μ n a 22 2 = -2 ∧ ∀ q : Nat, repS d μ n a (24 + n) q = μ (24 + n) q) ∨ (repS d μ n a 22 2 = n ∧ ∃ q : Nat, q < 6 ∧ repS d μ n a (24 + n) q = 1000000) := by
  intro d
  induction d with
  | zero =>
    intro μ n a h
    show (hitS μ n a 0 22 2 = -2 ∧ ∀ q : Nat, hitS μ n a 0 (24 + n) q = μ (24 + n) q) ∨ (hitS μ n a 0 22 2 = n ∧ ∃ q : Nat, q < 6 ∧ hitS μ n a 0 (24 + n) q = 1000000)
    rcases hitS_fe μ n a 0 with e | ⟨e1, e2⟩
    · rw [e]
      exact Or.inl ⟨h, fun q => rfl⟩
    · rw [e2, if_pos h]
      exact Or.inr ⟨rfl, e1⟩
  | succ d ih =>
    intro μ n a h
    rw [repS_succ]
    rcases hitS_fe μ n a ((d + 1 : Nat) : Int) with e | ⟨⟨q, hq, e1⟩, e2⟩
    · rw [e]
      exact ih μ n _ h
    · rw [if_pos h] at e2
      refine Or.inr ⟨?_, q, hq, repS_W d _ n _ q hq e1⟩
      rw [repS_fe2 d _ n _ (by rw [e2]; omega), e2]
theorem fireV_b {μ : St} {P T n u t : Nat} (hN : NI μ P T) (hT : TI μ T n) (hu : u < n) (ht : t < T) (he : enP μ (24 + u) t) : ∀ q : Nat, q < 6 → (0 ≤ fireV μ (24 + u) t q ∧ fireV μ (24 + u) t q ≤ 9 + 4 * (u + 1)) ∨ fireV μ (24 + u) t q = 1000000 := by
  intro q hq
  have h1 := hT.2.2.2.2.1 u hu q hq
  have h2 := hN.2.2.2.2.2 t q (by have := hN.2.1; omega) hq
  have h3 := he q hq
  unfold fireV
  split
  · exact Or.inr (by assumption)
  · refine Or.inl ?_
    omega
theorem fireV_r {μ : St} {P T n u t : Nat} (hN : NI μ P T) (hT : TI μ T n) (hu : u < n) (ht : t < T) (he : enP μ (24 + u) t) : ∀ q : Nat, q < 6 → InR (fireV μ (24 + u) t q) := by
  intro q hq
  have hn := hT.2.1
  rcases fireV_b hN hT hu ht he q hq with h | h
  · exact ⟨by omega, by omega⟩
  · rw [h]
    exact ⟨by decide, by decide⟩
theorem ch4_row (μ : St) {n : Nat} (hn : n < 100) (u t q : Nat) (hq : q < 6) : ch4 μ n u t (24 + n) q = fireV μ (24 + u) t q := by
  unfold ch4
  rw [updS_ne _ _ _ _ (by omega), updS_ne _ _ _ _ (by omega), updS_ne _ _ _ _ (by omega), preS_ap, if_pos ⟨rfl, by omega, by omega⟩]
theorem ch4_22 (μ : St) {n : Nat} (u t : Nat) (k : Int) : ch4 μ n u t 22 k = μ 22 k := by
  unfold ch4
  rw [updS_ne _ _ _ _ (by omega), updS_ne _ _ _ _ (by omega), updS_ne _ _ _ _ (by omega), preS_ne _ _ _ _ (by omega)]
theorem NI_ne {μ σ : St} {P T : Nat} (h : NI μ P T) (e : ∀ x k, x < 22 → σ x k = μ x k) : NI σ P T := by
  obtain ⟨h1, h2, h3, h4, h5, h6⟩ := h
  refine ⟨h1, h2, by rw [e _ _ (by omega)]; exact h3, by rw [e _ _ (by omega)]; exact h4, fun q hq => by rw [e _ _ (by omega)]; exact h5 q hq, fun t q ht hq => ?_⟩
  rw [e _ _ (by omega), e _ _ (by omega)]
  exact h6 t q ht hq
theorem NI_ch {μ : St} {P T n : Nat} (h : NI μ P T) (hn : n < 100) (u t : Nat) : NI (chS μ n u t) P T :=
  NI_ne h (fun x k hx => chS_out μ hn u t (by omega) (by omega) k)
theorem TI_ch {μ : St} {P T n u t : Nat} (hN : NI μ P T) (hT : TI μ T n) (hn : n < 100) (hu : u < n) (ht : t < T) (he : enP μ (24 + u) t) : TI (chS μ n u t) T (n + 1) := by
  have hfb := fireV_b hN hT hu ht he
  obtain ⟨h1, h2, h3, h4, h5, h6, h7, h8, h9, h10⟩ := id hT
  refine ⟨by omega, by omega, chS_22 μ hn u t, ?_, ?_, ?_, ?_, ?_, ?_, ?_⟩
  · intro i hi
    by_cases e : i = n
    · subst e
      obtain ⟨d, hd1, hd2⟩ := chP_le h4 u hu
      refine Or.inr ⟨u, d, hu, ?_, ?_, ?_⟩
      · rw [chS_124 _ hn, if_pos rfl]
      · rw [chS_126 _ hn, if_neg (by omega), hd1]
      · rw [chS_126 _ hn, if_pos rfl, hd1]
        omega
    · rcases h4 i (by omega) with z | ⟨j, d, hj, z1, z2, z3⟩
      · refine Or.inl ⟨z.1, ?_⟩
        rw [chS_126 _ hn, if_neg (by omega)]
        exact z.2
      · refine Or.inr ⟨j, d, hj, ?_, ?_, ?_⟩
        · rw [chS_124 _ hn, if_neg (by omega)]; exact z1
        · rw [chS_126 _ hn, if_neg (by omega)]; exact z2
        · rw [chS_126 _ hn, if_neg (by omega)]; exact z3
  · intro i hi
    by_cases e : i = n
    · subst e
      intro q hq
      rw [chS_mkn _ hn]
      unfold ch5
      refine repS_row (R := fun v => (0 ≤ v ∧ v ≤ 9 + 4 * (i : Int)) ∨ v = 1000000) (Or.inr rfl) _ _ _ _ (fun q hq => ?_) q hq
      rw [ch4_row _ hn _ _ _ hq]
      rcases hfb q hq with z | z
      · exact Or.inl ⟨z.1, by omega⟩
      · exact Or.inr z
    · intro q hq
      rw [chS_mk _ hn _ _ (by omega)]
      exact h5 i (by omega) q hq
  · intro i hi0 hi
    rw [chS_125 _ hn]
    by_cases e : i = n
    · subst e
      rw [if_pos rfl]
      exact ⟨t, rfl, ht⟩
    · rw [if_neg (by omega)]
      exact h6 i hi0 (by omega)
  · intro i hi
    rw [chS_127 _ hn]
    by_cases e : i = n
    · rw [if_pos (by omega)]
      exact amo_01 _ _
    · rw [if_neg (by omega)]
      exact h7 i (by omega)
  · have e22 : chS μ n u t 22 2 = repS (μ 126 u).toNat (ch4 μ n u t) n u 22 2 := by
      rw [chS_22' _ hn _ _ (by decide)]
      rfl
    have erow : ∀ q : Nat, chS μ n u t (24 + n) q = repS (μ 126 u).toNat (ch4 μ n u t) n u (24 + n) q := fun q => by
      rw [chS_mkn _ hn]
      rfl
    rcases h8 with ⟨z1, z2⟩ | ⟨f, hf, z1, i, q, hi, hq, z2⟩
    · rcases repS_fe (μ 126 u).toNat (ch4 μ n u t) n u (by rw [ch4_22]; exact z1) with ⟨y1, y2⟩ | ⟨y1, q, hq, y2⟩
      · refine Or.inl ⟨by rw [e22]; exact y1, fun i q hi hq => ?_⟩
        by_cases e : i = n
        · subst e
          rw [erow, y2, ch4_row _ hn _ _ _ hq]
          unfold fireV
          rw [if_neg (z2 u q hu hq)]
          have := h5 u hu q hq
          have := z2 u q hu hq
          have := hN.2.2.2.2.2 t q (by have := hN.2.1; omega) hq
          have := he q hq
          omega
        · rw [chS_mk _ hn _ _ (by omega)]
          exact z2 i q (by omega) hq
      · exact Or.inr ⟨n, by omega, by rw [e22]; exact y1, n, q, by omega, hq, by rw [erow]; exact y2⟩
    · refine Or.inr ⟨f, by omega, ?_, i, q, by omega, hq, ?_⟩
      · rw [e22, repS_fe2 _ _ _ _ (by rw [ch4_22, z1]; omega), ch4_22, z1]
      · rw [chS_mk _ hn _ _ hi]
        exact z2
  · rw [chS_124 _ hn, if_neg (by omega)]
    exact h9
  · rw [chS_125 _ hn, if_neg (by omega)]
    exact h10
theorem NI_root {μ : St} {P T : Nat} (h : NI μ P T) : NI (rootS μ) P T := by
  refine NI_ne h (fun x k hx => ?_)
  unfold rootS
  rw [updS_ne _ _ _ _ (by omega), updS_ne _ _ _ _ (by omega), updS_ne _ _ _ _ (by omega), updS_ne _ _ _ _ (by omega), updS_ne _ _ _ _ (by omega), updS_ne _ _ _ _ (by omega), cpS_ap, if_neg (by omega)]
theorem rootS_24 (μ : St) {q : Nat} (hq : q < 6) : rootS μ 24 q = μ 2 q := by
  unfold rootS
  rw [updS_ne _ _ _ _ (by omega), updS_ne _ _ _ _ (by omega), updS_ne _ _ _ _ (by omega), updS_ne _ _ _ _ (by omega), updS_ne _ _ _ _ (by omega), updS_ne _ _ _ _ (by omega), cpS_ap, if_pos ⟨rfl, by omega, by omega⟩]
theorem TI_root {μ : St} {P T : Nat} (h : NI μ P T) : TI (rootS μ) T 1 := by
  have hf := h.2.2.2.2.1
  have e126 : rootS μ 126 0 = 0 := by simp [rootS, updS_ap]
  refine ⟨Nat.le_refl _, by decide, by simp [rootS, updS_ap], ?_, ?_, ?_, ?_, ?_, by simp [rootS, updS_ap], by simp [rootS, updS_ap]⟩
  · intro i hi
    have : i = 0 := by omega
    subst this
    exact Or.inl ⟨rfl, e126⟩
  · intro i hi q hq
    have : i = 0 := by omega
    subst this
    have := hf q hq
    rw [rootS_24 μ hq]
    exact Or.inl ⟨by omega, by omega⟩
  · intro i h0 hi
    omega
  · intro i hi
    have : i = 0 := by omega
    subst this
    exact Or.inl (by simp [rootS, updS_ap])
  · refine Or.inl ⟨by simp [rootS, updS_ap], fun i q hi hq => ?_⟩
    have : i = 0 := by omega
    subst this
    have := hf q hq
    rw [rootS_24 μ hq]
    omega

