theorem TI_fr {μ κ : St} {T n : Nat} (h : TI μ T n) (e : ∀ x, 22 ≤ x → x < 128 → κ x = μ x) : TI κ T n := by
  obtain ⟨h1, h2, h3, h4, h5, h6, h7, h8, h9, h10⟩ := h
  have r : ∀ i : Nat, i < n → κ (24 + i) = μ (24 + i) := fun i hi => e _ (by omega) (by omega)
  refine ⟨h1, h2, by rw [e 22 (by decide) (by decide)]; exact h3, ?_, ?_, ?_, ?_, ?_, by rw [e 124 (by decide) (by decide)]; exact h9, by rw [e 125 (by decide) (by decide)]; exact h10⟩
  · intro i hi
    rw [e 126 (by decide) (by decide), e 124 (by decide) (by decide)]
    exact h4 i hi
  · intro i hi q hq
    rw [r i hi]
    exact h5 i hi q hq
  · intro i h0 hi
    rw [e 125 (by decide) (by decide)]
    exact h6 i h0 hi
  · intro i hi
    rw [e 127 (by decide) (by decide)]
    exact h7 i hi
  · unfold feP
    rw [e 22 (by decide) (by decide)]
    rcases h8 with ⟨z1, z2⟩ | ⟨f, hf, z1, i, q, hi, hq, z2⟩
    · exact Or.inl ⟨z1, fun i q hi hq => by rw [r i hi]; exact z2 i q hi hq⟩
    · exact Or.inr ⟨f, hf, z1, i, q, hi, hq, by rw [r i hi]; exact z2⟩
theorem MT_fr {σ ρ μ κ : St} {P n : Nat} (hn : n ≤ 100) (h : MT σ μ P n) (e : ∀ x, 22 ≤ x → x < 128 → ρ x = σ x) (e2 : ∀ x, 221 ≤ x → x ≤ 225 → x ≠ 224 → κ x = μ x) (e13 : κ 216 13 = μ 216 13) (e14 : κ 216 14 = μ 216 14) : MT ρ κ P n := by
  obtain ⟨h1, h2, h3, h4, h5⟩ := h
  refine ⟨fun i q hi hq => ?_, fun i hi => ?_, fun i hi => ?_, fun i hi => ?_, ?_⟩
  · rw [e2 221 (by decide) (by decide) (by decide), e (24 + i) (by omega) (by omega)]
    exact h1 i q hi hq
  · rw [e2 222 (by decide) (by decide) (by decide), e 124 (by decide) (by decide)]
    exact h2 i hi
  · rw [e2 223 (by decide) (by decide) (by decide), e 125 (by decide) (by decide)]
    exact h3 i hi
  · rw [e2 225 (by decide) (by decide) (by decide), e 127 (by decide) (by decide)]
    exact h4 i hi
  · unfold MG
    rw [e13, e14, e 22 (by decide) (by decide), e 126 (by decide) (by decide)]
    exact h5
theorem GI_fr {σ ρ : St} {T g : Nat} (h : GI σ T g) (e : ∀ x, 128 ≤ x → x < 214 → ρ x = σ x) : GI ρ T g := by
  have hg := h.2.1
  exact GI_ne h (by rw [e 128 (by decide) (by decide)]) (fun i q hi => by rw [e _ (by omega) (by omega)]) (fun x h1 h2 i hi => by rw [e _ (by omega) (by omega)])
theorem Rc_fr {σ ρ : St} {T g t i : Nat} (hg : g ≤ 40) (e : ∀ x, 171 ≤ x → x < 211 → ρ x = σ x) : Rc ρ g T t i ↔ Rc σ g T t i := by
  have r : ∀ k : Nat, k < g → ρ (171 + k) = σ (171 + k) := fun k hk => e _ (by omega) (by omega)
  unfold Rc
  constructor
  · intro h S h1 h2
    exact h S (fun k hk hb => h1 k hk (by rw [← r k hk]; exact hb)) (fun k u j hk hu hj e1 => h2 k u j hk hu hj (by rw [← r k hk]; exact e1))
  · intro h S h1 h2
    exact h S (fun k hk hb => h1 k hk (by rw [r k hk]; exact hb)) (fun k u j hk hu hj e1 => h2 k u j hk hu hj (by rw [r k hk]; exact e1))
theorem ahS_fr {σ ρ τ τ2 : St} {T g : Nat} (h : ahS σ g T τ) (hg : g ≤ 40) (e : ∀ x, 171 ≤ x → x < 211 → ρ x = σ x) (e2 : τ2 214 = τ 214) : ahS ρ g T τ2 := by
  obtain ⟨h1, h2⟩ := h
  refine ⟨fun i hi => by rw [e2]; exact h1 i hi, fun i t hi ht => ?_⟩
  rw [Rc_fr hg e, ← h2 i t hi ht]
  unfold bt
  rw [e2]
theorem GC_fr {σ ρ μ κ : St} {P T g : Nat} (h : GC σ μ P T g) (hg : g ≤ 40) (e : ∀ x, 128 ≤ x → x < 214 → ρ x = σ x) (e2 : ∀ x, 226 ≤ x → x ≤ 229 → κ x = μ x) : GC ρ κ P T g := by
  obtain ⟨h1, h2, h3⟩ := h
  refine ⟨fun i q hi hq => ?_, fun i hi => ?_, fun i u hc => ?_⟩
  · rw [e2 226 (by decide) (by decide), e (130 + i) (by omega) (by omega)]
    exact h1 i q hi hq
  · rw [e2 228 (by decide) (by decide), e2 229 (by decide) (by decide), e 211 (by decide) (by decide), e 212 (by decide) (by decide)]
    exact h2 i hi
  · have : i < g := by omega
    rw [e2 227 (by decide) (by decide), e (171 + i) (by omega) (by omega)]
    exact h3 i u hc
def TREE (μ : St) (P T : Nat) : Prop := (μ 22 1 = 0 ∧ μ 216 7 = -1) ∨ ∃ n : Nat, TI μ T n ∧ MT μ μ P n ∧ μ 216 7 = n
def GRAPH (μ : St) (P T : Nat) : Prop := (μ 128 1 = 0 ∧ μ 216 15 = -1) ∨ ∃ g : Nat, GI μ T g ∧ (∀ k : Nat, k < g → nxP μ g k T) ∧ ahS μ g T μ ∧ GC μ μ P T g ∧ μ 216 15 = g
def TGT (μ : St) : Prop := ∀ q : Nat, q < 6 → 0 ≤ μ 21 q ∧ μ 21 q ≤ 99
def GG (μ : St) (P T : Nat) : Prop := NI μ P T ∧ NZ μ P ∧ TGT μ ∧ MN μ μ P T ∧ TREE μ P T ∧ GRAPH μ P T
theorem TREE_fr {μ κ : St} {P T : Nat} (h : TREE μ P T) (e : ∀ x, 22 ≤ x → x < 128 → κ x = μ x) (e2 : ∀ x, 221 ≤ x → x ≤ 225 → x ≠ 224 → κ x = μ x) (e7 : κ 216 7 = μ 216 7) (e13 : κ 216 13 = μ 216 13) (e14 : κ 216 14 = μ 216 14) : TREE κ P T := by
  unfold TREE
  rw [e7, e 22 (by decide) (by decide)]
  rcases h with h | ⟨n, h1, h2, h3⟩
  · exact Or.inl h
  · exact Or.inr ⟨n, TI_fr h1 e, MT_fr h1.2.1 h2 e e2 e13 e14, h3⟩
theorem GRAPH_fr {μ κ : St} {P T : Nat} (h : GRAPH μ P T) (e : ∀ x, 128 ≤ x → x < 215 → κ x = μ x) (e2 : ∀ x, 226 ≤ x → x ≤ 229 → κ x = μ x) (e15 : κ 216 15 = μ 216 15) : GRAPH κ P T := by
  unfold GRAPH
  rw [e15, e 128 (by decide) (by decide)]
  rcases h with h | ⟨g, h1, h2, h3, h4, h5⟩
  · exact Or.inl h
  · have hg := h1.2.1
    exact Or.inr ⟨g, GI_fr h1 (fun x a b => e x a (by omega)), fun k hk => nxP_ne (h2 k hk) (fun j => by rw [e _ (by omega) (by omega)]), ahS_fr h3 hg (fun x a b => e x (by omega) (by omega)) (e 214 (by decide) (by decide)), GC_fr h4 hg (fun x a b => e x a (by omega)) e2, h5⟩
theorem GG_fr {μ κ : St} {P T : Nat} (h : GG μ P T) (e : ∀ x, x ≠ 215 → x ≠ 216 → x ≠ 224 → x ≠ 230 → x ≠ 231 → x ≠ 232 → κ x = μ x) (e16 : ∀ j : Int, j ≠ 0 → κ 216 j = μ 216 j) : GG κ P T := by
  obtain ⟨h1, h2, h3, h4, h5, h6⟩ := h
  have e9 : ∀ x k, x < 22 → κ x k = μ x k := fun x k hx => by rw [e x (by omega) (by omega) (by omega) (by omega) (by omega) (by omega)]
  refine ⟨NI_ne h1 e9, NZ_ne h2 e9, fun q hq => by rw [e9 _ _ (by decide)]; exact h3 q hq, MN_ne h4 e9 (fun x k a b => by rw [e x (by omega) (by omega) (by omega) (by omega) (by omega) (by omega)]) (e16 _ (by decide)) (e16 _ (by decide)), ?_, ?_⟩
  · exact TREE_fr h5 (fun x a b => e x (by omega) (by omega) (by omega) (by omega) (by omega) (by omega)) (fun x a b c => e x (by omega) (by omega) (by omega) (by omega) (by omega) (by omega)) (e16 _ (by decide)) (e16 _ (by decide)) (e16 _ (by decide))
  · exact GRAPH_fr h6 (fun x a b => e x (by omega) (by omega) (by omega) (by omega) (by omega) (by omega)) (fun x a b => e x (by omega) (by omega) (by omega) (by omega) (by omega) (by omega)) (e16 _ (by decide))
theorem fn_of {μ κ : St} {x : Nat} (h : ∀ j, κ x j = μ x j) : κ x = μ x := funext h
theorem ufn {μ : St} {a : Nat} {k v : Int} {x : Nat} (h : x ≠ a) : updS μ a k v x = μ x := funext (fun j => updS_ne _ _ _ _ h)
/- values -/
theorem gmax_congr {f h : Nat → Int} : ∀ n : Nat, (∀ i, i < n → f i = h i) → gmax f n = gmax h n
  | 0, _ => rfl
  | n + 1, e => by
    unfold gmax
    rw [gmax_congr n (fun i hi => e i (by omega)), e n (by omega)]
theorem gmax_w3 {f : Nat → Int} : ∀ n : Nat, (∀ i, i < n → bnd (f i)) → gmax (fun i => w3 (f i)) n = w3 (gmax f n) ∧ bnd (gmax f n)
  | 0, _ => ⟨rfl, Or.inl ⟨Int.le_refl 0, by show (0 : Int) ≤ 500000; decide⟩⟩
  | n + 1, h => by
    obtain ⟨h1, h2⟩ := gmax_w3 n (fun i hi => h i (by omega))
    have h3 := h n (by omega)
    unfold gmax
    rw [h1]
    by_cases e : gmax f n < f n
    · rw [if_pos ((w3_lt h2 h3).mpr e), if_pos e]
      exact ⟨rfl, h3⟩
    · rw [if_neg (fun z => e ((w3_lt h2 h3).mp z)), if_neg e]
      exact ⟨rfl, h2⟩
theorem told_w3 {x : Int} (h : bnd x) : (if w3 x = 1000000000 then -1 else w3 x) = (if x = 1000000 then -1 else x) := by
  by_cases e : x = 1000000
  · rw [if_pos ((w3_top h).mpr e), if_pos e]
  · rw [if_neg (fun z => e ((w3_top h).mp z)), if_neg e, w3_s e]
theorem v_count {μ : St} {P T n : Nat} (hT : TI μ T n) (hM : MT μ μ P n) (h6 : P ≤ 6) {i a : Nat} (hi : i < n) (ha : a < P) : (if μ 221 (ix i a) = 1000000000 then -1 else μ 221 (ix i a)) = (if μ (24 + i) a = 1000000 then -1 else μ (24 + i) a) := by
  rw [(hM.1 i a hi (by omega)).1 ha]
  exact told_w3 (bR_TI hT i a hi (by omega))
theorem g_w3 {μ : St} {P T n : Nat} (hT : TI μ T n) (hM : MT μ μ P n) (h6 : P ≤ 6) {a : Nat} (ha : a < P) : gmax (fun i => μ 221 (ix i a)) n = w3 (gmax (fun i => μ (24 + i) a) n) ∧ bnd (gmax (fun i => μ (24 + i) a) n) := by
  rw [gmax_congr n (h := fun i => w3 (μ (24 + i) a)) (fun i hi => (hM.1 i a hi (by omega)).1 ha)]
  exact gmax_w3 n (fun i hi => bR_TI hT i a hi (by omega))
theorem v_bound {μ : St} {P T n : Nat} (hT : TI μ T n) (hM : MT μ μ P n) (h6 : P ≤ 6) {a : Nat} (ha : a < P) : (if gmax (fun i => μ 221 (ix i a)) n = 1000000000 then -1 else gmax (fun i => μ 221 (ix i a)) n) = (if gmax (fun i => μ (24 + i) a) n = 1000000 then -1 else gmax (fun i => μ (24 + i) a) n) := by
  obtain ⟨h1, h2⟩ := g_w3 hT hM h6 ha
  rw [h1]
  exact told_w3 h2
theorem v_covered {μ : St} {P T n : Nat} (hT : TI μ T n) (hM : MT μ μ P n) (hN : MN μ μ P T) (hZ : NZ μ P) (h6 : P ≤ 6) (hg : TGT μ) : (∃ i : Nat, i < n ∧ ∀ q : Nat, q < P → μ 218 q ≤ μ 221 (ix i q)) ↔ ∃ i : Nat, i < n ∧ ∀ q : Nat, q < 6 → μ 21 q ≤ μ (24 + i) q := by
  have key : ∀ i q : Nat, i < n → q < P → (μ 218 q ≤ μ 221 (ix i q) ↔ μ 21 q ≤ μ (24 + i) q) := by
    intro i q hi hq
    have h1 := hg q (by omega)
    rw [hN.2.2.2.1 q (by omega), (hM.1 i q hi (by omega)).1 hq, ← w3_s (x := μ 21 q) (by omega), w3_le (bnd_s (by omega) (by omega)) (bR_TI hT i q hi (by omega)), w3_s (by omega)]
  constructor
  · rintro ⟨i, hi, h⟩
    refine ⟨i, hi, fun q hq => ?_⟩
    by_cases hqP : q < P
    · exact (key i q hi hqP).mp (h q hqP)
    · rw [(hZ q hq (by omega)).2.1, (hM.1 i q hi hq).2 (by omega)]
      exact Int.le_refl _
  · rintro ⟨i, hi, h⟩
    exact ⟨i, hi, fun q hq => (key i q hi hq).mpr (h q (by omega))⟩
theorem v_possible {μ : St} {P T n t : Nat} (hT : TI μ T n) (hM : MT μ μ P n) (hN : MN μ μ P T) (hI : NI μ P T) (hZ : NZ μ P) (ht : t < T) : (∃ i : Nat, i < n ∧ ∀ q : Nat, q < P → μ 219 (ix t q) ≤ μ 221 (ix i q)) ↔ ∃ i : Nat, i < n ∧ ∀ q : Nat, q < 6 → μ (4 + t) q ≤ μ (24 + i) q := by
  constructor
  · rintro ⟨i, hi, h⟩
    exact ⟨i, hi, (en_iff hN hI hZ hM.1 (bR_TI hT) hi ht).mp h⟩
  · rintro ⟨i, hi, h⟩
    exact ⟨i, hi, (en_iff hN hI hZ hM.1 (bR_TI hT) hi ht).mpr h⟩
theorem v_up {μ : St} {P T n : Nat} (hT : TI μ T n) (hM : MT μ μ P n) : ∀ (k u d : Nat), u < n → μ 126 u = d → k ≤ d → upM μ k u = upN μ k u ∧ upN μ k u < n
  | 0, u, d, hu, hd, hk => ⟨rfl, hu⟩
  | k + 1, u, d, hu, hd, hk => by
    rcases hT.2.2.2.1 u hu with ⟨z1, z2⟩ | ⟨j, e, hj, z1, z2, z3⟩
    · omega
    · rw [upM_succ, upN_succ, hM.2.1 u hu, if_neg (by omega), z1]
      exact v_up hT hM k j e (by omega) z2 (by omega)
theorem v_endless {μ : St} {P T n : Nat} (hT : TI μ T n) (hM : MT μ μ P n) (h6 : P ≤ 6) : (∃ q : Nat, q < P ∧ gmax (fun i => μ 221 (ix i q)) n = 1000000000) ↔ ¬ μ 22 2 = -2 := by
  have gle : ∀ (f : Nat → Int) (k : Nat), ∀ i, i < k → f i ≤ gmax f k := by
    intro f k
    induction k with
    | zero => exact fun i hi => absurd hi (by omega)
    | succ k ih =>
      intro i hi
      unfold gmax
      by_cases e : i = k
      · subst e
        split <;> omega
      · have := ih i (by omega)
        split <;> omega
  have gat : ∀ (f : Nat → Int) (k : Nat), gmax f k = 0 ∨ ∃ i, i < k ∧ gmax f k = f i := by
    intro f k
    induction k with
    | zero => exact Or.inl rfl
    | succ k ih =>
      unfold gmax
      split
      · exact Or.inr ⟨k, by omega, rfl⟩
      · rcases ih with h | ⟨i, hi, h⟩
        · exact Or.inl h
        · exact Or.inr ⟨i, by omega, h⟩
  have hb := bR_TI hT
  rcases hT.2.2.2.2.2.2.2.1 with ⟨z1, z2⟩ | ⟨f, hf, z1, i, q, hi, hq, z2⟩
  · refine ⟨fun ⟨q, hq, h⟩ => ?_, fun h => absurd z1 h⟩
    obtain ⟨h1, h2⟩ := g_w3 hT hM h6 hq
    rw [h1, w3_top h2] at h
    rcases gat (fun i => μ (24 + i) q) n with y | ⟨i, hi, y⟩
    · rw [y] at h
      exact absurd h (by decide)
    · rw [y] at h
      exact absurd h (z2 i q hi (by omega))
  · refine ⟨fun _ => by omega, fun _ => ?_⟩
    have hqP : q < P := by
      refine Classical.byContradiction (fun hn => ?_)
      rw [(hM.1 i q hi hq).2 (by omega)] at z2
      exact absurd z2 (by decide)
    refine ⟨q, hqP, ?_⟩
    obtain ⟨h1, h2⟩ := g_w3 hT hM h6 hqP
    rw [h1, w3_top h2]
    have := gle (fun i => μ (24 + i) q) n i hi
    have h3 : (fun i => μ (24 + i) q) i = 1000000 := z2
    unfold bnd at h2
    omega
theorem nx_nn {μ : St} {P T g : Nat} (hg : g ≤ 40) (hnx : ∀ k : Nat, k < g → nxP μ g k T) (hC : GC μ μ P T g) {i t : Nat} (hi : i < g) (ht : t < T) : (0 ≤ μ 227 (iy i t) ↔ ¬ μ (171 + i) t = -2) ∧ ∀ j : Nat, (μ 227 (iy i t) = j ↔ μ (171 + i) t = j) := by
  rw [hC.2.2 i t (Or.inl ⟨hi, ht⟩)]
  unfold lk
  rcases hnx i hi t ht with h | ⟨j, hj, h⟩
  · rw [h, if_pos rfl]
    exact ⟨by omega, fun j => by omega⟩
  · rw [h, if_neg (by omega)]
    exact ⟨by omega, fun j => by omega⟩
theorem v_stops {μ : St} {P T g : Nat} (hg : g ≤ 40) (hnx : ∀ k : Nat, k < g → nxP μ g k T) (hC : GC μ μ P T g) : ∀ i : Nat, i ≤ g → cntM μ T i = cntS μ T i
  | 0, _ => rfl
  | i + 1, hi => by
    unfold cntM cntS
    rw [v_stops hg hnx hC i (by omega)]
    have key : (∃ t : Nat, t < T ∧ 0 ≤ μ 227 (iy i t)) ↔ ¬ enB μ i T = 0 := by
      constructor
      · rintro ⟨t, ht, h⟩ z
        have h2 := (enB_bit μ i T t).mpr ⟨ht, (nx_nn hg hnx hC (by omega) ht).1.mp h⟩
        rw [z] at h2
        simp at h2
      · intro z
        refine Classical.byContradiction (fun hn => z ?_)
        apply Nat.eq_of_testBit_eq
        intro u
        rw [Nat.zero_testBit]
        cases hb : (enB μ i T).testBit u
        · rfl
        · obtain ⟨h1, h2⟩ := (enB_bit μ i T u).mp hb
          exact absurd ⟨u, h1, (nx_nn hg hnx hC (by omega) h1).1.mpr h2⟩ hn
    by_cases e : enB μ i T = 0
    · rw [if_neg (fun z => key.mp z e), if_pos e]
    · rw [if_pos (key.mpr e), if_neg e]
theorem v_live {μ : St} {P T g t i : Nat} (hg : g ≤ 40) (hnx : ∀ k : Nat, k < g → nxP μ g k T) (hC : GC μ μ P T g) (ht : t < T) : RcM μ g T t i ↔ Rc μ g T t i := by
  unfold RcM Rc
  constructor
  · intro h S h1 h2
    exact h S (fun k hk hb => h1 k hk ((nx_nn hg hnx hC hk ht).1.mp hb)) (fun k u j hk hu hj e => h2 k u j hk hu hj (((nx_nn hg hnx hC hk hu).2 j).mp e))
  · intro h S h1 h2
    exact h S (fun k hk hb => h1 k hk ((nx_nn hg hnx hC hk ht).1.mpr hb)) (fun k u j hk hu hj e => h2 k u j hk hu hj (((nx_nn hg hnx hC hk hu).2 j).mpr e))

