def w3 (x : Int) : Int := if x = 1000000 then 1000000000 else x
def bnd (x : Int) : Prop := (0 ≤ x ∧ x ≤ 500000) ∨ x = 1000000
theorem w3_s {x : Int} (h : x ≠ 1000000) : w3 x = x := if_neg h
theorem w3_t {x : Int} (h : x = 1000000) : w3 x = 1000000000 := if_pos h
theorem w3_le {x y : Int} (hx : bnd x) (hy : bnd y) : w3 x ≤ w3 y ↔ x ≤ y := by
  unfold bnd at hx hy
  unfold w3
  split <;> split <;> omega
theorem w3_lt {x y : Int} (hx : bnd x) (hy : bnd y) : w3 x < w3 y ↔ x < y := by
  unfold bnd at hx hy
  unfold w3
  split <;> split <;> omega
theorem w3_eq {x y : Int} (hx : bnd x) (hy : bnd y) : w3 x = w3 y ↔ x = y := by
  unfold bnd at hx hy
  unfold w3
  split <;> split <;> omega
theorem w3_top {x : Int} (hx : bnd x) : w3 x = 1000000000 ↔ x = 1000000 := by
  unfold bnd at hx
  unfold w3
  split <;> omega
theorem w3_r {x : Int} (hx : bnd x) : InR (w3 x) := by
  unfold bnd at hx
  unfold w3
  split <;> exact ⟨by omega, by omega⟩
theorem bnd_s {x : Int} (h0 : 0 ≤ x) (h1 : x ≤ 500000) : bnd x := Or.inl ⟨h0, h1⟩
def MN (σ μ : St) (P T : Nat) : Prop := μ 216 1 = P ∧ μ 216 2 = T ∧ (∀ q : Nat, q < 6 → μ 217 q = σ 2 q) ∧ (∀ q : Nat, q < 6 → μ 218 q = σ 21 q) ∧ ∀ t q : Nat, t < 8 → q < 6 → μ 219 (ix t q) = σ (4 + t) q ∧ μ 220 (ix t q) = σ (13 + t) q
def NZ (σ : St) (P : Nat) : Prop := ∀ q : Nat, q < 6 → P ≤ q → σ 2 q = 0 ∧ σ 21 q = 0 ∧ ∀ t : Nat, t < 8 → σ (4 + t) q = 0 ∧ σ (13 + t) q = 0
def MR (σ μ : St) (P n : Nat) : Prop := ∀ i q : Nat, i < n → q < 6 → (q < P → μ 221 (ix i q) = w3 (σ (24 + i) q)) ∧ (P ≤ q → σ (24 + i) q = 0)
def MG (σ μ : St) (b n : Nat) : Prop := (σ 22 2 = -2 ∧ μ 216 13 = -1) ∨ ∃ f s9 : Nat, f < b ∧ s9 < n ∧ σ 22 2 = f ∧ μ 216 13 = f ∧ μ 216 14 = s9 ∧ σ 22 3 = σ 126 s9
def MT (σ μ : St) (P n : Nat) : Prop := MR σ μ P n ∧ (∀ i : Nat, i < n → μ 222 i = if i = 0 then -1 else σ 124 i) ∧ (∀ i : Nat, i < n → μ 223 i = σ 125 i) ∧ (∀ i : Nat, i < n → μ 225 i = σ 127 i) ∧ MG σ μ n n
def MW (σ μ : St) (P n : Nat) : Prop := ∀ q : Nat, q < 6 → (q < P → μ 231 q = w3 (σ (24 + n) q)) ∧ (P ≤ q → σ (24 + n) q = 0)
def bR (σ : St) (n : Nat) : Prop := ∀ i q : Nat, i < n → q < 6 → bnd (σ (24 + i) q)
theorem bR_TI {σ : St} {T n : Nat} (h : TI σ T n) : bR σ n := by
  intro i q hi hq
  have h1 := h.2.2.2.2.1 i hi q hq
  have h2 := h.2.1
  unfold bnd
  omega
theorem NZ_ne {σ ρ : St} {P : Nat} (h : NZ σ P) (e : ∀ x k, x < 22 → ρ x k = σ x k) : NZ ρ P := by
  intro q hq hP
  obtain ⟨h1, h2, h3⟩ := h q hq hP
  refine ⟨by rw [e _ _ (by omega)]; exact h1, by rw [e _ _ (by omega)]; exact h2, fun t ht => ?_⟩
  rw [e _ _ (by omega), e _ _ (by omega)]
  exact h3 t ht
theorem MN_ne {σ ρ μ κ : St} {P T : Nat} (h : MN σ μ P T) (e : ∀ x k, x < 22 → ρ x k = σ x k) (e2 : ∀ x k, 217 ≤ x → x ≤ 220 → κ x k = μ x k) (e3 : κ 216 1 = μ 216 1) (e4 : κ 216 2 = μ 216 2) : MN ρ κ P T := by
  obtain ⟨h1, h2, h3, h4, h5⟩ := h
  refine ⟨by rw [e3]; exact h1, by rw [e4]; exact h2, fun q hq => ?_, fun q hq => ?_, fun t q ht hq => ?_⟩
  · rw [e2 _ _ (by omega) (by omega), e _ _ (by omega)]; exact h3 q hq
  · rw [e2 _ _ (by omega) (by omega), e _ _ (by omega)]; exact h4 q hq
  · rw [e2 _ _ (by omega) (by omega), e _ _ (by omega), e2 _ _ (by omega) (by omega), e _ _ (by omega)]; exact h5 t q ht hq
theorem hit_iff {ρ μ : St} {P n k : Nat} (h6 : P ≤ 6) (hr : MR ρ μ P n) (hw : MW ρ μ P n) (hb : bR ρ (n + 1)) (hk : k < n) : belP μ P k ↔ hitP ρ n k := by
  constructor
  · rintro ⟨h1, q, hq, h2⟩
    refine ⟨fun j hj => ?_, fun z => ?_⟩
    · by_cases hjP : j < P
      · have := h1 j hjP
        rw [(hr k j hk hj).1 hjP, (hw j hj).1 hjP] at this
        exact (w3_le (hb k j (by omega) hj) (hb n j (by omega) hj)).mp this
      · rw [(hr k j hk hj).2 (by omega), (hw j hj).2 (by omega)]
        exact Int.le_refl _
    · have hq6 : q < 6 := by omega
      rw [(hr k q hk hq6).1 hq, (hw q hq6).1 hq, w3_lt (hb k q (by omega) hq6) (hb n q (by omega) hq6)] at h2
      have := z q hq6
      omega
  · rintro ⟨h1, h2⟩
    refine ⟨fun j hj => ?_, ?_⟩
    · have hj6 : j < 6 := by omega
      rw [(hr k j hk hj6).1 hj, (hw j hj6).1 hj, w3_le (hb k j (by omega) hj6) (hb n j (by omega) hj6)]
      exact h1 j hj6
    · refine Classical.byContradiction (fun hc => h2 (fun j hj => ?_))
      by_cases hjP : j < P
      · have h3 : ¬ μ 221 (ix k j) < μ 231 j := fun z => hc ⟨j, hjP, z⟩
        rw [(hr k j hk hj).1 hjP, (hw j hj).1 hjP, w3_lt (hb k j (by omega) hj) (hb n j (by omega) hj)] at h3
        have := h1 j hj
        omega
      · rw [(hr k j hk hj).2 (by omega), (hw j hj).2 (by omega)]
theorem noteS_2 (μ : St) (n d : Int) : noteS μ n d 22 2 = if μ 22 2 = -2 then n else μ 22 2 := by
  unfold noteS
  split
  · rw [updS_nk _ _ _ _ (by decide), updS_self]
  · rfl
theorem noteS_3 (μ : St) (n d : Int) : noteS μ n d 22 3 = if μ 22 2 = -2 then d else μ 22 3 := by
  unfold noteS
  split
  · rw [updS_self]
  · rfl
theorem hit_row (ρ : St) (n k : Nat) (d : Int) {q : Nat} (hq : q < 6) (h : hitP ρ n k) : hitS ρ n k d (24 + n) q = moreV ρ (24 + n) (24 + k) q := by
  unfold hitS
  rw [if_pos h, noteS_ne _ _ _ (by omega), preS_ap, if_pos ⟨rfl, by omega, by omega⟩]
theorem hit_cpl {ρ μ : St} {P n k : Nat} {d : Int} (h6 : P ≤ 6) (hn : n < 100) (hr : MR ρ μ P n) (hw : MW ρ μ P n) (hg : MG ρ μ (n + 1) n) (hb : bR ρ (n + 1)) (h7 : μ 216 7 = n) (hk : k < n) (hd : d = ρ 126 k) :
    MR (hitS ρ n k d) (hitM μ P k) P n ∧ MW (hitS ρ n k d) (hitM μ P k) P n ∧ MG (hitS ρ n k d) (hitM μ P k) (n + 1) n ∧ bR (hitS ρ n k d) (n + 1) := by
  have hiff := hit_iff h6 hr hw hb hk
  have hrow : ∀ i : Nat, i < n → ∀ q : Int, hitS ρ n k d (24 + i) q = ρ (24 + i) q := fun i hi q => hitS_ne _ _ _ _ (by omega) (by omega) _
  refine ⟨fun i q hi hq => ⟨fun hqP => ?_, fun hqP => ?_⟩, ?_, ?_, ?_⟩
  · rw [hitM_ne _ _ _ (by decide) (by decide), hrow i hi]
    exact (hr i q hi hq).1 hqP
  · rw [hrow i hi]
    exact (hr i q hi hq).2 hqP
  · by_cases hh : hitP ρ n k
    · intro q hq
      have h1 := hb k q (by omega) hq
      have h2 := hb n q (by omega) hq
      refine ⟨fun hqP => ?_, fun hqP => ?_⟩
      · rw [hit_row ρ n k d hq hh]
        unfold hitM
        rw [if_pos (hiff.mpr hh), preS_ap, if_pos ⟨rfl, by omega, by omega⟩]
        unfold mrM moreV
        rw [(hr k q hk hq).1 hqP, (hw q hq).1 hqP]
        by_cases hlt : ρ (24 + k) q < ρ (24 + n) q
        · rw [if_pos ((w3_lt h1 h2).mpr hlt), if_pos hlt]
          rfl
        · rw [if_neg (fun z => hlt ((w3_lt h1 h2).mp z)), if_neg hlt]
      · rw [hit_row ρ n k d hq hh]
        unfold moreV
        rw [(hr k q hk hq).2 hqP, (hw q hq).2 hqP, if_neg (by decide)]
    · intro q hq
      unfold hitS hitM
      rw [if_neg hh, if_neg (fun z => hh (hiff.mp z))]
      exact hw q hq
  · by_cases hh : hitP ρ n k
    · have e2 : hitS ρ n k d 22 2 = if ρ 22 2 = -2 then (n : Int) else ρ 22 2 := by
        unfold hitS
        rw [if_pos hh, noteS_2, preS_ne _ _ _ _ (by omega)]
      have e3 : hitS ρ n k d 22 3 = if ρ 22 2 = -2 then d else ρ 22 3 := by
        unfold hitS
        rw [if_pos hh, noteS_3, preS_ne _ _ _ _ (by omega), preS_ne _ _ _ _ (by omega)]
      have e13 : ∀ j, hitM μ P k 216 j = ntM μ k 216 j := fun j => by
        unfold hitM
        rw [if_pos (hiff.mpr hh), preS_ne _ _ _ _ (by decide)]
      rcases hg with ⟨g1, g2⟩ | ⟨f, s9, g1, g2, g3, g4, g5, g6⟩
      · refine Or.inr ⟨n, k, by omega, hk, ?_, ?_, ?_, ?_⟩
        · rw [e2, if_pos g1]
        · rw [e13]
          unfold ntM
          rw [if_pos (by omega), updS_nk _ _ _ _ (by decide), updS_self, h7]
        · rw [e13]
          unfold ntM
          rw [if_pos (by omega), updS_self]
        · rw [e3, if_pos g1, hd, hitS_ne _ _ _ _ (by omega) (by omega)]
      · refine Or.inr ⟨f, s9, g1, g2, ?_, ?_, ?_, ?_⟩
        · rw [e2, if_neg (by omega), g3]
        · rw [e13]
          unfold ntM
          rw [if_neg (by omega), g4]
        · rw [e13]
          unfold ntM
          rw [if_neg (by omega), g5]
        · rw [e3, if_neg (by omega), g6, hitS_ne _ _ _ _ (by omega) (by omega)]
    · unfold hitS hitM
      rw [if_neg hh, if_neg (fun z => hh (hiff.mp z))]
      exact hg
  · intro i q hi hq
    by_cases e : i = n
    · subst e
      exact hitS_row (R := bnd) (Or.inr rfl) ρ i k d (fun q hq => hb i q (by omega) hq) q hq
    · rw [hrow i (by omega)]
      exact hb i q (by omega) hq
theorem rep_cpl : ∀ (d : Nat) {ρ μ : St} {P n k : Nat} (h6 : P ≤ 6) (hn : n < 100) (hr : MR ρ μ P n) (hw : MW ρ μ P n) (hg : MG ρ μ (n + 1) n) (hb : bR ρ (n + 1)) (h7 : μ 216 7 = n) (hk : k < n) (hd : ρ 126 k = d) (hch : chP ρ n) (hpa : ∀ i : Nat, i < n → μ 222 i = if i = 0 then -1 else ρ 124 i),
    MR (repS d ρ n k) (repM d μ P k) P n ∧ MW (repS d ρ n k) (repM d μ P k) P n ∧ MG (repS d ρ n k) (repM d μ P k) (n + 1) n ∧ bR (repS d ρ n k) (n + 1)
  | 0, ρ, μ, P, n, k, h6, hn, hr, hw, hg, hb, h7, hk, hd, hch, hpa => hit_cpl h6 hn hr hw hg hb h7 hk hd.symm
  | d + 1, ρ, μ, P, n, k, h6, hn, hr, hw, hg, hb, h7, hk, hd, hch, hpa => by
    obtain ⟨a1, a2, a3, a4⟩ := hit_cpl (d := ((d + 1 : Nat) : Int)) h6 hn hr hw hg hb h7 hk hd.symm
    rcases hch k hk with ⟨z1, z2⟩ | ⟨j, e, hj, z1, z2, z3⟩
    · omega
    · have hk0 : ¬ k = 0 := by omega
      rw [repS_succ, repM_succ, hpa k hk, if_neg hk0, z1]
      have e1 : ((j : Nat) : Int).toNat = j := rfl
      rw [e1]
      refine rep_cpl d h6 hn a1 a2 a3 a4 (by rw [hitM_nk _ _ _ (by decide) (by decide)]; exact h7) (by omega) ?_ ?_ ?_
      · rw [hitS_ne _ _ _ _ (by omega) (by omega), z2]
        omega
      · intro i hi
        rw [hitS_ne _ _ _ _ (by omega) (by omega), hitS_ne _ _ _ _ (by omega) (by omega)]
        rcases hch i hi with y | ⟨j2, e2, y1, y2, y3, y4⟩
        · exact Or.inl y
        · exact Or.inr ⟨j2, e2, y1, y2, by rw [hitS_ne _ _ _ _ (by omega) (by omega)]; exact y3, y4⟩
      · intro i hi
        rw [hitM_ne _ _ _ (by decide) (by decide), hitS_ne _ _ _ _ (by omega) (by omega)]
        exact hpa i hi
/- one child: fired, made endless, added -/
theorem en_iff {σ μ : St} {P T n u t : Nat} (hM : MN σ μ P T) (hN : NI σ P T) (hZ : NZ σ P) (hr : MR σ μ P n) (hb : bR σ n) (hu : u < n) (ht : t < T) : (∀ q : Nat, q < P → μ 219 (ix t q) ≤ μ 221 (ix u q)) ↔ enP σ (24 + u) t := by
  have h6 := hN.1
  have h8 := hN.2.1
  have key : ∀ q : Nat, q < P → (μ 219 (ix t q) ≤ μ 221 (ix u q) ↔ σ (4 + t) q ≤ σ (24 + u) q) := by
    intro q hq
    have h1 := hN.2.2.2.2.2 t q (by omega) (by omega)
    rw [(hM.2.2.2.2 t q (by omega) (by omega)).1, (hr u q hu (by omega)).1 hq, ← w3_s (x := σ (4 + t) q) (by omega)]
    rw [w3_le (bnd_s (by omega) (by omega)) (hb u q hu (by omega)), w3_s (by omega)]
  constructor
  · intro h q hq
    by_cases hqP : q < P
    · exact (key q hqP).mp (h q hqP)
    · rw [((hZ q hq (by omega)).2.2 t (by omega)).1, (hr u q hu hq).2 (by omega)]
      exact Int.le_refl _
  · intro h q hq
    exact (key q hq).mpr (h q (by omega))
theorem fireM_eq {σ μ : St} {P T n u t : Nat} (hM : MN σ μ P T) (hN : NI σ P T) (hr : MR σ μ P n) (hb : bR σ n) (hu : u < n) (ht : t < T) (hfb : ∀ q : Nat, q < 6 → bnd (fireV σ (24 + u) t q)) : ∀ q : Nat, q < P → fireM μ u t q = w3 (fireV σ (24 + u) t q) := by
  intro q hq
  have h6 := hN.1
  have h8 := hN.2.1
  have h1 := hb u q hu (by omega)
  have h2 := hfb q (by omega)
  unfold fireM
  rw [show 6 * (u : Int) + (q : Int) = ix u q from rfl, show 6 * (t : Int) + (q : Int) = ix t q from rfl, (hr u q hu (by omega)).1 hq, (hM.2.2.2.2 t q (by omega) (by omega)).1, (hM.2.2.2.2 t q (by omega) (by omega)).2]
  unfold fireV at h2 ⊢
  by_cases e : σ (24 + u) q = 1000000
  · rw [if_pos ((w3_top h1).mpr e), if_pos e, w3_t e]
  · rw [if_neg (fun z => e ((w3_top h1).mp z)), if_neg e, w3_s e, w3_s]
    rw [if_neg e] at h2
    have h3 := hN.2.2.2.2.2 t q (by omega) (by omega)
    unfold bnd at h1
    omega
theorem fireV_bnd {σ : St} {P T n u t : Nat} (hN : NI σ P T) (hT : TI σ T n) (hu : u < n) (ht : t < T) (he : enP σ (24 + u) t) : ∀ q : Nat, q < 6 → bnd (fireV σ (24 + u) t q) := by
  intro q hq
  have := fireV_b hN hT hu ht he q hq
  have := hT.2.1
  unfold bnd
  omega
theorem chM_of {σ μ : St} {n : Nat} (h : chP σ n) (hpa : ∀ i : Nat, i < n → μ 222 i = if i = 0 then -1 else σ 124 i) : chM μ n (fun i => (σ 126 i).toNat) := by
  intro i hi
  rcases h i hi with ⟨z1, z2⟩ | ⟨j, e, hj, z1, z2, z3⟩
  · refine Or.inl ⟨z1, by show (σ 126 (i : Int)).toNat = 0; rw [z2]; rfl, by rw [hpa i hi, if_pos z1]⟩
  · refine Or.inr ⟨j, hj, by rw [hpa i hi, if_neg (by omega), z1], ?_⟩
    show (σ 126 i).toNat = (σ 126 j).toNat + 1
    rw [z2, z3]
    rfl
theorem child_cpl {σ μ : St} {P T n u t : Nat} (hN : NI σ P T) (hT : TI σ T n) (hZ : NZ σ P) (hn : n < 100) (hu : u < n) (ht : t < T) (he : enP σ (24 + u) t) (hM : MN σ μ P T) (hMT : MT σ μ P n) (h7 : μ 216 7 = n) :
    MT (chS σ n u t) (adN (repM (σ 126 u).toNat (fmW μ P u t) P u) P n u t) P (n + 1) := by
  obtain ⟨hr, hpa, hby, hco, hg⟩ := hMT
  have h6 := hN.1
  have hb := bR_TI hT
  have hfb := fireV_bnd hN hT hu ht he
  have hch := hT.2.2.2.1
  obtain ⟨d, hd1, hd2⟩ := chP_le hch u hu
  have hdn : (σ 126 u).toNat = d := by rw [hd1]; rfl
  have c4 : ∀ i : Nat, i < n → ∀ q : Int, ch4 σ n u t (24 + i) q = σ (24 + i) q := fun i hi q => by
    unfold ch4
    rw [updS_ne _ _ _ _ (by omega), updS_ne _ _ _ _ (by omega), updS_ne _ _ _ _ (by omega), preS_ne _ _ _ _ (by omega)]
  have f4 : ∀ {x : Nat} (j : Int), x ≠ 231 → fmW μ P u t x j = μ x j := fun j hx => preS_ne _ _ _ _ hx
  have hz9 : ∀ q : Nat, q < 6 → P ≤ q → fireV σ (24 + u) t q = 0 := by
    intro q hq hqP
    obtain ⟨-, -, z3⟩ := hZ q hq hqP
    unfold fireV
    rw [(hr u q hu hq).2 hqP, (z3 t (by have := hN.2.1; omega)).1, (z3 t (by have := hN.2.1; omega)).2, if_neg (by decide)]
    rfl
  obtain ⟨b1, b2, b3, b4⟩ := rep_cpl d (ρ := ch4 σ n u t) (μ := fmW μ P u t) (P := P) (n := n) (k := u) h6 hn
    (fun i q hi hq => ⟨fun hqP => by rw [f4 _ (by decide), c4 i hi]; exact (hr i q hi hq).1 hqP, fun hqP => by rw [c4 i hi]; exact (hr i q hi hq).2 hqP⟩)
    (fun q hq => ⟨fun hqP => by
      unfold fmW
      rw [preS_ap, if_pos ⟨rfl, by omega, by omega⟩, ch4_row _ hn _ _ _ hq]
      exact fireM_eq hM hN hr hb hu ht hfb q hqP, fun hqP => by rw [ch4_row _ hn _ _ _ hq]; exact hz9 q hq hqP⟩)
    (by
      rcases hg with ⟨g1, g2⟩ | ⟨f, s9, g1, g2, g3, g4, g5, g6⟩
      · exact Or.inl ⟨by rw [ch4_22]; exact g1, by rw [f4 _ (by decide)]; exact g2⟩
      · exact Or.inr ⟨f, s9, by omega, g2, by rw [ch4_22]; exact g3, by rw [f4 _ (by decide)]; exact g4, by rw [f4 _ (by decide)]; exact g5, by rw [ch4_22, ch4_126 _ _ _ _ hn, if_neg (by omega)]; exact g6⟩)
    (fun i q hi hq => by
      by_cases e : i = n
      · subst e
        rw [ch4_row _ hn _ _ _ hq]
        exact hfb q hq
      · rw [c4 i (by omega)]
        exact hb i q (by omega) hq)
    (by rw [f4 _ (by decide)]; exact h7) hu (by rw [ch4_126 _ _ _ _ hn, if_neg (by omega)]; exact hd1) (chP_ch4 hn hch)
    (fun i hi => by rw [f4 _ (by decide), ch4_124 _ _ _ _ hn, if_neg (by omega : ¬ (i : Int) = n)]; exact hpa i hi)
  rw [hdn]
  obtain ⟨κ, hκ⟩ : ∃ κ : St, κ = repM d (fmW μ P u t) P u := ⟨_, rfl⟩
  have e5 : repS d (ch4 σ n u t) n u = ch5 σ n u t := by unfold ch5; rw [hdn]
  rw [e5, ← hκ] at b1 b2 b3
  rw [e5] at b4
  rw [← hκ]
  have k9 : ∀ {x : Nat} (j : Int), x ≠ 216 → x ≠ 231 → κ x j = μ x j := fun j h1 h2 => by rw [hκ, repM_ne _ _ _ _ h1 h2, f4 _ h2]
  have ad_lo : ∀ {x : Nat} (j : Int), x ≠ 216 → x ≠ 221 → x ≠ 222 → x ≠ 223 → x ≠ 224 → x ≠ 225 → adN κ P n u t x j = κ x j := by
    intro x j h1 h2 h3 h4 h5 h6
    unfold adN ad1
    rw [updS_ne _ _ _ _ h1, updS_ne _ _ _ _ h5, updS_ne _ _ _ _ h4, updS_ne _ _ _ _ h3, blkS_ne _ _ _ _ _ h2, updS_ne _ _ _ _ h6]
  have ad_16 : ∀ {j : Int}, j ≠ 7 → adN κ P n u t 216 j = κ 216 j := by
    intro j h1
    unfold adN ad1
    rw [updS_nk _ _ _ _ h1, updS_ne _ _ _ _ (by decide), updS_ne _ _ _ _ (by decide), updS_ne _ _ _ _ (by decide), blkS_ne _ _ _ _ _ (by decide), updS_ne _ _ _ _ (by decide)]
  have ad_21 : ∀ j : Int, adN κ P n u t 221 j = if 6 * (n : Int) ≤ j ∧ j < 6 * (n : Int) + (P : Int) then κ 231 (j - 6 * (n : Int)) else κ 221 j := by
    intro j
    unfold adN ad1
    rw [updS_ne _ _ _ _ (by decide), updS_ne _ _ _ _ (by decide), updS_ne _ _ _ _ (by decide), updS_ne _ _ _ _ (by decide), blkS_ap]
    by_cases h : 6 * (n : Int) ≤ j ∧ j < 6 * (n : Int) + (P : Int)
    · rw [if_pos ⟨rfl, h⟩, if_pos h]
    · rw [if_neg (fun z => h z.2), if_neg h, updS_ne _ _ _ _ (by decide)]
  have ad_22 : ∀ j : Int, adN κ P n u t 222 j = if j = n then (u : Int) else κ 222 j := by
    intro j
    unfold adN ad1
    rw [updS_ne _ _ _ _ (by decide), updS_ne _ _ _ _ (by decide), updS_ne _ _ _ _ (by decide), updS_ap]
    by_cases h : j = n
    · rw [if_pos ⟨rfl, h⟩, if_pos h]
    · rw [if_neg (fun z => h z.2), if_neg h, blkS_ne _ _ _ _ _ (by decide), updS_ne _ _ _ _ (by decide)]
  have ad_23 : ∀ j : Int, adN κ P n u t 223 j = if j = n then (t : Int) else κ 223 j := by
    intro j
    unfold adN ad1
    rw [updS_ne _ _ _ _ (by decide), updS_ne _ _ _ _ (by decide), updS_ap]
    by_cases h : j = n
    · rw [if_pos ⟨rfl, h⟩, if_pos h]
    · rw [if_neg (fun z => h z.2), if_neg h, updS_ne _ _ _ _ (by decide), blkS_ne _ _ _ _ _ (by decide), updS_ne _ _ _ _ (by decide)]
  have ad_25 : ∀ j : Int, adN κ P n u t 225 j = if j = n then cpM κ P n else κ 225 j := by
    intro j
    unfold adN ad1
    rw [updS_ne _ _ _ _ (by decide), updS_ne _ _ _ _ (by decide), updS_ne _ _ _ _ (by decide), updS_ne _ _ _ _ (by decide), blkS_ne _ _ _ _ _ (by decide), updS_ap]
    by_cases h : j = n
    · rw [if_pos ⟨rfl, h⟩, if_pos h]
    · rw [if_neg (fun z => h z.2), if_neg h]
  refine ⟨?_, ?_, ?_, ?_, ?_⟩
  · intro i q hi hq
    rw [ad_21]
    by_cases e : i = n
    · subst e
      rw [chS_mkn _ hn]
      refine ⟨fun hqP => ?_, fun hqP => (b2 q hq).2 hqP⟩
      have e9 : ix i q - 6 * (i : Int) = q := by show 6 * (i : Int) + (q : Int) - 6 * (i : Int) = q; omega
      rw [if_pos (by show 6 * (i : Int) ≤ 6 * (i : Int) + (q : Int) ∧ 6 * (i : Int) + (q : Int) < 6 * (i : Int) + (P : Int); omega), e9]
      exact (b2 q hq).1 hqP
    · rw [chS_mk _ hn _ _ (by omega)]
      refine ⟨fun hqP => ?_, fun hqP => (hr i q (by omega) hq).2 hqP⟩
      rw [if_neg (by show ¬ (6 * (n : Int) ≤ 6 * (i : Int) + (q : Int) ∧ 6 * (i : Int) + (q : Int) < 6 * (n : Int) + (P : Int)); omega), k9 _ (by decide) (by decide)]
      exact (hr i q (by omega) hq).1 hqP
  · intro i hi
    rw [ad_22, chS_124 _ hn]
    by_cases e : i = n
    · subst e
      rw [if_pos rfl, if_pos rfl, if_neg (by omega)]
    · rw [if_neg (show ¬ (i : Int) = n by omega), if_neg (show ¬ (i : Int) = n by omega), k9 _ (by decide) (by decide)]
      exact hpa i (by omega)
  · intro i hi
    rw [ad_23, chS_125 _ hn]
    by_cases e : i = n
    · subst e
      rw [if_pos rfl, if_pos rfl]
    · rw [if_neg (by omega), if_neg (by omega), k9 _ (by decide) (by decide)]
      exact hby i (by omega)
  · intro i hi
    rw [ad_25, chS_127 _ hn]
    by_cases e : i = n
    · subst e
      rw [if_pos rfl, if_pos rfl]
      unfold amo
      refine bI_congr ⟨?_, ?_⟩
      · rintro ⟨j, hj, h⟩
        refine ⟨j, hj, fun q hq => ?_⟩
        by_cases hqP : q < P
        · have := h q hqP
          rw [(b1 j q hj hq).1 hqP, (b2 q hq).1 hqP] at this
          exact (w3_eq (b4 j q (by omega) hq) (b4 i q (by omega) hq)).mp this
        · rw [(b1 j q hj hq).2 (by omega), (b2 q hq).2 (by omega)]
      · rintro ⟨j, hj, h⟩
        refine ⟨j, hj, fun q hqP => ?_⟩
        rw [(b1 j q hj (by omega)).1 hqP, (b2 q (by omega)).1 hqP, h q (by omega)]
    · rw [if_neg (by omega), if_neg (by omega), k9 _ (by decide) (by decide)]
      exact hco i (by omega)
  · unfold MG
    rw [chS_22' _ hn _ _ (by decide), chS_22' _ hn _ _ (by decide), ad_16 (by decide), ad_16 (by decide)]
    rcases b3 with ⟨g1, g2⟩ | ⟨f, s9, g1, g2, g3, g4, g5, g6⟩
    · exact Or.inl ⟨g1, g2⟩
    · refine Or.inr ⟨f, s9, g1, by omega, g3, g4, g5, ?_⟩
      rw [g6, chS_126 _ hn, ch5_126 _ hn]

