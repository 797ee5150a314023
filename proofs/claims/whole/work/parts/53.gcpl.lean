abbrev iy (a b : Nat) : Int := 8 * (a : Int) + (b : Int)
def lk (x : Int) : Int := if x = -2 then -1 else x
def GR (σ μ : St) (P g : Nat) : Prop := ∀ i q : Nat, i < g → q < 6 → (q < P → μ 226 (ix i q) = σ (130 + i) q) ∧ (P ≤ q → σ (130 + i) q = 0)
def GF (σ μ : St) (g : Nat) : Prop := ∀ i : Nat, i < g → μ 228 i = σ 211 i ∧ μ 229 i = σ 212 i
def GL (σ μ : St) (T k t : Nat) : Prop := ∀ i u : Nat, (i < k ∧ u < T) ∨ (i = k ∧ u < t) → μ 227 (iy i u) = lk (σ (171 + i) u)
def scG (x : Nat) (j : Int) : Prop := (x = 216 ∧ (j = 0 ∨ j = 15)) ∨ (226 ≤ x ∧ x ≤ 229) ∨ x = 231
def frG (μ κ : St) : Prop := ∀ x j, ¬ scG x j → κ x j = μ x j
theorem fnd_congr {p q : Nat → Prop} [DecidablePred p] [DecidablePred q] : ∀ (k lo : Nat), (∀ i, lo ≤ i → i < lo + k → (p i ↔ q i)) → fnd p k lo = fnd q k lo
  | 0, _, _ => rfl
  | k + 1, lo, h => by
    have h0 := h lo (Nat.le_refl _) (by omega)
    unfold fnd
    rw [fnd_congr k (lo + 1) (fun i h1 h2 => h i (by omega) (by omega))]
    by_cases e : p lo
    · rw [if_pos e, if_pos (h0.mp e)]
    · rw [if_neg e, if_neg (fun z => e (h0.mpr z))]
theorem fn_cpl {σ κ : St} {P g a : Nat} (h6 : P ≤ 6) (hr : GR σ κ P g) (hw : ∀ q : Nat, q < 6 → (q < P → κ 231 q = σ a q) ∧ (P ≤ q → σ a q = 0)) : fnM κ P g = fndS σ g a := by
  refine fnd_congr g 0 (fun i _ hi => ⟨fun h q hq => ?_, fun h q hq => ?_⟩)
  · by_cases hqP : q < P
    · rw [← (hr i q (by omega) hq).1 hqP, ← (hw q hq).1 hqP]
      exact h q hqP
    · rw [(hr i q (by omega) hq).2 (by omega), (hw q hq).2 (by omega)]
  · rw [(hr i q (by omega) (by omega)).1 hq, (hw q (by omega)).1 hq]
    exact h q (by omega)
theorem enG_iff {σ κ : St} {P T g k t : Nat} (hM : MN σ κ P T) (h6 : P ≤ 6) (h8 : T ≤ 8) (hZ : NZ σ P) (hr : GR σ κ P g) (hk : k < g) (ht : t < T) : (∀ q : Nat, q < P → κ 219 (ix t q) ≤ κ 226 (ix k q)) ↔ enP σ (130 + k) t := by
  constructor
  · intro h q hq
    by_cases hqP : q < P
    · have := h q hqP
      rw [(hM.2.2.2.2 t q (by omega) hq).1, (hr k q hk hq).1 hqP] at this
      exact this
    · rw [((hZ q hq (by omega)).2.2 t (by omega)).1, (hr k q hk hq).2 (by omega)]
      exact Int.le_refl _
  · intro h q hq
    rw [(hM.2.2.2.2 t q (by omega) (by omega)).1, (hr k q hk (by omega)).1 hq]
    exact h q (by omega)
theorem GL_set {σ ρ μ κ : St} {T k t : Nat} (h8 : T ≤ 8) (ht : t < T) (h : GL σ μ T k t) (e1 : ∀ i : Nat, i < k → ∀ j : Int, ρ (171 + i) j = σ (171 + i) j) (e2 : ∀ u : Nat, u < t → ρ (171 + k) u = σ (171 + k) u) (e3 : ∀ j : Int, j ≠ iy k t → κ 227 j = μ 227 j) (e4 : κ 227 (iy k t) = lk (ρ (171 + k) t)) : GL ρ κ T k (t + 1) := by
  intro i u hc
  by_cases e : i = k ∧ u = t
  · obtain ⟨rfl, rfl⟩ := e
    exact e4
  · rw [e3 _ (by show ¬ (8 * (i : Int) + (u : Int) = 8 * (k : Int) + (t : Int)); omega)]
    rcases hc with ⟨h1, h2⟩ | ⟨h1, h2⟩
    · rw [e1 i h1]
      exact h i u (Or.inl ⟨h1, h2⟩)
    · subst h1
      rw [e2 u (by omega)]
      exact h i u (Or.inr ⟨rfl, by omega⟩)
theorem MN_fr {ν σ μ κ : St} {P T : Nat} (h : MN ν μ P T) (hs : ∀ x j, ¬ inG x → σ x j = ν x j) (hf : frG μ κ) : MN σ κ P T :=
  MN_ne h (fun x j hx => hs x j (by unfold inG; omega)) (fun x j h1 h2 => hf x j (by unfold scG; omega)) (hf _ _ (by unfold scG; omega)) (hf _ _ (by unfold scG; omega))
theorem NZ_fr {ν σ : St} {P : Nat} (h : NZ ν P) (hs : ∀ x j, ¬ inG x → σ x j = ν x j) : NZ σ P := NZ_ne h (fun x j hx => hs x j (by unfold inG; omega))
theorem asM_lo (μ : St) (P g : Nat) (u t : Int) {x : Nat} (j : Int) (h1 : x ≠ 216) (h2 : x ≠ 226) (h3 : x ≠ 228) (h4 : x ≠ 229) : asM μ P g u t x j = μ x j := by
  unfold asM
  rw [updS_ne _ _ _ _ h1, updS_ne _ _ _ _ h4, updS_ne _ _ _ _ h3, blkS_ne _ _ _ _ _ h2]
theorem asM_16 (μ : St) (P g : Nat) (u t : Int) {j : Int} (h1 : j ≠ 15) : asM μ P g u t 216 j = μ 216 j := by
  unfold asM
  rw [updS_nk _ _ _ _ h1, updS_ne _ _ _ _ (by decide), updS_ne _ _ _ _ (by decide), blkS_ne _ _ _ _ _ (by decide)]
theorem asM_15 (μ : St) (P g : Nat) (u t : Int) : asM μ P g u t 216 15 = ((g + 1 : Nat) : Int) := by
  unfold asM
  rw [updS_self]
  omega
theorem asM_26 (μ : St) (P g : Nat) (u t : Int) (j : Int) : asM μ P g u t 226 j = if 6 * (g : Int) ≤ j ∧ j < 6 * (g : Int) + (P : Int) then μ 231 (j - 6 * (g : Int)) else μ 226 j := by
  unfold asM
  rw [updS_ne _ _ _ _ (by decide), updS_ne _ _ _ _ (by decide), updS_ne _ _ _ _ (by decide), blkS_ap]
  by_cases h : 6 * (g : Int) ≤ j ∧ j < 6 * (g : Int) + (P : Int)
  · rw [if_pos ⟨rfl, h⟩, if_pos h]
  · rw [if_neg (fun z => h z.2), if_neg h]
theorem asM_28 (μ : St) (P g : Nat) (u t : Int) (j : Int) : asM μ P g u t 228 j = if j = g then u else μ 228 j := by
  unfold asM
  rw [updS_ne _ _ _ _ (by decide), updS_ne _ _ _ _ (by decide), updS_ap]
  by_cases h : j = g
  · rw [if_pos ⟨rfl, h⟩, if_pos h]
  · rw [if_neg (fun z => h z.2), if_neg h, blkS_ne _ _ _ _ _ (by decide)]
theorem asM_29 (μ : St) (P g : Nat) (u t : Int) (j : Int) : asM μ P g u t 229 j = if j = g then t else μ 229 j := by
  unfold asM
  rw [updS_ne _ _ _ _ (by decide), updS_ap]
  by_cases h : j = g
  · rw [if_pos ⟨rfl, h⟩, if_pos h]
  · rw [if_neg (fun z => h z.2), if_neg h, updS_ne _ _ _ _ (by decide), blkS_ne _ _ _ _ _ (by decide)]
/- a state more -/
theorem add_cpl {σ κ : St} {P g : Nat} {f b d : Int} (h6 : P ≤ 6) (hg : g < 40) (hr : GR σ κ P g) (hf : GF σ κ g) (hw : ∀ q : Nat, q < 6 → (q < P → κ 231 q = σ 215 q) ∧ (P ≤ q → σ 215 q = 0)) : GR (asS σ g f b d) (asM κ P g f b) P (g + 1) ∧ GF (asS σ g f b d) (asM κ P g f b) (g + 1) := by
  refine ⟨fun i q hi hq => ?_, fun i hi => ?_⟩
  · rw [asM_26]
    by_cases e : i = g
    · subst e
      rw [asS_row _ hg _ _ _ hq]
      refine ⟨fun hqP => ?_, fun hqP => (hw q hq).2 hqP⟩
      have e9 : ix i q - 6 * (i : Int) = q := by show 6 * (i : Int) + (q : Int) - 6 * (i : Int) = q; omega
      rw [if_pos (by show 6 * (i : Int) ≤ 6 * (i : Int) + (q : Int) ∧ 6 * (i : Int) + (q : Int) < 6 * (i : Int) + (P : Int); omega), e9]
      exact (hw q hq).1 hqP
    · rw [asS_ne _ _ _ _ (by omega) (by omega) (by omega) (by omega) (by omega)]
      refine ⟨fun hqP => ?_, fun hqP => (hr i q (by omega) hq).2 hqP⟩
      rw [if_neg (by show ¬ (6 * (g : Int) ≤ 6 * (i : Int) + (q : Int) ∧ 6 * (i : Int) + (q : Int) < 6 * (g : Int) + (P : Int)); omega)]
      exact (hr i q (by omega) hq).1 hqP
  · rw [asM_28, asM_29, asS_211 _ hg, asS_212 _ hg]
    by_cases e : i = g
    · subst e
      rw [if_pos rfl, if_pos rfl, if_pos rfl, if_pos rfl]
      exact ⟨rfl, rfl⟩
    · rw [if_neg (show ¬ (i : Int) = g by omega), if_neg (show ¬ (i : Int) = g by omega), if_neg (show ¬ (i : Int) = g by omega), if_neg (show ¬ (i : Int) = g by omega)]
      exact hf i (by omega)

