theorem GG_q {μ σ τ : St} {P T : Nat} {c9 : Int} (hG : GG μ P T) (e : ∀ x, x ≠ 232 → σ x = μ x) (ht : τ = updS σ 216 0 c9) : GG τ P T :=
  GG_fr hG (fun x h1 h2 h3 h4 h5 h6 => by rw [ht, ufn h2, e x h6]) (fun j hj => by rw [ht, updS_nk _ _ _ _ hj, e 216 (by decide)])
theorem pfn {μ : St} {b x i : Nat} {F : Int → Int} (h : x ≠ b) : preS μ b i F x = μ x := funext (fun j => preS_ne _ _ _ _ h)
theorem bI_if (q : Prop) [Decidable q] : (if bI q = 0 then (0 : Int) else 1) = bI q := by
  rcases bI_01 q with h | h
  · rw [if_pos h, h]
  · rw [if_neg (by omega), h]
theorem cntM_fr {μ σ : St} (e : σ 227 = μ 227) {T : Nat} : ∀ {i : Nat}, cntM σ T i = cntM μ T i := by
  intro i
  induction i with
  | zero => rfl
  | succ i ih =>
    unfold cntM
    rw [ih, e]
theorem RcM_fr {μ σ : St} (e : σ 227 = μ 227) {g T t i : Nat} : RcM σ g T t i ↔ RcM μ g T t i := by
  unfold RcM
  rw [e]
theorem rel_tree {μ : St} {P T : Nat} (hG : GG μ P T) : (μ 22 1 = 0 ∧ μ 216 7 = -1) ∨ (1 ≤ μ 22 1 ∧ μ 22 1 ≤ 100 ∧ μ 216 7 = μ 22 1) := by
  rcases hG.2.2.2.2.1 with h | ⟨n, h1, h2, h3⟩
  · exact Or.inl h
  · have e1 := h1.1
    have e2 := h1.2.1
    have e3 := h1.2.2.1
    exact Or.inr ⟨by omega, by omega, by omega⟩
theorem rel_graph {μ : St} {P T : Nat} (hG : GG μ P T) : (μ 128 1 = 0 ∧ μ 216 15 = -1) ∨ (1 ≤ μ 128 1 ∧ μ 128 1 ≤ 40 ∧ μ 216 15 = μ 128 1) := by
  rcases hG.2.2.2.2.2 with h | ⟨n, h1, h2, h3, h4, h5⟩
  · exact Or.inl h
  · have e1 := h1.1
    have e2 := h1.2.1
    have e3 := h1.2.2.1
    exact Or.inr ⟨by omega, by omega, by omega⟩
theorem the_tree {μ : St} {P T : Nat} (hG : GG μ P T) (h : ¬ μ 22 1 = 0) : ∃ n : Nat, TI μ T n ∧ MT μ μ P n ∧ μ 216 7 = n ∧ μ 22 1 = n := by
  rcases hG.2.2.2.2.1 with z | ⟨n, h1, h2, h3⟩
  · exact absurd z.1 h
  · exact ⟨n, h1, h2, h3, h1.2.2.1⟩
theorem the_graph {μ : St} {P T : Nat} (hG : GG μ P T) (h : ¬ μ 128 1 = 0) : ∃ g : Nat, GI μ T g ∧ (∀ k : Nat, k < g → nxP μ g k T) ∧ ahS μ g T μ ∧ GC μ μ P T g ∧ μ 216 15 = g ∧ μ 128 1 = g := by
  rcases hG.2.2.2.2.2 with z | ⟨n, h1, h2, h3, h4, h5⟩
  · exact absurd z.1 h
  · exact ⟨n, h1, h2, h3, h4, h5, h1.2.2.1⟩
def OUT3 (μ σ : St) (r : Option Value) (mp : Int → St → Prop) : Prop := ∃ k : Int, r = some (iN k) ∧ InR k ∧ (∀ x, 216 ≤ x → x ≠ 232 → σ x = μ x) ∧ ∀ (v2 : Int) (τ : St), mp v2 τ → τ 216 0 = k ∧ (k = 0 → τ 232 0 = v2) ∧ ∃ P2 T2 : Nat, GG τ P2 T2
def OUTn (μ σ : St) (r : Option Value) (mp : St → Prop) : Prop := ∃ k : Int, r = some (iN k) ∧ InR k ∧ (∀ x, 216 ≤ x → x ≠ 232 → σ x = μ x) ∧ ∀ (τ : St), mp τ → τ 216 0 = k ∧ ∃ P2 T2 : Nat, GG τ P2 T2

theorem fin_count {μ σ : St} {P T : Nat} {n a : Int} {r : Option Value} (hG : GG μ P T)  (hw : wp2 (fun μ2 => μ 22 1 = 0 ∧ μ2 = μ) (fun μ2 => ¬ μ 22 1 = 0 ∧ ¬ ((0 ≤ n ∧ n < μ 22 1) ∧ (0 ≤ a ∧ a < P)) ∧ μ2 = μ) (fun v μ2 => ¬ μ 22 1 = 0 ∧ ((0 ≤ n ∧ n < μ 22 1) ∧ (0 ≤ a ∧ a < P)) ∧ v = (if μ (24 + n.toNat) a = 1000000 then -1 else μ (24 + n.toNat) a) ∧ μ2 = μ) r σ) : OUT3 μ σ r (fun v2 τ => (σ 216 7 < 0 ∧ τ = updS σ 216 0 1) ∨ (¬ σ 216 7 < 0 ∧ ¬ ((0 ≤ n ∧ n < σ 216 7) ∧ (0 ≤ a ∧ a < P)) ∧ τ = updS σ 216 0 2) ∨ (¬ σ 216 7 < 0 ∧ ((0 ≤ n ∧ n < σ 216 7) ∧ (0 ≤ a ∧ a < P)) ∧ v2 = (if σ 221 (6 * n + a) = 1000000000 then -1 else σ 221 (6 * n + a)) ∧ τ = updS σ 216 0 0)) := by
  have hcp := rel_tree hG
  rcases hw with ⟨hr, c1, hσ⟩ | ⟨hr, ⟨c1, c2, hσ⟩⟩ | ⟨hr, v, μ3, hv, ⟨c1, c2, hvv, h3⟩, hσ⟩
  · have e : ∀ x, x ≠ 232 → σ x = μ x := fun x hx => by rw [hσ]
    refine ⟨1, hr, ⟨by decide, by decide⟩, fun x _ h2 => e x h2, fun v2 τ hm => ?_⟩
    dsimp only at hm
    rw [e 216 (by decide), e 221 (by decide)] at hm
    rcases hm with ⟨d1, hτ⟩ | ⟨d1, d2, hτ⟩ | ⟨d1, d2, dv, hτ⟩
    · exact ⟨by rw [hτ, updS_self], fun z => absurd z (by decide), P, T, GG_q hG e hτ⟩
    · omega
    · omega
  · have e : ∀ x, x ≠ 232 → σ x = μ x := fun x hx => by rw [hσ]
    refine ⟨2, hr, ⟨by decide, by decide⟩, fun x _ h2 => e x h2, fun v2 τ hm => ?_⟩
    dsimp only at hm
    rw [e 216 (by decide), e 221 (by decide)] at hm
    rcases hm with ⟨d1, hτ⟩ | ⟨d1, d2, hτ⟩ | ⟨d1, d2, dv, hτ⟩
    · omega
    · exact ⟨by rw [hτ, updS_self], fun z => absurd z (by decide), P, T, GG_q hG e hτ⟩
    · omega
  · have e : ∀ x, x ≠ 232 → σ x = μ x := fun x hx => by rw [hσ, ufn hx, h3]
    refine ⟨0, hr, ⟨by decide, by decide⟩, fun x _ h2 => e x h2, fun v2 τ hm => ?_⟩
    dsimp only at hm
    rw [e 216 (by decide), e 221 (by decide)] at hm
    rcases hm with ⟨d1, hτ⟩ | ⟨d1, d2, hτ⟩ | ⟨d1, d2, dv, hτ⟩
    · omega
    · omega
    · refine ⟨by rw [hτ, updS_self], fun _ => ?_, P, T, GG_q hG e hτ⟩
      rw [hτ, updS_ne _ _ _ _ (by decide), hσ, updS_self, hvv]
      rw [dv]
      obtain ⟨m, hT, hM, h7, h22⟩ := the_tree hG c1
      obtain ⟨n9, rfl⟩ : ∃ n9 : Nat, n = n9 := ⟨n.toNat, by omega⟩
      obtain ⟨a9, rfl⟩ : ∃ a9 : Nat, a = a9 := ⟨a.toNat, by omega⟩
      exact (v_count hT hM hG.1.1 (i := n9) (a := a9) (by omega) (by omega)).symm
theorem fin_node {μ σ : St} {P T : Nat} {n i : Int} {r : Option Value} (hG : GG μ P T)  (hw : wp2 (fun μ2 => μ 22 1 = 0 ∧ μ2 = μ) (fun μ2 => ¬ μ 22 1 = 0 ∧ ¬ (0 ≤ n ∧ n < μ 22 1) ∧ μ2 = μ) (fun v μ2 => ¬ μ 22 1 = 0 ∧ (0 ≤ n ∧ n < μ 22 1) ∧ v = (if i = 0 then μ 124 n else if i = 1 then μ 125 n else if i = 2 then (if μ 127 n = 0 then 0 else 1) else -2) ∧ μ2 = μ) r σ) : OUT3 μ σ r (fun v2 τ => (σ 216 7 < 0 ∧ τ = updS σ 216 0 1) ∨ (¬ σ 216 7 < 0 ∧ ¬ (0 ≤ n ∧ n < σ 216 7) ∧ τ = updS σ 216 0 2) ∨ (¬ σ 216 7 < 0 ∧ (0 ≤ n ∧ n < σ 216 7) ∧ v2 = (if i = 2 then (if σ 225 n = 0 then 0 else 1) else if n = 0 ∨ (¬ i = 0 ∧ ¬ i = 1) then -2 else if i = 0 then σ 222 n else σ 223 n) ∧ τ = updS σ 216 0 0)) := by
  have hcp := rel_tree hG
  rcases hw with ⟨hr, c1, hσ⟩ | ⟨hr, ⟨c1, c2, hσ⟩⟩ | ⟨hr, v, μ3, hv, ⟨c1, c2, hvv, h3⟩, hσ⟩
  · have e : ∀ x, x ≠ 232 → σ x = μ x := fun x hx => by rw [hσ]
    refine ⟨1, hr, ⟨by decide, by decide⟩, fun x _ h2 => e x h2, fun v2 τ hm => ?_⟩
    dsimp only at hm
    rw [e 216 (by decide), e 225 (by decide), e 222 (by decide), e 223 (by decide)] at hm
    rcases hm with ⟨d1, hτ⟩ | ⟨d1, d2, hτ⟩ | ⟨d1, d2, dv, hτ⟩
    · exact ⟨by rw [hτ, updS_self], fun z => absurd z (by decide), P, T, GG_q hG e hτ⟩
    · omega
    · omega
  · have e : ∀ x, x ≠ 232 → σ x = μ x := fun x hx => by rw [hσ]
    refine ⟨2, hr, ⟨by decide, by decide⟩, fun x _ h2 => e x h2, fun v2 τ hm => ?_⟩
    dsimp only at hm
    rw [e 216 (by decide), e 225 (by decide), e 222 (by decide), e 223 (by decide)] at hm
    rcases hm with ⟨d1, hτ⟩ | ⟨d1, d2, hτ⟩ | ⟨d1, d2, dv, hτ⟩
    · omega
    · exact ⟨by rw [hτ, updS_self], fun z => absurd z (by decide), P, T, GG_q hG e hτ⟩
    · omega
  · have e : ∀ x, x ≠ 232 → σ x = μ x := fun x hx => by rw [hσ, ufn hx, h3]
    refine ⟨0, hr, ⟨by decide, by decide⟩, fun x _ h2 => e x h2, fun v2 τ hm => ?_⟩
    dsimp only at hm
    rw [e 216 (by decide), e 225 (by decide), e 222 (by decide), e 223 (by decide)] at hm
    rcases hm with ⟨d1, hτ⟩ | ⟨d1, d2, hτ⟩ | ⟨d1, d2, dv, hτ⟩
    · omega
    · omega
    · refine ⟨by rw [hτ, updS_self], fun _ => ?_, P, T, GG_q hG e hτ⟩
      rw [hτ, updS_ne _ _ _ _ (by decide), hσ, updS_self, hvv]
      rw [dv]
      obtain ⟨m, hT, hM, h7, h22⟩ := the_tree hG c1
      obtain ⟨n9, rfl⟩ : ∃ n9 : Nat, n = n9 := ⟨n.toNat, by omega⟩
      have y1 := hM.2.1 n9 (by omega)
      have y2 := hM.2.2.1 n9 (by omega)
      have y3 := hM.2.2.2.1 n9 (by omega)
      have y4 := hT.2.2.2.2.2.2.2.2.1
      have y5 := hT.2.2.2.2.2.2.2.2.2
      rw [y3, y2]
      by_cases i2 : i = 2
      · rw [if_pos i2, if_neg (by omega), if_neg (by omega), if_pos i2]
      · rw [if_neg i2, if_neg i2]
        by_cases n0 : n9 = 0
        · subst n0
          have z4 : μ 124 ((0 : Nat) : Int) = -2 := y4
          have z5 : μ 125 ((0 : Nat) : Int) = -2 := y5
          rw [z4, z5, if_pos (show (((0 : Nat) : Int) = 0 ∨ (¬ i = 0 ∧ ¬ i = 1)) from Or.inl rfl)]
          split <;> first | rfl | (split <;> rfl)
        · rw [if_neg n0] at y1
          rw [y1]
          by_cases i0 : i = 0
          · rw [if_pos i0, if_neg (by omega), if_pos i0]
          · by_cases i1 : i = 1
            · rw [if_neg i0, if_pos i1, if_neg (by omega), if_neg i0]
            · rw [if_neg i0, if_neg i1, if_pos (Or.inr ⟨i0, i1⟩)]
theorem fin_bound {μ σ : St} {P T : Nat} {n : Nat} {a : Int} {r : Option Value} (hG : GG μ P T) (hs : μ 22 1 = n) (hw : wp2 (fun μ2 => n = 0 ∧ μ2 = μ) (fun μ2 => ¬ n = 0 ∧ ¬ (0 ≤ a ∧ a < P) ∧ μ2 = μ) (fun v μ2 => ¬ n = 0 ∧ (0 ≤ a ∧ a < P) ∧ v = (if gmax (fun i => μ (24 + i) a) n = 1000000 then -1 else gmax (fun i => μ (24 + i) a) n) ∧ μ2 = μ) r σ) : OUT3 μ σ r (fun v2 τ => (σ 216 7 < 0 ∧ τ = updS σ 216 0 1) ∨ (¬ σ 216 7 < 0 ∧ ¬ (0 ≤ a ∧ a < P) ∧ τ = updS σ 216 0 2) ∨ (¬ σ 216 7 < 0 ∧ (0 ≤ a ∧ a < P) ∧ v2 = (if gmax (fun i => σ 221 (ix i a.toNat)) (σ 216 7).toNat = 1000000000 then -1 else gmax (fun i => σ 221 (ix i a.toNat)) (σ 216 7).toNat) ∧ τ = updS σ 216 0 0)) := by
  have hcp := rel_tree hG
  rcases hw with ⟨hr, c1, hσ⟩ | ⟨hr, ⟨c1, c2, hσ⟩⟩ | ⟨hr, v, μ3, hv, ⟨c1, c2, hvv, h3⟩, hσ⟩
  · have e : ∀ x, x ≠ 232 → σ x = μ x := fun x hx => by rw [hσ]
    refine ⟨1, hr, ⟨by decide, by decide⟩, fun x _ h2 => e x h2, fun v2 τ hm => ?_⟩
    dsimp only at hm
    rw [e 216 (by decide), e 221 (by decide)] at hm
    rcases hm with ⟨d1, hτ⟩ | ⟨d1, d2, hτ⟩ | ⟨d1, d2, dv, hτ⟩
    · exact ⟨by rw [hτ, updS_self], fun z => absurd z (by decide), P, T, GG_q hG e hτ⟩
    · omega
    · omega
  · have e : ∀ x, x ≠ 232 → σ x = μ x := fun x hx => by rw [hσ]
    refine ⟨2, hr, ⟨by decide, by decide⟩, fun x _ h2 => e x h2, fun v2 τ hm => ?_⟩
    dsimp only at hm
    rw [e 216 (by decide), e 221 (by decide)] at hm
    rcases hm with ⟨d1, hτ⟩ | ⟨d1, d2, hτ⟩ | ⟨d1, d2, dv, hτ⟩
    · omega
    · exact ⟨by rw [hτ, updS_self], fun z => absurd z (by decide), P, T, GG_q hG e hτ⟩
    · omega
  · have e : ∀ x, x ≠ 232 → σ x = μ x := fun x hx => by rw [hσ, ufn hx, h3]
    refine ⟨0, hr, ⟨by decide, by decide⟩, fun x _ h2 => e x h2, fun v2 τ hm => ?_⟩
    dsimp only at hm
    rw [e 216 (by decide), e 221 (by decide)] at hm
    rcases hm with ⟨d1, hτ⟩ | ⟨d1, d2, hτ⟩ | ⟨d1, d2, dv, hτ⟩
    · omega
    · omega
    · refine ⟨by rw [hτ, updS_self], fun _ => ?_, P, T, GG_q hG e hτ⟩
      rw [hτ, updS_ne _ _ _ _ (by decide), hσ, updS_self, hvv]
      rw [dv]
      obtain ⟨m, hT, hM, h7, h22⟩ := the_tree hG (by omega)
      obtain ⟨a9, rfl⟩ : ∃ a9 : Nat, a = a9 := ⟨a.toNat, by omega⟩
      have hmn : m = n := by omega
      subst hmn
      rw [show (μ 216 7).toNat = m by omega]
      exact (v_bound hT hM hG.1.1 (a := a9) (by omega)).symm
theorem fin_covered {μ σ : St} {P T : Nat} {n : Nat} {r : Option Value} (hG : GG μ P T) (hs : μ 22 1 = n) (hw : wz1 (fun μ2 => n = 0 ∧ μ2 = μ)  (fun v μ2 => ¬ n = 0 ∧ v = bI (∃ i : Nat, i < n ∧ ∀ q : Nat, q < 6 → μ 21 q ≤ μ (24 + i) q) ∧ μ2 = μ) r σ) : OUT3 μ σ r (fun v2 τ => (σ 216 7 < 0 ∧ τ = updS σ 216 0 1) ∨ (¬ σ 216 7 < 0 ∧ v2 = bI (∃ i : Nat, i < (σ 216 7).toNat ∧ ∀ q : Nat, q < P → σ 218 q ≤ σ 221 (ix i q)) ∧ τ = updS σ 216 0 0)) := by
  have hcp := rel_tree hG
  rcases hw with ⟨hr, c1, hσ⟩ | ⟨hr, v, μ3, hv, ⟨c1, hvv, h3⟩, hσ⟩
  · have e : ∀ x, x ≠ 232 → σ x = μ x := fun x hx => by rw [hσ]
    refine ⟨1, hr, ⟨by decide, by decide⟩, fun x _ h2 => e x h2, fun v2 τ hm => ?_⟩
    dsimp only at hm
    rw [e 216 (by decide)] at hm
    rcases hm with ⟨d1, hτ⟩ | ⟨d1, dv, hτ⟩
    · exact ⟨by rw [hτ, updS_self], fun z => absurd z (by decide), P, T, GG_q hG e hτ⟩
    · omega
  · have e : ∀ x, x ≠ 232 → σ x = μ x := fun x hx => by rw [hσ, ufn hx, h3]
    refine ⟨0, hr, ⟨by decide, by decide⟩, fun x _ h2 => e x h2, fun v2 τ hm => ?_⟩
    dsimp only at hm
    rw [e 216 (by decide)] at hm
    rcases hm with ⟨d1, hτ⟩ | ⟨d1, dv, hτ⟩
    · omega
    · refine ⟨by rw [hτ, updS_self], fun _ => ?_, P, T, GG_q hG e hτ⟩
      rw [hτ, updS_ne _ _ _ _ (by decide), hσ, updS_self, hvv]
      rw [bI_if, dv]
      obtain ⟨m, hT, hM, h7, h22⟩ := the_tree hG (by omega)
      have hmn : m = n := by omega
      subst hmn
      rw [show (μ 216 7).toNat = m by omega]
      refine bI_congr ?_
      rw [e 218 (by decide), e 221 (by decide)]
      exact (v_covered hT hM hG.2.2.2.1 hG.2.1 hG.1.1 hG.2.2.1).symm
theorem fin_possible {μ σ : St} {P T : Nat} {n : Nat} {t : Int} {r : Option Value} (hG : GG μ P T) (hs : μ 22 1 = n) (hw : wz2 (fun μ2 => n = 0 ∧ μ2 = μ) (fun μ2 => ¬ n = 0 ∧ ¬ (0 ≤ t ∧ t < T) ∧ μ2 = μ) (fun v μ2 => ¬ n = 0 ∧ (0 ≤ t ∧ t < T) ∧ v = bI (∃ i : Nat, i < n ∧ ∀ q : Nat, q < 6 → μ (4 + t.toNat) q ≤ μ (24 + i) q) ∧ μ2 = μ) r σ) : OUT3 μ σ r (fun v2 τ => (σ 216 7 < 0 ∧ τ = updS σ 216 0 1) ∨ (¬ σ 216 7 < 0 ∧ ¬ (0 ≤ t ∧ t < T) ∧ τ = updS σ 216 0 2) ∨ (¬ σ 216 7 < 0 ∧ (0 ≤ t ∧ t < T) ∧ v2 = bI (∃ i : Nat, i < (σ 216 7).toNat ∧ ∀ q : Nat, q < P → σ 219 (ix t.toNat q) ≤ σ 221 (ix i q)) ∧ τ = updS σ 216 0 0)) := by
  have hcp := rel_tree hG
  rcases hw with ⟨hr, c1, hσ⟩ | ⟨hr, ⟨c1, c2, hσ⟩⟩ | ⟨hr, v, μ3, hv, ⟨c1, c2, hvv, h3⟩, hσ⟩
  · have e : ∀ x, x ≠ 232 → σ x = μ x := fun x hx => by rw [hσ]
    refine ⟨1, hr, ⟨by decide, by decide⟩, fun x _ h2 => e x h2, fun v2 τ hm => ?_⟩
    dsimp only at hm
    rw [e 216 (by decide)] at hm
    rcases hm with ⟨d1, hτ⟩ | ⟨d1, d2, hτ⟩ | ⟨d1, d2, dv, hτ⟩
    · exact ⟨by rw [hτ, updS_self], fun z => absurd z (by decide), P, T, GG_q hG e hτ⟩
    · omega
    · omega
  · have e : ∀ x, x ≠ 232 → σ x = μ x := fun x hx => by rw [hσ]
    refine ⟨2, hr, ⟨by decide, by decide⟩, fun x _ h2 => e x h2, fun v2 τ hm => ?_⟩
    dsimp only at hm
    rw [e 216 (by decide)] at hm
    rcases hm with ⟨d1, hτ⟩ | ⟨d1, d2, hτ⟩ | ⟨d1, d2, dv, hτ⟩
    · omega
    · exact ⟨by rw [hτ, updS_self], fun z => absurd z (by decide), P, T, GG_q hG e hτ⟩
    · omega
  · have e : ∀ x, x ≠ 232 → σ x = μ x := fun x hx => by rw [hσ, ufn hx, h3]
    refine ⟨0, hr, ⟨by decide, by decide⟩, fun x _ h2 => e x h2, fun v2 τ hm => ?_⟩
    dsimp only at hm
    rw [e 216 (by decide)] at hm
    rcases hm with ⟨d1, hτ⟩ | ⟨d1, d2, hτ⟩ | ⟨d1, d2, dv, hτ⟩
    · omega
    · omega
    · refine ⟨by rw [hτ, updS_self], fun _ => ?_, P, T, GG_q hG e hτ⟩
      rw [hτ, updS_ne _ _ _ _ (by decide), hσ, updS_self, hvv]
      rw [bI_if, dv]
      obtain ⟨m, hT, hM, h7, h22⟩ := the_tree hG (by omega)
      have hmn : m = n := by omega
      subst hmn
      rw [show (μ 216 7).toNat = m by omega]
      refine bI_congr ?_
      rw [e 219 (by decide), e 221 (by decide)]
      exact (v_possible hT hM hG.2.2.2.1 hG.1 hG.2.1 (t := t.toNat) (by omega)).symm
theorem fin_distance {μ σ : St} {P T : Nat} {g : Nat} {i : Int} {r : Option Value} (hG : GG μ P T) (hs : μ 128 1 = g) (hw : wp2 (fun μ2 => g = 0 ∧ μ2 = μ) (fun μ2 => ¬ g = 0 ∧ ¬ (0 ≤ i ∧ i < g) ∧ μ2 = μ) (fun v μ2 => ¬ g = 0 ∧ (0 ≤ i ∧ i < g) ∧ v = μ 213 i ∧ μ2 = μ) r σ) : OUT3 μ σ r (fun v2 τ => (σ 216 15 < 0 ∧ τ = updS σ 216 0 1) ∨ (¬ σ 216 15 < 0 ∧ ¬ (0 ≤ i ∧ i < σ 216 15) ∧ τ = updS σ 216 0 2) ∨ (¬ σ 216 15 < 0 ∧ (0 ≤ i ∧ i < σ 216 15) ∧ v2 = ((μ 213 (i.toNat : Nat)).toNat : Nat) ∧ τ = updS σ 216 0 0)) := by
  have hcp := rel_graph hG
  rcases hw with ⟨hr, c1, hσ⟩ | ⟨hr, ⟨c1, c2, hσ⟩⟩ | ⟨hr, v, μ3, hv, ⟨c1, c2, hvv, h3⟩, hσ⟩
  · have e : ∀ x, x ≠ 232 → σ x = μ x := fun x hx => by rw [hσ]
    refine ⟨1, hr, ⟨by decide, by decide⟩, fun x _ h2 => e x h2, fun v2 τ hm => ?_⟩
    dsimp only at hm
    rw [e 216 (by decide)] at hm
    rcases hm with ⟨d1, hτ⟩ | ⟨d1, d2, hτ⟩ | ⟨d1, d2, dv, hτ⟩
    · exact ⟨by rw [hτ, updS_self], fun z => absurd z (by decide), P, T, GG_q hG e hτ⟩
    · omega
    · omega
  · have e : ∀ x, x ≠ 232 → σ x = μ x := fun x hx => by rw [hσ]
    refine ⟨2, hr, ⟨by decide, by decide⟩, fun x _ h2 => e x h2, fun v2 τ hm => ?_⟩
    dsimp only at hm
    rw [e 216 (by decide)] at hm
    rcases hm with ⟨d1, hτ⟩ | ⟨d1, d2, hτ⟩ | ⟨d1, d2, dv, hτ⟩
    · omega
    · exact ⟨by rw [hτ, updS_self], fun z => absurd z (by decide), P, T, GG_q hG e hτ⟩
    · omega
  · have e : ∀ x, x ≠ 232 → σ x = μ x := fun x hx => by rw [hσ, ufn hx, h3]
    refine ⟨0, hr, ⟨by decide, by decide⟩, fun x _ h2 => e x h2, fun v2 τ hm => ?_⟩
    dsimp only at hm
    rw [e 216 (by decide)] at hm
    rcases hm with ⟨d1, hτ⟩ | ⟨d1, d2, hτ⟩ | ⟨d1, d2, dv, hτ⟩
    · omega
    · omega
    · refine ⟨by rw [hτ, updS_self], fun _ => ?_, P, T, GG_q hG e hτ⟩
      rw [hτ, updS_ne _ _ _ _ (by decide), hσ, updS_self, hvv]
      rw [dv]
      obtain ⟨m, hI, hnx, hah, hC, h15, h128⟩ := the_graph hG (by omega)
      obtain ⟨n9, rfl⟩ : ∃ n9 : Nat, i = n9 := ⟨i.toNat, by omega⟩
      obtain ⟨d, hd1, hd2⟩ := GI_d hI (i := n9) (by omega)
      rw [show ((n9 : Nat) : Int).toNat = n9 from rfl, hd1]
      rfl
theorem fin_found {μ σ : St} {P T : Nat} {g : Nat} {i z : Int} {r : Option Value} (hG : GG μ P T) (hs : μ 128 1 = g) (hw : wp2 (fun μ2 => g = 0 ∧ μ2 = μ) (fun μ2 => ¬ g = 0 ∧ ¬ (0 ≤ i ∧ i < g) ∧ μ2 = μ) (fun v μ2 => ¬ g = 0 ∧ (0 ≤ i ∧ i < g) ∧ v = (if z = 0 then μ 212 i else μ 211 i) ∧ μ2 = μ) r σ) : OUT3 μ σ r (fun v2 τ => (σ 216 15 < 0 ∧ τ = updS σ 216 0 1) ∨ (¬ σ 216 15 < 0 ∧ ¬ (0 ≤ i ∧ i < σ 216 15) ∧ τ = updS σ 216 0 2) ∨ (¬ σ 216 15 < 0 ∧ (0 ≤ i ∧ i < σ 216 15) ∧ v2 = (if z = 0 then σ 229 i else σ 228 i) ∧ τ = updS σ 216 0 0)) := by
  have hcp := rel_graph hG
  rcases hw with ⟨hr, c1, hσ⟩ | ⟨hr, ⟨c1, c2, hσ⟩⟩ | ⟨hr, v, μ3, hv, ⟨c1, c2, hvv, h3⟩, hσ⟩
  · have e : ∀ x, x ≠ 232 → σ x = μ x := fun x hx => by rw [hσ]
    refine ⟨1, hr, ⟨by decide, by decide⟩, fun x _ h2 => e x h2, fun v2 τ hm => ?_⟩
    dsimp only at hm
    rw [e 216 (by decide), e 229 (by decide), e 228 (by decide)] at hm
    rcases hm with ⟨d1, hτ⟩ | ⟨d1, d2, hτ⟩ | ⟨d1, d2, dv, hτ⟩
    · exact ⟨by rw [hτ, updS_self], fun z => absurd z (by decide), P, T, GG_q hG e hτ⟩
    · omega
    · omega
  · have e : ∀ x, x ≠ 232 → σ x = μ x := fun x hx => by rw [hσ]
    refine ⟨2, hr, ⟨by decide, by decide⟩, fun x _ h2 => e x h2, fun v2 τ hm => ?_⟩
    dsimp only at hm
    rw [e 216 (by decide), e 229 (by decide), e 228 (by decide)] at hm
    rcases hm with ⟨d1, hτ⟩ | ⟨d1, d2, hτ⟩ | ⟨d1, d2, dv, hτ⟩
    · omega
    · exact ⟨by rw [hτ, updS_self], fun z => absurd z (by decide), P, T, GG_q hG e hτ⟩
    · omega
  · have e : ∀ x, x ≠ 232 → σ x = μ x := fun x hx => by rw [hσ, ufn hx, h3]
    refine ⟨0, hr, ⟨by decide, by decide⟩, fun x _ h2 => e x h2, fun v2 τ hm => ?_⟩
    dsimp only at hm
    rw [e 216 (by decide), e 229 (by decide), e 228 (by decide)] at hm
    rcases hm with ⟨d1, hτ⟩ | ⟨d1, d2, hτ⟩ | ⟨d1, d2, dv, hτ⟩
    · omega
    · omega
    · refine ⟨by rw [hτ, updS_self], fun _ => ?_, P, T, GG_q hG e hτ⟩
      rw [hτ, updS_ne _ _ _ _ (by decide), hσ, updS_self, hvv]
      rw [dv]
      obtain ⟨m, hI, hnx, hah, hC, h15, h128⟩ := the_graph hG (by omega)
      obtain ⟨n9, rfl⟩ : ∃ n9 : Nat, i = n9 := ⟨i.toNat, by omega⟩
      have y := hC.2.1 n9 (by omega)
      rw [y.1, y.2]
theorem fin_stops {μ σ : St} {P T : Nat} {g : Nat} {r : Option Value} (hG : GG μ P T) (hs : μ 128 1 = g) (hw : wp1 (fun μ2 => g = 0 ∧ μ2 = μ)  (fun v μ2 => ¬ g = 0 ∧ v = cntS μ T g ∧ μ2 = μ) r σ) : OUT3 μ σ r (fun v2 τ => (σ 216 15 < 0 ∧ τ = updS σ 216 0 1) ∨ (¬ σ 216 15 < 0 ∧ v2 = cntM σ T (σ 216 15).toNat ∧ τ = updS σ 216 0 0)) := by
  have hcp := rel_graph hG
  rcases hw with ⟨hr, c1, hσ⟩ | ⟨hr, v, μ3, hv, ⟨c1, hvv, h3⟩, hσ⟩
  · have e : ∀ x, x ≠ 232 → σ x = μ x := fun x hx => by rw [hσ]
    refine ⟨1, hr, ⟨by decide, by decide⟩, fun x _ h2 => e x h2, fun v2 τ hm => ?_⟩
    dsimp only at hm
    rw [e 216 (by decide)] at hm
    rcases hm with ⟨d1, hτ⟩ | ⟨d1, dv, hτ⟩
    · exact ⟨by rw [hτ, updS_self], fun z => absurd z (by decide), P, T, GG_q hG e hτ⟩
    · omega
  · have e : ∀ x, x ≠ 232 → σ x = μ x := fun x hx => by rw [hσ, ufn hx, h3]
    refine ⟨0, hr, ⟨by decide, by decide⟩, fun x _ h2 => e x h2, fun v2 τ hm => ?_⟩
    dsimp only at hm
    rw [e 216 (by decide)] at hm
    rcases hm with ⟨d1, hτ⟩ | ⟨d1, dv, hτ⟩
    · omega
    · refine ⟨by rw [hτ, updS_self], fun _ => ?_, P, T, GG_q hG e hτ⟩
      rw [hτ, updS_ne _ _ _ _ (by decide), hσ, updS_self, hvv]
      rw [dv]
      obtain ⟨m, hI, hnx, hah, hC, h15, h128⟩ := the_graph hG (by omega)
      have hmn : m = g := by omega
      subst hmn
      rw [show (μ 216 15).toNat = m by omega, cntM_fr (e 227 (by decide)), v_stops hI.2.1 hnx hC m (Nat.le_refl _)]
theorem fin_reached {μ σ : St} {P T : Nat} {g : Nat} {r : Option Value} (hG : GG μ P T) (hs : μ 128 1 = g) (hw : wp1 (fun μ2 => g = 0 ∧ μ2 = μ)  (fun v μ2 => ¬ g = 0 ∧ v = fndS μ g 21 ∧ μ2 = μ) r σ) : OUT3 μ σ r (fun v2 τ => (σ 216 15 < 0 ∧ τ = updS σ 216 0 1) ∨ (¬ σ 216 15 < 0 ∧ τ = preS (updS σ 216 0 0) 231 P (fun q => σ 218 q) ∧ v2 = fnM (preS (updS σ 216 0 0) 231 P (fun q => σ 218 q)) P (σ 216 15).toNat)) := by
  have hcp := rel_graph hG
  rcases hw with ⟨hr, c1, hσ⟩ | ⟨hr, v, μ3, hv, ⟨c1, hvv, h3⟩, hσ⟩
  · have e : ∀ x, x ≠ 232 → σ x = μ x := fun x hx => by rw [hσ]
    refine ⟨1, hr, ⟨by decide, by decide⟩, fun x _ h2 => e x h2, fun v2 τ hm => ?_⟩
    dsimp only at hm
    rw [e 216 (by decide)] at hm
    rcases hm with ⟨d1, hτ⟩ | ⟨d1, hτ, dv⟩
    · exact ⟨by rw [hτ, updS_self], fun z => absurd z (by decide), P, T, GG_q hG e hτ⟩
    · omega
  · have e : ∀ x, x ≠ 232 → σ x = μ x := fun x hx => by rw [hσ, ufn hx, h3]
    refine ⟨0, hr, ⟨by decide, by decide⟩, fun x _ h2 => e x h2, fun v2 τ hm => ?_⟩
    dsimp only at hm
    rw [e 216 (by decide)] at hm
    rcases hm with ⟨d1, hτ⟩ | ⟨d1, hτ, dv⟩
    · omega
    · refine ⟨by rw [hτ, preS_ne _ _ _ _ (by decide), updS_self], fun _ => ?_, P, T, GG_fr hG (fun x h1 h2 h3 h4 h5 h6 => by rw [hτ, pfn h5, ufn h2, e x h6]) (fun j hj => by rw [hτ, preS_ne _ _ _ _ (by decide), updS_nk _ _ _ _ hj, e 216 (by decide)])⟩
      rw [hτ, preS_ne _ _ _ _ (by decide), updS_ne _ _ _ _ (by decide), hσ, updS_self, hvv]
      rw [dv]
      obtain ⟨m, hI, hnx, hah, hC, h15, h128⟩ := the_graph hG (by omega)
      have hmn : m = g := by omega
      subst hmn
      rw [show (μ 216 15).toNat = m by omega]
      have hg40 := hI.2.1
      have h6 := hG.1.1
      refine (fn_cpl h6 (fun i q hi hq => ?_) (fun q hq => ⟨fun hqP => ?_, fun hqP => (hG.2.1 q hq hqP).2.1⟩)).symm
      · rw [preS_ne _ _ _ _ (by decide), updS_ne _ _ _ _ (by decide), e 226 (by decide)]
        exact hC.1 i q hi hq
      · rw [preS_ap, if_pos ⟨rfl, by omega, by omega⟩]
        show σ 218 q = μ 21 q
        rw [e 218 (by decide)]
        exact hG.2.2.2.1.2.2.2.1 q hq
theorem fin_live {μ σ : St} {P T : Nat} {g : Nat} {t : Int} {r : Option Value} (hG : GG μ P T) (hs : μ 128 1 = g) (hw : wz2 (fun μ2 => g = 0 ∧ μ2 = μ) (fun μ2 => ¬ g = 0 ∧ ¬ (0 ≤ t ∧ t < T) ∧ μ2 = μ) (fun v μ2 => ¬ g = 0 ∧ (0 ≤ t ∧ t < T) ∧ v = bI (∀ i : Nat, i < g → (μ 214 i).toNat.testBit t.toNat = true) ∧ μ2 = μ) r σ) : OUT3 μ σ r (fun v2 τ => (σ 216 15 < 0 ∧ τ = updS σ 216 0 1) ∨ (¬ σ 216 15 < 0 ∧ ¬ (0 ≤ t ∧ t < T) ∧ τ = updS σ 216 0 2) ∨ (¬ σ 216 15 < 0 ∧ (0 ≤ t ∧ t < T) ∧ (∀ x j, x ≠ 230 → τ x j = updS σ 216 0 0 x j) ∧ (v2 = 0 ∨ v2 = 1) ∧ (v2 = 1 ↔ ∀ i : Nat, i < (σ 216 15).toNat → RcM σ (σ 216 15).toNat T t.toNat i))) := by
  have hcp := rel_graph hG
  rcases hw with ⟨hr, c1, hσ⟩ | ⟨hr, ⟨c1, c2, hσ⟩⟩ | ⟨hr, v, μ3, hv, ⟨c1, c2, hvv, h3⟩, hσ⟩
  · have e : ∀ x, x ≠ 232 → σ x = μ x := fun x hx => by rw [hσ]
    refine ⟨1, hr, ⟨by decide, by decide⟩, fun x _ h2 => e x h2, fun v2 τ hm => ?_⟩
    dsimp only at hm
    rw [e 216 (by decide)] at hm
    rcases hm with ⟨d1, hτ⟩ | ⟨d1, d2, hτ⟩ | ⟨d1, d2, hτ, dv, dv2⟩
    · exact ⟨by rw [hτ, updS_self], fun z => absurd z (by decide), P, T, GG_q hG e hτ⟩
    · omega
    · omega
  · have e : ∀ x, x ≠ 232 → σ x = μ x := fun x hx => by rw [hσ]
    refine ⟨2, hr, ⟨by decide, by decide⟩, fun x _ h2 => e x h2, fun v2 τ hm => ?_⟩
    dsimp only at hm
    rw [e 216 (by decide)] at hm
    rcases hm with ⟨d1, hτ⟩ | ⟨d1, d2, hτ⟩ | ⟨d1, d2, hτ, dv, dv2⟩
    · omega
    · exact ⟨by rw [hτ, updS_self], fun z => absurd z (by decide), P, T, GG_q hG e hτ⟩
    · omega
  · have e : ∀ x, x ≠ 232 → σ x = μ x := fun x hx => by rw [hσ, ufn hx, h3]
    refine ⟨0, hr, ⟨by decide, by decide⟩, fun x _ h2 => e x h2, fun v2 τ hm => ?_⟩
    dsimp only at hm
    rw [e 216 (by decide)] at hm
    rcases hm with ⟨d1, hτ⟩ | ⟨d1, d2, hτ⟩ | ⟨d1, d2, hτ, dv, dv2⟩
    · omega
    · omega
    · refine ⟨by rw [hτ _ _ (by decide), updS_self], fun _ => ?_, P, T, GG_fr hG (fun x h1 h2 h3 h4 h5 h6 => by rw [fn_of (fun j => hτ x j h4), ufn h2, e x h6]) (fun j hj => by rw [hτ _ _ (by decide), updS_nk _ _ _ _ hj, e 216 (by decide)])⟩
      rw [hτ _ _ (by decide), updS_ne _ _ _ _ (by decide), hσ, updS_self, hvv]
      obtain ⟨m, hI, hnx, hah, hC, h15, h128⟩ := the_graph hG (by omega)
      have hmn : m = g := by omega
      subst hmn
      rw [show (μ 216 15).toNat = m by omega] at dv2
      have key : (∀ i : Nat, i < m → (μ 214 i).toNat.testBit t.toNat = true) ↔ v2 = 1 := by
        rw [dv2]
        constructor
        · intro h i hi
          rw [RcM_fr (e 227 (by decide)), v_live hI.2.1 hnx hC (by omega)]
          exact (hah.2 i t.toNat hi (by omega)).mp (h i hi)
        · intro h i hi
          have h2 := h i hi
          rw [RcM_fr (e 227 (by decide)), v_live hI.2.1 hnx hC (by omega)] at h2
          exact (hah.2 i t.toNat hi (by omega)).mpr h2
      rw [bI_if]
      by_cases hall : ∀ i : Nat, i < m → (μ 214 i).toNat.testBit t.toNat = true
      · rw [bI_t hall, key.mp hall]
      · rw [bI_f hall]
        have := mt key.mpr hall
        omega

