theorem arc_GG {μ τ : St} {P T t9 a9 o w : Nat} {n : Int} (hw : (o = 4 ∧ w = 219) ∨ (o = 13 ∧ w = 220)) (hG : GG μ P T) (ha : a9 < P) (ht : t9 < T) (hn : 0 ≤ n ∧ n ≤ 4) (cl : ∀ x j, x < 216 → τ x j = updS (disS μ) (o + t9) a9 n x j) (m0 : ∀ x j, 217 ≤ x → x ≠ 232 → τ x j = if x = w ∧ j = ix t9 a9 then n else μ x j) (m1 : τ 216 1 = μ 216 1) (m2 : τ 216 2 = μ 216 2) (m7 : τ 216 7 = -1) (m15 : τ 216 15 = -1) : GG τ P T := by
  obtain ⟨hN, hZ, hTg, hM, -, -⟩ := hG
  have h6 := hN.1
  have h8 := hN.2.1
  have c0 : ∀ x j, x < 216 → x ≠ 22 → x ≠ 128 → τ x j = if x = o + t9 ∧ j = a9 then n else μ x j := by
    intro x j hx h1 h2
    rw [cl x j hx, updS_ap]
    by_cases h : x = o + t9 ∧ j = a9
    · rw [if_pos h, if_pos h]
    · rw [if_neg h, if_neg h, disS_ne _ h1 h2]
  have c9 : ∀ x j, x < 216 → x ≠ 22 → x ≠ 128 → x ≠ o + t9 → τ x j = μ x j := fun x j hx h1 h2 h3 => by rw [c0 x j hx h1 h2, if_neg (fun z => h3 z.1)]
  have row : ∀ (p9 u q : Nat), (p9 = 4 ∨ p9 = 13) → u < 8 → q < 6 → τ (p9 + u) q = n ∨ τ (p9 + u) q = μ (p9 + u) q := by
    intro p9 u q hp hu hq
    rw [c0 _ _ (by omega) (by omega) (by omega)]
    split
    · exact Or.inl rfl
    · exact Or.inr rfl
  refine GG_dis ⟨h6, h8, ?_, ?_, ?_, ?_⟩ ?_ ?_ ⟨?_, ?_, ?_, ?_, ?_⟩ ?_ m7 ?_ m15
  · rw [c9 _ _ (by omega) (by omega) (by omega) (by omega)]
    exact hN.2.2.1
  · rw [c9 _ _ (by omega) (by omega) (by omega) (by omega)]
    exact hN.2.2.2.1
  · intro q hq
    rw [c9 _ _ (by omega) (by omega) (by omega) (by omega)]
    exact hN.2.2.2.2.1 q hq
  · intro u q hu hq
    have z1 := row 4 u q (Or.inl rfl) hu hq
    have z2 := row 13 u q (Or.inr rfl) hu hq
    have z3 := hN.2.2.2.2.2 u q hu hq
    omega
  · intro q hq hP
    obtain ⟨z1, z2, z3⟩ := hZ q hq (by omega)
    refine ⟨by rw [c9 _ _ (by omega) (by omega) (by omega) (by omega)]; exact z1, by rw [c9 _ _ (by omega) (by omega) (by omega) (by omega)]; exact z2, fun u hu => ?_⟩
    rw [c0 _ _ (by omega) (by omega) (by omega), if_neg (by omega), c0 _ _ (by omega) (by omega) (by omega), if_neg (by omega)]
    exact z3 u hu
  · intro q hq
    rw [c9 _ _ (by omega) (by omega) (by omega) (by omega)]
    exact hTg q hq
  · rw [m1]
    exact hM.1
  · rw [m2]
    exact hM.2.1
  · intro q hq
    rw [m0 _ _ (by omega) (by omega), if_neg (by omega), c9 _ _ (by omega) (by omega) (by omega) (by omega)]
    exact hM.2.2.1 q hq
  · intro q hq
    rw [m0 _ _ (by omega) (by omega), if_neg (by omega), c9 _ _ (by omega) (by omega) (by omega) (by omega)]
    exact hM.2.2.2.1 q hq
  · intro u q hu hq
    obtain ⟨z1, z2⟩ := hM.2.2.2.2 u q hu hq
    have hi : ix u q = ix t9 a9 ↔ u = t9 ∧ q = a9 := by
      show 6 * (u : Int) + (q : Int) = 6 * (t9 : Int) + (a9 : Int) ↔ _
      omega
    rw [m0 219 _ (by omega) (by omega), m0 220 _ (by omega) (by omega), c0 (4 + u) _ (by omega) (by omega) (by omega), c0 (13 + u) _ (by omega) (by omega) (by omega)]
    rcases hw with ⟨w1, w2⟩ | ⟨w1, w2⟩
    · subst w1
      subst w2
      rw [if_neg (show ¬ (220 = 219 ∧ ix u q = ix t9 a9) from fun z => absurd z.1 (by decide)), if_neg (show ¬ (13 + u = 4 + t9 ∧ (q : Int) = a9) by omega)]
      refine ⟨?_, z2⟩
      by_cases e : u = t9 ∧ q = a9
      · rw [if_pos ⟨rfl, hi.mpr e⟩, if_pos (by omega)]
      · rw [if_neg (fun z => e (hi.mp z.2)), if_neg (by omega)]
        exact z1
    · subst w1
      subst w2
      rw [if_neg (show ¬ (219 = 220 ∧ ix u q = ix t9 a9) from fun z => absurd z.1 (by decide)), if_neg (show ¬ (4 + u = 13 + t9 ∧ (q : Int) = a9) by omega)]
      refine ⟨z1, ?_⟩
      by_cases e : u = t9 ∧ q = a9
      · rw [if_pos ⟨rfl, hi.mpr e⟩, if_pos (by omega)]
      · rw [if_neg (fun z => e (hi.mp z.2)), if_neg (by omega)]
        exact z2
  · rw [cl _ _ (by omega), updS_ne _ _ _ _ (by omega), disS_22]
  · rw [cl _ _ (by omega), updS_ne _ _ _ _ (by omega), disS_128]
theorem fin_arc {μ σ : St} {P T : Nat} {a t n z : Int} {r : Option Value} (hG : GG μ P T) (hw : wp2 (fun μ2 => ¬ ((0 ≤ a ∧ a < P) ∧ (0 ≤ t ∧ t < T)) ∧ μ2 = μ) (fun μ2 => ((0 ≤ a ∧ a < P) ∧ (0 ≤ t ∧ t < T)) ∧ ¬ (0 ≤ n ∧ n ≤ 4) ∧ μ2 = μ) (fun v μ2 => ((0 ≤ a ∧ a < P) ∧ (0 ≤ t ∧ t < T)) ∧ (0 ≤ n ∧ n ≤ 4) ∧ v = (if z = 0 then μ (4 + t.toNat) a else μ (13 + t.toNat) a) ∧ μ2 = (if z = 0 then updS (disS μ) (4 + t.toNat) a n else updS (disS μ) (13 + t.toNat) a n)) r σ) :
    OUT3 μ σ r (fun v2 τ => (¬ ((0 ≤ a ∧ a < P) ∧ (0 ≤ t ∧ t < T)) ∧ τ = updS σ 216 0 1) ∨ (((0 ≤ a ∧ a < P) ∧ (0 ≤ t ∧ t < T)) ∧ ¬ (0 ≤ n ∧ n ≤ 4) ∧ τ = updS σ 216 0 2) ∨ (((0 ≤ a ∧ a < P) ∧ (0 ≤ t ∧ t < T)) ∧ (0 ≤ n ∧ n ≤ 4) ∧ v2 = (if z = 0 then σ 219 (6 * t + a) else σ 220 (6 * t + a)) ∧ τ = (if z = 0 then updS (mdS (updS σ 216 0 0)) 219 (6 * t + a) n else updS (mdS (updS σ 216 0 0)) 220 (6 * t + a) n))) := by
  have h6 := hG.1.1
  have h8 := hG.1.2.1
  rcases hw with ⟨hr, c1, hσ⟩ | ⟨hr, ⟨c1, c2, hσ⟩⟩ | ⟨hr, v, μ3, hv, ⟨c1, c2, hvv, h3⟩, hσ⟩
  · refine ⟨1, hr, ⟨by decide, by decide⟩, fun x _ _ => by rw [hσ], fun v2 τ hm => ?_⟩
    rcases hm with ⟨d1, hτ⟩ | ⟨d1, d2, hτ⟩ | ⟨d1, d2, dv, hτ⟩
    · exact ⟨by rw [hτ, updS_self], fun z => absurd z (by decide), P, T, GG_q hG (fun x _ => by rw [hσ]) hτ⟩
    · exact absurd d1 c1
    · exact absurd d1 c1
  · refine ⟨2, hr, ⟨by decide, by decide⟩, fun x _ _ => by rw [hσ], fun v2 τ hm => ?_⟩
    rcases hm with ⟨d1, hτ⟩ | ⟨d1, d2, hτ⟩ | ⟨d1, d2, dv, hτ⟩
    · exact absurd c1 d1
    · exact ⟨by rw [hτ, updS_self], fun z => absurd z (by decide), P, T, GG_q hG (fun x _ => by rw [hσ]) hτ⟩
    · exact absurd d2 c2
  · obtain ⟨t9, rfl⟩ : ∃ t9 : Nat, t = t9 := ⟨t.toNat, by omega⟩
    obtain ⟨a9, rfl⟩ : ∃ a9 : Nat, a = a9 := ⟨a.toNat, by omega⟩
    rw [show ((t9 : Nat) : Int).toNat = t9 from rfl] at hvv h3
    have e : ∀ x, 216 ≤ x → x ≠ 232 → σ x = μ x := fun x h1 h2 => by
      rw [hσ, ufn h2, h3]
      split
      · rw [ufn (by omega), disfn _ (by omega) (by omega)]
      · rw [ufn (by omega), disfn _ (by omega) (by omega)]
    have hM := hG.2.2.2.1
    obtain ⟨y1, y2⟩ := hM.2.2.2.2 t9 a9 (by omega) (by omega)
    refine ⟨0, hr, ⟨by decide, by decide⟩, e, fun v2 τ hm => ?_⟩
    rcases hm with ⟨d1, hτ⟩ | ⟨d1, d2, hτ⟩ | ⟨d1, d2, dv, hτ⟩
    · exact absurd c1 d1
    · exact absurd c2 d2
    · rw [e 219 (by decide) (by decide), e 220 (by decide) (by decide)] at dv
      have dv2 : v2 = v := by
        rw [dv, hvv]
        have y1' : μ 219 (6 * (t9 : Int) + (a9 : Int)) = μ (4 + t9) a9 := y1
        have y2' : μ 220 (6 * (t9 : Int) + (a9 : Int)) = μ (13 + t9) a9 := y2
        rw [y1', y2']
      by_cases hz : z = 0
      · rw [if_pos hz] at hτ h3
        refine ⟨by rw [hτ, updS_ne _ _ _ _ (by decide), mdS_nk _ (by decide) (by decide), updS_self], fun _ => ?_, P, T, arc_GG (o := 4) (w := 219) (t9 := t9) (a9 := a9) (n := n) (Or.inl ⟨rfl, rfl⟩) hG (by omega) (by omega) c2 (fun x j hx => ?_) (fun x j h1 h2 => ?_) ?_ ?_ ?_ ?_⟩
        · rw [hτ, updS_ne _ _ _ _ (by decide), mdS_ne _ (by decide), updS_ne _ _ _ _ (by decide), hσ, updS_self, dv2]
        · rw [hτ, updS_ne _ _ _ _ (by omega), mdS_ne _ (by omega), updS_ne _ _ _ _ (by omega), hσ, updS_ne _ _ _ _ (by omega), h3]
        · rw [hτ, updS_ap]
          by_cases h : x = 219 ∧ j = 6 * (t9 : Int) + (a9 : Int)
          · rw [if_pos h, if_pos h]
          · rw [if_neg h, if_neg h, mdS_ne _ (by omega), updS_ne _ _ _ _ (by omega), e x (by omega) h2]
        · rw [hτ, updS_ne _ _ _ _ (by decide), mdS_nk _ (by decide) (by decide), updS_nk _ _ _ _ (by decide), e 216 (by decide) (by decide)]
        · rw [hτ, updS_ne _ _ _ _ (by decide), mdS_nk _ (by decide) (by decide), updS_nk _ _ _ _ (by decide), e 216 (by decide) (by decide)]
        · rw [hτ, updS_ne _ _ _ _ (by decide), mdS_7]
        · rw [hτ, updS_ne _ _ _ _ (by decide), mdS_15]
      · rw [if_neg hz] at hτ h3
        refine ⟨by rw [hτ, updS_ne _ _ _ _ (by decide), mdS_nk _ (by decide) (by decide), updS_self], fun _ => ?_, P, T, arc_GG (o := 13) (w := 220) (t9 := t9) (a9 := a9) (n := n) (Or.inr ⟨rfl, rfl⟩) hG (by omega) (by omega) c2 (fun x j hx => ?_) (fun x j h1 h2 => ?_) ?_ ?_ ?_ ?_⟩
        · rw [hτ, updS_ne _ _ _ _ (by decide), mdS_ne _ (by decide), updS_ne _ _ _ _ (by decide), hσ, updS_self, dv2]
        · rw [hτ, updS_ne _ _ _ _ (by omega), mdS_ne _ (by omega), updS_ne _ _ _ _ (by omega), hσ, updS_ne _ _ _ _ (by omega), h3]
        · rw [hτ, updS_ap]
          by_cases h : x = 220 ∧ j = 6 * (t9 : Int) + (a9 : Int)
          · rw [if_pos h, if_pos h]
          · rw [if_neg h, if_neg h, mdS_ne _ (by omega), updS_ne _ _ _ _ (by omega), e x (by omega) h2]
        · rw [hτ, updS_ne _ _ _ _ (by decide), mdS_nk _ (by decide) (by decide), updS_nk _ _ _ _ (by decide), e 216 (by decide) (by decide)]
        · rw [hτ, updS_ne _ _ _ _ (by decide), mdS_nk _ (by decide) (by decide), updS_nk _ _ _ _ (by decide), e 216 (by decide) (by decide)]
        · rw [hτ, updS_ne _ _ _ _ (by decide), mdS_7]
        · rw [hτ, updS_ne _ _ _ _ (by decide), mdS_15]
theorem fin_explore {μ σ : St} {P T : Nat} {r : Option Value} (hG : GG μ P T) (hw : wp1 (fun μ2 => ∃ (σ : St) (n : Nat), runT 900 (rootS (disS μ)) 1 0 0 = (σ, n, 2) ∧ NI σ P T ∧ μ2 = updS σ 22 1 0 ∧ exfr (disS μ) σ) (fun v μ2 => ∃ n : Nat, runT 900 (rootS (disS μ)) 1 0 0 = (μ2, n, 1) ∧ NI μ2 P T ∧ TI μ2 T n ∧ v = n ∧ exfr (disS μ) μ2) r σ) :
    NI (disS μ) P T ∧ MN (disS μ) σ P T ∧ NZ (disS μ) P ∧ ∃ (σf : St) (nf k9 : Nat), (k9 = 1 ∨ k9 = 2) ∧ runT 900 (rootS (disS μ)) 1 0 0 = (σf, nf, k9) ∧ OUT3 μ σ r (exQ σ σf P nf k9) := by
  obtain ⟨hN, hZ, hTg, hM, -, -⟩ := hG
  have dn : ∀ x k, x < 22 → disS μ x k = μ x k := fun x k hx => disS_ne _ (by omega) (by omega) k
  have hN1 : NI (disS μ) P T := NI_ne hN dn
  have hZ1 : NZ (disS μ) P := NZ_ne hZ dn
  have FIN : ∀ (ρ τ : St) (n : Nat), NI ρ P T → exfr (disS μ) ρ → (∀ x, x < 216 → τ x = ρ x) → (∀ x, 217 ≤ x → x ≤ 220 → τ x = μ x) → τ 216 1 = μ 216 1 → τ 216 2 = μ 216 2 → τ 216 15 = -1 → TREE τ P T → GG τ P T := by
    intro ρ τ n h1 h2 h3 h4 h5 h6 h7 h8
    have e0 : ∀ x k, x < 22 → τ x k = μ x k := fun x k hx => by rw [h3 x (by omega), h2 x k (by omega) (by omega), dn x k hx]
    refine ⟨NI_ne hN e0, NZ_ne hZ e0, fun q hq => by rw [e0 _ _ (by decide)]; exact hTg q hq, MN_ne hM e0 (fun x j a b => by rw [h4 x a b]) h5 h6, h8, Or.inl ⟨?_, h7⟩⟩
    rw [h3 128 (by decide), h2 128 1 (by decide) (by decide), disS_128]
  rcases hw with ⟨hr, σ1, n, hrun, hN2, h3, hfr⟩ | ⟨hr, v, μ3, hv, ⟨n, hrun, hN2, hT2, hvv, hfr⟩, hσ⟩
  · have e : ∀ x, 216 ≤ x → x ≠ 232 → σ x = μ x := fun x h1 h2 => by rw [h3, ufn (by omega)]; exact funext (fun j => by rw [hfr x j (by omega) (by omega), disS_ne _ (by omega) (by omega)])
    refine ⟨hN1, MN_ne hM dn (fun x j a b => by rw [e x (by omega) (by omega)]) (by rw [e 216 (by decide) (by decide)]) (by rw [e 216 (by decide) (by decide)]), hZ1, σ1, n, 2, Or.inr rfl, hrun, 1, hr, ⟨by decide, by decide⟩, e, fun v2 τ hm => ?_⟩
    obtain ⟨hf, h15, hcs⟩ := hm
    rcases hcs with ⟨y, -⟩ | ⟨-, y0, y7⟩
    · exact absurd y (by decide)
    · have t0 : ∀ x, x < 216 → x ≠ 22 → τ x = σ1 x := fun x hx h22 => by rw [fn_of (fun j => hf x j (Or.inl hx)), h3, ufn h22]
      have t22 : ∀ j, j ≠ 1 → τ 22 j = σ1 22 j := fun j hj => by rw [hf 22 j (Or.inl (by decide)), h3, updS_nk _ _ _ _ hj]
      refine ⟨y0, fun z => absurd z (by decide), P, T, ?_⟩
      have e0 : ∀ x k, x < 22 → τ x k = μ x k := fun x k hx => by rw [t0 x (by omega) (by omega), hfr x k (by omega) (by omega), dn x k hx]
      refine ⟨NI_ne hN e0, NZ_ne hZ e0, fun q hq => by rw [e0 _ _ (by decide)]; exact hTg q hq, MN_ne hM e0 (fun x j a b => by rw [hf x j (by unfold kpM; omega), e x (by omega) (by omega)]) (by rw [hf _ _ (by unfold kpM; omega), e 216 (by decide) (by decide)]) (by rw [hf _ _ (by unfold kpM; omega), e 216 (by decide) (by decide)]), Or.inl ⟨?_, y7⟩, Or.inl ⟨?_, h15⟩⟩
      · rw [hf 22 1 (Or.inl (by decide)), h3, updS_self]
      · rw [t0 128 (by decide) (by decide), hfr 128 1 (by decide) (by decide), disS_128]
  · have e : ∀ x, 216 ≤ x → x ≠ 232 → σ x = μ x := fun x h1 h2 => by rw [hσ, ufn h2]; exact funext (fun j => by rw [hfr x j (by omega) (by omega), disS_ne _ (by omega) (by omega)])
    refine ⟨hN1, MN_ne hM dn (fun x j a b => by rw [e x (by omega) (by omega)]) (by rw [e 216 (by decide) (by decide)]) (by rw [e 216 (by decide) (by decide)]), hZ1, μ3, n, 1, Or.inl rfl, hrun, 0, hr, ⟨by decide, by decide⟩, e, fun v2 τ hm => ?_⟩
    obtain ⟨hf, h15, hcs⟩ := hm
    rcases hcs with ⟨-, yv, y0, y7, yM⟩ | ⟨y, -⟩
    · have t0 : ∀ x, x < 216 → τ x = μ3 x := fun x hx => by rw [fn_of (fun j => hf x j (Or.inl hx)), hσ, ufn (by omega)]
      refine ⟨y0, fun _ => ?_, P, T, FIN μ3 τ n hN2 hfr t0 (fun x a b => by rw [fn_of (fun j => hf x j (by unfold kpM; omega)), e x (by omega) (by omega)]) (by rw [hf _ _ (by unfold kpM; omega), e 216 (by decide) (by decide)]) (by rw [hf _ _ (by unfold kpM; omega), e 216 (by decide) (by decide)]) h15 (Or.inr ⟨n, TI_fr hT2 (fun x a b => t0 x (by omega)), MT_fr hT2.2.1 yM (fun x a b => t0 x (by omega)) (fun _ _ _ _ => rfl) rfl rfl, y7⟩)⟩
      rw [hf 232 0 (by unfold kpM; omega), hσ, updS_self, hvv, yv]
    · exact absurd y (by decide)
theorem fin_graph {μ σ : St} {P T n : Nat} {r : Option Value} (hG : GG μ P T) (hs : μ 22 1 = n) (hw : wp2 (fun μ2 => (n = 0 ∨ ¬ μ 22 2 = -2) ∧ μ2 = μ) (fun μ2 => ¬ n = 0 ∧ μ 22 2 = -2 ∧ ∃ (σ : St) (g : Nat), bldS 40 (b0S μ) 1 0 T = (σ, g, false) ∧ NI σ P T ∧ (∀ x j, ¬ inG x → σ x j = μ x j) ∧ μ2 = updS σ 128 1 0) (fun v μ2 => ¬ n = 0 ∧ μ 22 2 = -2 ∧ ∃ (σ : St) (g : Nat), bldS 40 (b0S μ) 1 0 T = (σ, g, true) ∧ NI σ P T ∧ (∀ x j, ¬ inG x → σ x j = μ x j) ∧ GI σ T g ∧ (∀ k : Nat, k < g → nxP σ g k T) ∧ (∀ x k, x ≠ 214 → μ2 x k = σ x k) ∧ ahS σ g T μ2 ∧ v = g) r σ) :
    NI μ P T ∧ MN μ σ P T ∧ NZ μ P ∧ ((n = 0 ∨ ¬ μ 22 2 = -2) ↔ (σ 216 7 < 0 ∨ ∃ q : Nat, q < P ∧ gmax (fun i => σ 221 (ix i q)) (σ 216 7).toNat = 1000000000)) ∧ ∃ (σf : St) (gf : Nat) (okf : Bool), (¬ (n = 0 ∨ ¬ μ 22 2 = -2) → bldS 40 (b0S μ) 1 0 T = (σf, gf, okf)) ∧
      OUT3 μ σ r (fun v2 τ => ((n = 0 ∨ ¬ μ 22 2 = -2) ∧ τ = updS σ 216 0 1) ∨ (¬ (n = 0 ∨ ¬ μ 22 2 = -2) ∧ grQ σ σf P T gf okf v2 τ)) := by
  have hcp := rel_tree hG
  have hbad0 : (n = 0 ∨ ¬ μ 22 2 = -2) ↔ (μ 216 7 < 0 ∨ ∃ q : Nat, q < P ∧ gmax (fun i => μ 221 (ix i q)) (μ 216 7).toNat = 1000000000) := by
    by_cases h0 : n = 0
    · exact ⟨fun _ => Or.inl (by omega), fun _ => Or.inl h0⟩
    · obtain ⟨m, hT, hM, h7, h22⟩ := the_tree hG (by omega)
      have hmn : m = n := by omega
      subst hmn
      rw [h7, show ((m : Nat) : Int).toNat = m from rfl, v_endless hT hM hG.1.1]
      constructor
      · rintro (z | z)
        · exact absurd z h0
        · exact Or.inr z
      · rintro (z | z)
        · omega
        · exact Or.inr z
  have hG0 := hG
  obtain ⟨hN, hZ, hTg, hM, hTr, hGr⟩ := hG
  have FIN : ∀ (τ : St), (∀ x, x < 128 → τ x = μ x) → (∀ x, 217 ≤ x → x ≤ 225 → τ x = μ x) → (∀ j, j ≠ 0 → j ≠ 15 → τ 216 j = μ 216 j) → GRAPH τ P T → GG τ P T := by
    intro τ h1 h2 h3 h4
    have e0 : ∀ x k, x < 22 → τ x k = μ x k := fun x k hx => by rw [h1 x (by omega)]
    exact ⟨NI_ne hN e0, NZ_ne hZ e0, fun q hq => by rw [e0 _ _ (by decide)]; exact hTg q hq, MN_ne hM e0 (fun x j a b => by rw [h2 x a (by omega)]) (h3 _ (by decide) (by decide)) (h3 _ (by decide) (by decide)), TREE_fr hTr (fun x a b => h1 x b) (fun x a b c => h2 x (by omega) b) (h3 _ (by decide) (by decide)) (h3 _ (by decide) (by decide)) (h3 _ (by decide) (by decide)), h4⟩
  rcases hw with ⟨hr, c1, hσ⟩ | ⟨hr, c1, c2, σ1, g, hrun, hN2, hfr, h3⟩ | ⟨hr, v, μ3, hv, ⟨c1, c2, σ1, g, hrun, hN2, hfr, hI, hnx, h214, hah, hvv⟩, hσ⟩
  · refine ⟨hN, by rw [hσ]; exact hM, hZ, by rw [hσ]; exact hbad0, μ, 0, true, fun z => absurd c1 z, 1, hr, ⟨by decide, by decide⟩, fun x _ _ => by rw [hσ], fun v2 τ hm => ?_⟩
    rcases hm with ⟨d1, hτ⟩ | ⟨d1, -⟩
    · exact ⟨by rw [hτ, updS_self], fun z => absurd z (by decide), P, T, GG_q hG0 (fun x _ => by rw [hσ]) hτ⟩
    · exact absurd c1 d1
  · have hnb : ¬ (n = 0 ∨ ¬ μ 22 2 = -2) := fun z => by rcases z with y | y; exact c1 y; exact y c2
    have e : ∀ x, 216 ≤ x → σ x = μ x := fun x h1 => by rw [h3, ufn (by omega)]; exact funext (fun j => hfr x j (by unfold inG; omega))
    refine ⟨hN, MN_ne hM (fun _ _ _ => rfl) (fun x j a b => by rw [e x (by omega)]) (by rw [e 216 (by decide)]) (by rw [e 216 (by decide)]), hZ, by rw [e 216 (by decide), e 221 (by decide)]; exact hbad0, σ1, g, false, fun _ => hrun, 2, hr, ⟨by decide, by decide⟩, fun x h1 _ => e x h1, fun v2 τ hm => ?_⟩
    rcases hm with ⟨d1, -⟩ | ⟨d1, hf, hcs⟩
    · exact absurd d1 hnb
    · rcases hcs with ⟨y, -⟩ | ⟨-, y0, y15⟩
      · cases y
      · refine ⟨y0, fun z => absurd z (by decide), P, T, FIN τ (fun x hx => funext (fun j => ?_)) (fun x a b => funext (fun j => ?_)) (fun j j0 j1 => ?_) (Or.inl ⟨?_, y15⟩)⟩
        · rw [hf x j (by unfold scG; omega), h3, updS_ne _ _ _ _ (by omega), hfr x j (by unfold inG; omega)]
        · rw [hf x j (by unfold scG; omega), e x (by omega)]
        · rw [hf 216 j (by unfold scG; omega), e 216 (by decide)]
        · rw [hf 128 1 (by unfold scG; omega), h3, updS_self]
  · have hnb : ¬ (n = 0 ∨ ¬ μ 22 2 = -2) := fun z => by rcases z with y | y; exact c1 y; exact y c2
    have e : ∀ x, 216 ≤ x → x ≠ 232 → σ x = μ x := fun x h1 h2 => by rw [hσ, ufn h2]; exact funext (fun j => by rw [h214 x j (by omega), hfr x j (by unfold inG; omega)])
    refine ⟨hN, MN_ne hM (fun _ _ _ => rfl) (fun x j a b => by rw [e x (by omega) (by omega)]) (by rw [e 216 (by decide) (by decide)]) (by rw [e 216 (by decide) (by decide)]), hZ, by rw [e 216 (by decide) (by decide), e 221 (by decide) (by decide)]; exact hbad0, σ1, g, true, fun _ => hrun, 0, hr, ⟨by decide, by decide⟩, e, fun v2 τ hm => ?_⟩
    rcases hm with ⟨d1, -⟩ | ⟨d1, hf, hcs⟩
    · exact absurd d1 hnb
    · rcases hcs with ⟨-, yv, y0, y15, yC⟩ | ⟨y, -⟩
      · have t0 : ∀ x, x < 216 → τ x = μ3 x := fun x hx => by rw [fn_of (fun j => hf x j (by unfold scG; omega)), hσ, ufn (by omega)]
        have t1 : ∀ x, 128 ≤ x → x < 214 → τ x = σ1 x := fun x a b => by rw [t0 x (by omega)]; exact funext (fun j => h214 x j (by omega))
        have hg40 := hI.2.1
        refine ⟨y0, fun _ => ?_, P, T, FIN τ (fun x hx => funext (fun j => ?_)) (fun x a b => funext (fun j => ?_)) (fun j j0 j1 => ?_) (Or.inr ⟨g, GI_fr hI t1, fun k hk => nxP_ne (hnx k hk) (fun j => by rw [t1 _ (by omega) (by omega)]), ahS_fr hah hg40 (fun x a b => t1 x (by omega) (by omega)) (t0 214 (by decide)), GC_fr yC hg40 t1 (fun _ _ _ => rfl), y15⟩)⟩
        · rw [hf 232 0 (by unfold scG; omega), hσ, updS_self, hvv, yv]
        · rw [t0 x (by omega), h214 x j (by omega), hfr x j (by unfold inG; omega)]
        · rw [hf x j (by unfold scG; omega), e x (by omega) (by omega)]
        · rw [hf 216 j (by unfold scG; omega), e 216 (by decide) (by decide)]
      · cases y

