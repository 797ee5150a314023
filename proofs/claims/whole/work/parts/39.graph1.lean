theorem fiX0_follow_X0 : ∀ w ∈ u_ws RX0 TX0 9, w ∈ wsX0_follow := by decide +kernel
theorem fiX0_follow_X1 : ∀ w ∈ u_ws RX1 TX1 5, w ∈ wsX0_follow := by decide +kernel
theorem flX0_follow_35 : Cond.fieldLink RX0 35 RX0 (TX0 0).2.1 (TX0 0).2.2.1 ∈ wsX0_follow := by decide +kernel
theorem flX0_follow_48 : Cond.fieldLink RX0 48 RX0 (TX0 1).2.1 (TX0 1).2.2.1 ∈ wsX0_follow := by decide +kernel
theorem flX0_follow_11 : Cond.fieldLink RX0 11 RX0 (TX0 2).2.1 (TX0 2).2.2.1 ∈ wsX0_follow := by decide +kernel
theorem flX0_follow_16 : Cond.fieldLink RX0 16 RX0 (TX0 3).2.1 (TX0 3).2.2.1 ∈ wsX0_follow := by decide +kernel
theorem flX0_follow_26 : Cond.fieldLink RX0 26 RX0 (TX0 6).2.1 (TX0 6).2.2.1 ∈ wsX0_follow := by decide +kernel
theorem flX0_follow_32 : Cond.fieldLink RX0 32 RX0 (TX0 8).2.1 (TX0 8).2.2.1 ∈ wsX0_follow := by decide +kernel
def trA (μ : St) (k t : Nat) : St := updS μ (171 + k) t (-2)
def trB (μ : St) (k t : Nat) : St := preS (trA μ k t) 215 6 (fireV (trA μ k t) (130 + k) t)
def tr1 (μ : St) (g k t : Nat) : St × Nat × Bool :=
  if enP (trA μ k t) (130 + k) t then
    (if fndS (trB μ k t) g 215 = -2 then (if g = 40 then (trB μ k t, g, false) else (updS (asS (trB μ k t) g k t (μ 213 k + 1)) (171 + k) t g, g + 1, true))
     else (updS (trB μ k t) (171 + k) t (fndS (trB μ k t) g 215), g, true))
  else (trA μ k t, g, true)
def folS : Nat → St → Nat → Nat → Nat → St × Nat × Bool
  | 0, μ, g, _, _ => (μ, g, true)
  | n + 1, μ, g, k, t => if (tr1 μ g k t).2.2 = true then folS n (tr1 μ g k t).1 (tr1 μ g k t).2.1 k (t + 1) else tr1 μ g k t
theorem folS_succ (n : Nat) (μ : St) (g k t : Nat) : folS (n + 1) μ g k t = if (tr1 μ g k t).2.2 = true then folS n (tr1 μ g k t).1 (tr1 μ g k t).2.1 k (t + 1) else tr1 μ g k t := rfl
def frP (μ : St) (T i : Nat) : Prop := ∃ j d b : Nat, j < i ∧ μ 211 i = j ∧ b < T ∧ μ 212 i = b ∧ μ 213 j = d ∧ μ 213 i = ((d + 1 : Nat) : Int) ∧ d < i
def GI (μ : St) (T g : Nat) : Prop := 1 ≤ g ∧ g ≤ 40 ∧ μ 128 1 = g ∧ (∀ i q : Nat, i < g → q < 6 → 0 ≤ μ (130 + i) q ∧ μ (130 + i) q ≤ 9 + 4 * i) ∧ μ 211 0 = -2 ∧ μ 212 0 = -2 ∧ μ 213 0 = 0 ∧ ∀ i : Nat, 0 < i → i < g → frP μ T i
def lkP (μ : St) (g T k t : Nat) : Prop := (∀ i : Nat, i < k → nxP μ g i T) ∧ nxP μ g k t
/- the graph's own places -/
def inG (x : Nat) : Prop := 128 ≤ x ∧ x < 216
theorem GI_d {μ : St} {T g : Nat} (h : GI μ T g) {i : Nat} (hi : i < g) : ∃ d : Nat, μ 213 i = d ∧ d ≤ i := by
  by_cases h0 : i = 0
  · subst h0
    exact ⟨0, h.2.2.2.2.2.2.1, Nat.le_refl _⟩
  · obtain ⟨j, d, b, h1, h2, h3, h4, h5, h6, h7⟩ := h.2.2.2.2.2.2.2 i (by omega) hi
    exact ⟨d + 1, h6, by omega⟩
theorem trA_ne (μ : St) {k : Nat} (t : Nat) {x : Nat} (h : x ≠ 171 + k) (j : Int) : trA μ k t x j = μ x j := updS_ne _ _ _ _ h
theorem trB_ne (μ : St) {k : Nat} (t : Nat) {x : Nat} (h : x ≠ 171 + k) (h2 : x ≠ 215) (j : Int) : trB μ k t x j = μ x j := by
  unfold trB
  rw [preS_ne _ _ _ _ h2, trA_ne _ _ h]
theorem trA_row (μ : St) (k t : Nat) (j : Int) : trA μ k t (171 + k) j = if j = t then -2 else μ (171 + k) j := by
  unfold trA
  rw [updS_ap]
  by_cases h : j = t
  · rw [if_pos ⟨rfl, h⟩, if_pos h]
  · rw [if_neg (fun z => h z.2), if_neg h]
theorem trB_row (μ : St) {k : Nat} (hk : k < 40) (t : Nat) (j : Int) : trB μ k t (171 + k) j = if j = t then -2 else μ (171 + k) j := by
  unfold trB
  rw [preS_ne _ _ _ _ (by omega), trA_row]
theorem asS_ne (μ : St) {g : Nat} (f b d : Int) {x : Nat} (h1 : x ≠ 128) (h2 : x ≠ 130 + g) (h3 : x ≠ 211) (h4 : x ≠ 212) (h5 : x ≠ 213) (j : Int) : asS μ g f b d x j = μ x j := by
  unfold asS
  rw [updS_ne _ _ _ _ h1, updS_ne _ _ _ _ h5, updS_ne _ _ _ _ h4, updS_ne _ _ _ _ h3, cpS_ap, if_neg (fun z => h2 z.1)]
theorem asS_211 (μ : St) {g : Nat} (hg : g < 40) (f b d j : Int) : asS μ g f b d 211 j = if j = g then f else μ 211 j := by
  unfold asS
  rw [updS_ne _ _ _ _ (by omega), updS_ne _ _ _ _ (by omega), updS_ne _ _ _ _ (by omega), updS_ap]
  by_cases h : j = g
  · rw [if_pos ⟨rfl, h⟩, if_pos h]
  · rw [if_neg (fun z => h z.2), if_neg h, cpS_ap, if_neg (by omega)]
theorem asS_212 (μ : St) {g : Nat} (hg : g < 40) (f b d j : Int) : asS μ g f b d 212 j = if j = g then b else μ 212 j := by
  unfold asS
  rw [updS_ne _ _ _ _ (by omega), updS_ne _ _ _ _ (by omega), updS_ap]
  by_cases h : j = g
  · rw [if_pos ⟨rfl, h⟩, if_pos h]
  · rw [if_neg (fun z => h z.2), if_neg h, updS_ne _ _ _ _ (by omega), cpS_ap, if_neg (by omega)]
theorem asS_213 (μ : St) {g : Nat} (hg : g < 40) (f b d j : Int) : asS μ g f b d 213 j = if j = g then d else μ 213 j := by
  unfold asS
  rw [updS_ne _ _ _ _ (by omega), updS_ap]
  by_cases h : j = g
  · rw [if_pos ⟨rfl, h⟩, if_pos h]
  · rw [if_neg (fun z => h z.2), if_neg h, updS_ne _ _ _ _ (by omega), updS_ne _ _ _ _ (by omega), cpS_ap, if_neg (by omega)]
theorem asS_128 (μ : St) {g : Nat} (hg : g < 40) (f b d : Int) : asS μ g f b d 128 1 = ((g + 1 : Nat) : Int) := by
  unfold asS
  rw [updS_self]
  omega
theorem asS_row (μ : St) {g : Nat} (hg : g < 40) (f b d : Int) {q : Nat} (hq : q < 6) : asS μ g f b d (130 + g) q = μ 215 q := by
  unfold asS
  rw [updS_ne _ _ _ _ (by omega), updS_ne _ _ _ _ (by omega), updS_ne _ _ _ _ (by omega), updS_ne _ _ _ _ (by omega), cpS_ap, if_pos ⟨rfl, by omega, by omega⟩]
theorem tr_fire {μ : St} {P T g k t : Nat} (hN : NI μ P T) (hG : GI μ T g) (hk : k < g) (ht : t < T) (he : enP (trA μ k t) (130 + k) t) : ∀ q : Nat, q < 6 → 0 ≤ fireV (trA μ k t) (130 + k) t q ∧ fireV (trA μ k t) (130 + k) t q ≤ 9 + 4 * (k + 1) := by
  intro q hq
  have hg := hG.2.1
  have h8 := hN.2.1
  have h1 := hG.2.2.2.1 k q hk hq
  have h2 := hN.2.2.2.2.2 t q (by omega) hq
  have h3 := he q hq
  rw [trA_ne _ _ (by omega), trA_ne _ _ (by omega)] at h3
  unfold fireV
  rw [trA_ne _ _ (by omega), trA_ne _ _ (by omega), trA_ne _ _ (by omega), if_neg (by omega)]
  omega
theorem nxP_mono {μ : St} {g g2 k T : Nat} (h : nxP μ g k T) (hg : g ≤ g2) : nxP μ g2 k T := by
  intro t ht
  rcases h t ht with z | ⟨j, hj, z⟩
  · exact Or.inl z
  · exact Or.inr ⟨j, by omega, z⟩
theorem nxP_ne {μ σ : St} {g k T : Nat} (h : nxP μ g k T) (e1 : ∀ j : Int, σ (171 + k) j = μ (171 + k) j) : nxP σ g k T := by
  intro t ht
  rw [e1]
  exact h t ht
theorem GI_ne {μ σ : St} {T g : Nat} (h : GI μ T g) (e0 : σ 128 1 = μ 128 1) (e1 : ∀ i q : Nat, i < g → σ (130 + i) q = μ (130 + i) q) (e2 : ∀ x : Nat, 211 ≤ x → x ≤ 213 → ∀ i : Nat, i < g → σ x i = μ x i) : GI σ T g := by
  obtain ⟨h1, h2, h3, h4, h5, h6, h7, h8⟩ := h
  have z : ∀ x : Nat, 211 ≤ x → x ≤ 213 → σ x 0 = μ x 0 := fun x a b => e2 x a b 0 (by omega)
  refine ⟨h1, h2, by rw [e0]; exact h3, fun i q hi hq => by rw [e1 i q hi]; exact h4 i q hi hq, by rw [z 211 (by omega) (by omega)]; exact h5, by rw [z 212 (by omega) (by omega)]; exact h6, by rw [z 213 (by omega) (by omega)]; exact h7, fun i h0 hi => ?_⟩
  obtain ⟨j, d, b, k1, k2, k3, k4, k5, k6, k7⟩ := h8 i h0 hi
  exact ⟨j, d, b, k1, by rw [e2 211 (by omega) (by omega) i hi]; exact k2, k3, by rw [e2 212 (by omega) (by omega) i hi]; exact k4, by rw [e2 213 (by omega) (by omega) j (by omega)]; exact k5, by rw [e2 213 (by omega) (by omega) i hi]; exact k6, k7⟩
theorem lk_set {μ σ : St} {g g2 T k t : Nat} (hk : k < 40) (h : lkP μ g T k t) (hg : g ≤ g2) (e1 : ∀ i : Nat, i < k → ∀ j : Int, σ (171 + i) j = μ (171 + i) j) (e2 : ∀ j : Nat, j ≠ t → σ (171 + k) j = μ (171 + k) j) (e3 : σ (171 + k) t = -2 ∨ ∃ j : Nat, j < g2 ∧ σ (171 + k) t = j) : lkP σ g2 T k (t + 1) := by
  refine ⟨fun i hi => nxP_ne (nxP_mono (h.1 i hi) hg) (e1 i hi), fun u hu => ?_⟩
  by_cases h0 : u = t
  · subst h0; exact e3
  · rw [e2 u h0]
    rcases h.2 u (by omega) with z | ⟨j, hj, z⟩
    · exact Or.inl z
    · exact Or.inr ⟨j, by omega, z⟩
/- what one transition of one state does -/
theorem tr1_ok {μ : St} {P T g k t : Nat} (hN : NI μ P T) (hG : GI μ T g) (hk : k < g) (ht : t < T) (hL : lkP μ g T k t) (hok : (tr1 μ g k t).2.2 = true) :
    NI (tr1 μ g k t).1 P T ∧ GI (tr1 μ g k t).1 T (tr1 μ g k t).2.1 ∧ g ≤ (tr1 μ g k t).2.1 ∧ lkP (tr1 μ g k t).1 (tr1 μ g k t).2.1 T k (t + 1) := by
  have hg := hG.2.1
  unfold tr1 at hok ⊢
  by_cases he : enP (trA μ k t) (130 + k) t
  · rw [if_pos he] at hok ⊢
    have hfr := tr_fire hN hG hk ht he
    have hGB : GI (trB μ k t) T g := GI_ne hG (trB_ne _ _ (by omega) (by omega) _) (fun i q hi => trB_ne _ _ (by omega) (by omega) _) (fun x h1 h2 i hi => trB_ne _ _ (by omega) (by omega) _)
    have hNB : NI (trB μ k t) P T := NI_ne hN (fun x j hx => trB_ne _ _ (by omega) (by omega) _)
    by_cases hf : fndS (trB μ k t) g 215 = -2
    · rw [if_pos hf] at hok ⊢
      by_cases h40 : g = 40
      · rw [if_pos h40] at hok
        cases hok
      · rw [if_neg h40] at hok ⊢
        have hg2 : g < 40 := by omega
        obtain ⟨d, hd1, hd2⟩ := GI_d hG hk
        refine ⟨?_, ?_, by show g ≤ g + 1; omega, ?_⟩
        · refine NI_ne hNB (fun x j hx => ?_)
          show updS _ _ _ _ x j = _
          rw [updS_ne _ _ _ _ (by omega), asS_ne _ _ _ _ (by omega) (by omega) (by omega) (by omega) (by omega)]
        · obtain ⟨h1, h2, h3, h4, h5, h6, h7, h8⟩ := hGB
          show GI (updS (asS (trB μ k t) g k t (μ 213 k + 1)) (171 + k) t g) T (g + 1)
          refine ⟨by omega, by omega, ?_, ?_, ?_, ?_, ?_, ?_⟩
          · rw [updS_ne _ _ _ _ (by omega), asS_128 _ hg2]
          · intro i q hi hq
            rw [updS_ne _ _ _ _ (by omega)]
            by_cases e1 : i = g
            · subst e1
              rw [asS_row _ hg2 _ _ _ hq]
              have := hfr q hq
              unfold trB
              rw [preS_ap, if_pos ⟨rfl, by omega, by omega⟩]
              omega
            · rw [asS_ne _ _ _ _ (by omega) (by omega) (by omega) (by omega) (by omega)]
              exact h4 i q (by omega) hq
          · rw [updS_ne _ _ _ _ (by omega), asS_211 _ hg2, if_neg (by omega)]; exact h5
          · rw [updS_ne _ _ _ _ (by omega), asS_212 _ hg2, if_neg (by omega)]; exact h6
          · rw [updS_ne _ _ _ _ (by omega), asS_213 _ hg2, if_neg (by omega)]; exact h7
          · intro i h0 hi
            by_cases e1 : i = g
            · subst e1
              refine ⟨k, d, t, hk, ?_, ht, ?_, ?_, ?_, by omega⟩
              · rw [updS_ne _ _ _ _ (by omega), asS_211 _ hg2, if_pos rfl]
              · rw [updS_ne _ _ _ _ (by omega), asS_212 _ hg2, if_pos rfl]
              · rw [updS_ne _ _ _ _ (by omega), asS_213 _ hg2, if_neg (by omega), trB_ne _ _ (by omega) (by omega), hd1]
              · rw [updS_ne _ _ _ _ (by omega), asS_213 _ hg2, if_pos rfl, hd1]
                omega
            · obtain ⟨j, d, b, k1, k2, k3, k4, k5, k6, k7⟩ := h8 i h0 (by omega)
              refine ⟨j, d, b, k1, ?_, k3, ?_, ?_, ?_, k7⟩
              · rw [updS_ne _ _ _ _ (by omega), asS_211 _ hg2, if_neg (by omega)]; exact k2
              · rw [updS_ne _ _ _ _ (by omega), asS_212 _ hg2, if_neg (by omega)]; exact k4
              · rw [updS_ne _ _ _ _ (by omega), asS_213 _ hg2, if_neg (by omega)]; exact k5
              · rw [updS_ne _ _ _ _ (by omega), asS_213 _ hg2, if_neg (by omega)]; exact k6
        · refine lk_set (by omega) hL (by show g ≤ g + 1; omega) (fun i hi j => ?_) (fun j hj => ?_) (Or.inr ⟨g, by show g < g + 1; omega, ?_⟩)
          · show updS _ _ _ _ _ j = _
            rw [updS_ne _ _ _ _ (by omega), asS_ne _ _ _ _ (by omega) (by omega) (by omega) (by omega) (by omega), trB_ne _ _ (by omega) (by omega)]
          · show updS _ _ _ _ _ _ = _
            rw [updS_nk _ _ _ _ (by omega), asS_ne _ _ _ _ (by omega) (by omega) (by omega) (by omega) (by omega), trB_row _ (by omega), if_neg (by omega)]
          · exact updS_self _ _ _ _
    · rw [if_neg hf] at hok ⊢
      dsimp only
      refine ⟨NI_ne hNB (fun x j hx => updS_ne _ _ _ _ (by omega)), ?_, Nat.le_refl _, ?_⟩
      · exact GI_ne hGB (updS_ne _ _ _ _ (by omega)) (fun i q hi => updS_ne _ _ _ _ (by omega)) (fun x h1 h2 i hi => updS_ne _ _ _ _ (by omega))
      · refine lk_set (by omega) hL (Nat.le_refl _) (fun i hi j => ?_) (fun j hj => ?_) (Or.inr ?_)
        · show updS _ _ _ _ _ j = _
          rw [updS_ne _ _ _ _ (by omega), trB_ne _ _ (by omega) (by omega)]
        · show updS _ _ _ _ _ _ = _
          rw [updS_nk _ _ _ _ (by omega), trB_row _ (by omega), if_neg (by omega)]
        · rcases fnd_spec (fun i => ∀ q : Nat, q < 6 → trB μ k t (130 + i) q = trB μ k t 215 q) g 0 with ⟨z, -⟩ | ⟨j, -, h2, h3, -⟩
          · exact absurd z hf
          · exact ⟨j, by show j < g; omega, by rw [updS_self]; exact h3⟩
  · rw [if_neg he] at hok ⊢
    dsimp only
    refine ⟨NI_ne hN (fun x j hx => trA_ne _ _ (by omega) _), GI_ne hG (trA_ne _ _ (by omega) _) (fun i q hi => trA_ne _ _ (by omega) _) (fun x h1 h2 i hi => trA_ne _ _ (by omega) _), Nat.le_refl _, ?_⟩
    refine lk_set (by omega) hL (Nat.le_refl _) (fun i hi j => trA_ne _ _ (by omega) _) (fun j hj => ?_) (Or.inl ?_)
    · show trA μ k t (171 + k) j = _
      rw [trA_row, if_neg (by omega)]
    · show trA μ k t (171 + k) t = _
      rw [trA_row, if_pos rfl]
theorem tr1_out (μ : St) {g k : Nat} (t : Nat) (hg : g ≤ 40) (hk : k < 40) {x : Nat} (h : ¬ inG x) (j : Int) : (tr1 μ g k t).1 x j = μ x j := by
  unfold inG at h
  unfold tr1
  split
  · split
    · split
      · exact trB_ne _ _ (by omega) (by omega) _
      · show updS _ _ _ _ x j = _
        rw [updS_ne _ _ _ _ (by omega), asS_ne _ _ _ _ (by omega) (by omega) (by omega) (by omega) (by omega), trB_ne _ _ (by omega) (by omega)]
    · show updS _ _ _ _ x j = _
      rw [updS_ne _ _ _ _ (by omega), trB_ne _ _ (by omega) (by omega)]
  · exact trA_ne _ _ (by omega) _
def folQ (μ : St) (P T g k : Nat) : Option Value → St → Prop := fun r σ => ∃ (g2 : Nat) (ok : Bool), folS T μ g k 0 = (σ, g2, ok) ∧ r = some (iN (if ok = true then 1 else 0)) ∧ NI σ P T ∧ (∀ x j, ¬ inG x → σ x j = μ x j) ∧ (ok = true → GI σ T g2 ∧ g ≤ g2 ∧ lkP σ g2 T k T)
set_option maxHeartbeats 4000000 in
set_option maxRecDepth 100000 in
theorem c_follow {l : Launch} (hlf : l.stackTraces = false) (D : va_G) (cy : Nat → ClassId) (B : Nat) {μ : St} {P T g k : Nat} (hN : NI μ P T) (hG : GI μ T g) (hk : k < g) (hL : ∀ i : Nat, i < k → nxP μ g i T) : PC l D cy B yX0_follow wsX0_follow (r0 3) [.ref (B + 128), iN k] μ (folQ μ P T g k) noX := by
  refine PC.pre (fun hR => ?_)
  refine q_start (cc := cX0_follow) (maxL := 4) (ret := (some .boolean)) hlf (by decide +kernel) rfl (by simp [Value.category]) (Nat.le_of_ble_eq_true rfl) ?_
  intro p e s m args below meth c C hret hno
  show PW p l e (r0 3) s m args below meth c D cy B 4 0 0 _ 0 [some (.ref (B + 128)), some (iN k), none, none] [] μ
  have hg40 := hG.2.1
  have L : ∀ (n t g2 : Nat) (σ : St), n + t = T → NI σ P T → GI σ T g2 → g ≤ g2 → k < g2 → lkP σ g2 T k t → folS n σ g2 k t = folS T μ g k 0 → (∀ x j, ¬ inG x → σ x j = μ x j) → PW p l e (r0 3) s m args below meth c D cy B 4 0 0 (vx_MQ below (Qp D cy B (folQ μ P T g k)) (Xp D cy B noX) args s (r0 3).cells (r0 3).slots (fun q => B ≤ q)) 2 [some (.ref (B + 128)), some (iN k), some (iN t), none] [] σ := by
    intro n
    induction n with
    | zero =>
      intro t g2 σ hnt hN hG hgg hk2 hL hf hout
      have hs := hN.2.2.2.1
      have h8 := hN.2.1
      refine q_rng (fun hR => ?_)
      refine q_iload_n (pc := 2) C dX0_follow_2 rfl rfl ?_
      refine q_aload_n (pc := 3) C dX0_follow_3 rfl rfl ?_
      refine q_getR (pc := 4) (ci := 0) (k := 0) (r := 1) C rfl fiX0_follow_X0 (by decide) k128 (by decide) rfl (by decide) flX0_follow_35 rfl rfl dX0_follow_4 ?_
      refine q_getIN (pc := 7) (ci := 1) (k := 1) (ki := 1) C rfl rfl fiX0_follow_X1 (by decide) k1 (by decide) rfl (by decide) (by decide +kernel) rfl rfl dX0_follow_7 ?_
      refine q_icmp_ge (pc := 10) (tgt := 114) C (by first | exact hR _ _ | exact hRo _ _ | assumption | exact ⟨by omega, by omega⟩) (by first | exact hR _ _ | exact hRo _ _ | assumption | exact ⟨by omega, by omega⟩) dX0_follow_10 (by decide) (fun hc => ?_) (fun hc => ?_)
      · refine q_iconst (pc := 114) C dX0_follow_114 ?_
        exact q_zret (pc := 115) C hret (by first | exact Or.inl rfl | exact Or.inr rfl | assumption) ⟨g2, true, by rw [← hf]; rfl, rfl, hN, hout, fun _ => ⟨hG, hgg, by rw [show T = t by omega]; exact ⟨by rw [show t = T by omega]; exact hL.1, hL.2⟩⟩⟩ (by decide) (by decide) dX0_follow_115
      · exact absurd hc (by omega)
    | succ n ih =>
      intro t g2 σ hnt hN hG hgg hk2 hL hf hout
      have hs := hN.2.2.2.1
      have h8 := hN.2.1
      have hg2 := hG.2.1
      have hsz := hG.2.2.1
      have htT : t < T := by omega
      have hf1 := hf
      rw [folS_succ] at hf1
      have NX : ∀ (σ2 : St) (g3 : Nat), tr1 σ g2 k t = (σ2, g3, true) → PW p l e (r0 3) s m args below meth c D cy B 4 0 0 (vx_MQ below (Qp D cy B (folQ μ P T g k)) (Xp D cy B noX) args s (r0 3).cells (r0 3).slots (fun q => B ≤ q)) 108 [some (.ref (B + 128)), some (iN k), some (iN t), none] [] σ2 := by
        intro σ2 g3 h9
        have hok : (tr1 σ g2 k t).2.2 = true := by rw [h9]
        obtain ⟨y1, y2, y3, y4⟩ := tr1_ok hN hG hk2 htT hL hok
        rw [if_pos hok] at hf1
        rw [h9] at y1 y2 y3 y4 hf1
        dsimp only at y1 y2 y3 y4 hf1
        refine q_iinc (pc := 108) (lv2 := [_, _, _, _]) C dX0_follow_108 (by decide) rfl rfl ?_
        refine q_goto (pc := 111) (tgt := 2) C dX0_follow_111 (by decide) ?_
        refine ih (t + 1) g3 σ2 (by omega) y1 y2 (by exact Nat.le_trans hgg y3) (by have : g2 ≤ g3 := y3; omega) y4 hf1 (fun x j hx => ?_)
        have := tr1_out σ t hg2 (show k < 40 by omega) hx j
        rw [h9] at this
        rw [← hout x j hx]
        exact this
      refine q_rng (fun hR => ?_)
      refine q_iload_n (pc := 2) C dX0_follow_2 rfl rfl ?_
      refine q_aload_n (pc := 3) C dX0_follow_3 rfl rfl ?_
      refine q_getR (pc := 4) (ci := 0) (k := 0) (r := 1) C rfl fiX0_follow_X0 (by decide) k128 (by decide) rfl (by decide) flX0_follow_35 rfl rfl dX0_follow_4 ?_
      refine q_getIN (pc := 7) (ci := 1) (k := 1) (ki := 1) C rfl rfl fiX0_follow_X1 (by decide) k1 (by decide) rfl (by decide) (by decide +kernel) rfl rfl dX0_follow_7 ?_
      refine q_icmp_ge (pc := 10) (tgt := 114) C (by first | exact hR _ _ | exact hRo _ _ | assumption | exact ⟨by omega, by omega⟩) (by first | exact hR _ _ | exact hRo _ _ | assumption | exact ⟨by omega, by omega⟩) dX0_follow_10 (by decide) (fun hc => ?_) (fun hc => ?_)
      · exact absurd hc (by omega)
      · refine q_aload_n (pc := 13) C dX0_follow_13 rfl rfl ?_
        refine q_getR (pc := 14) (ci := 0) (k := 3) (r := 170) C rfl fiX0_follow_X0 (by decide) k128 (by decide) rfl (by decide) flX0_follow_16 rfl rfl dX0_follow_14 ?_
        refine q_iload_n (pc := 17) C dX0_follow_17 rfl rfl ?_
        first | refine q_aaloadN (pc := 18) C k170 n170 (by decide) (by decide) (by omega) rfl dX0_follow_18 ?_ | refine q_aaload (pc := 18) C k170 n170 (by decide) (by decide) (by omega) (by omega) rfl dX0_follow_18 ?_
        refine q_iload_n (pc := 19) C dX0_follow_19 rfl rfl ?_
        refine q_bipush (pc := 20) C (by decide +kernel) dX0_follow_20 ?_
        refine q_iastore (pc := 22) C (k_r170 (by omega)) (n_r170 (by omega)) (by decide) (l_r170 (by omega)) (by omega) (by omega) (by first | exact hR _ _ | exact hRo _ _ | assumption | exact ⟨by omega, by omega⟩) dX0_follow_22 ?_
        refine q_mu (μ2 := trA σ k t) rfl ?_
        refine q_aload_n (pc := 23) C dX0_follow_23 rfl rfl ?_
        refine q_getR (pc := 24) (ci := 0) (k := 0) (r := 1) C rfl fiX0_follow_X0 (by decide) k128 (by decide) rfl (by decide) flX0_follow_35 rfl rfl dX0_follow_24 ?_
        refine q_aload_n (pc := 27) C dX0_follow_27 rfl rfl ?_
        refine q_getR (pc := 28) (ci := 0) (k := 2) (r := 129) C rfl fiX0_follow_X0 (by decide) k128 (by decide) rfl (by decide) flX0_follow_11 rfl rfl dX0_follow_28 ?_
        refine q_iload_n (pc := 31) C dX0_follow_31 rfl rfl ?_
        first | refine q_aaloadN (pc := 32) C k129 n129 (by decide) (by decide) (by omega) rfl dX0_follow_32 ?_ | refine q_aaload (pc := 32) C k129 n129 (by decide) (by decide) (by omega) (by omega) rfl dX0_follow_32 ?_
        refine q_iload_n (pc := 33) C dX0_follow_33 rfl rfl ?_
        refine q_callV (pc := 34) (As := [_, _]) (rest := []) C (c_enables hlf D cy B (a := 130 + k) (t := t) (k_r129 (by omega)) (n_r129 (by omega)) (l_r129 (by omega)) (by omega)) (cwV 2 C.2.2.2.2.1 gX0_follow_X1_enables rfl rfl rfl (by decide +kernel) ⟨Nat.le_of_ble_eq_true rfl, Nat.le_of_ble_eq_true rfl⟩) (ci := 1) rfl k1 (by decide) (by decide) rfl rfl (by first | decide | simp [Value.category]) dX0_follow_34 (by decide) (fun _ _ h => h.elim) (fun v σ9 hv => ?_)
        obtain ⟨hv1, hv2⟩ := hv
        subst hv1
        have hv2 := hv2.symm
        subst hv2
        have hz := bI_01 (∀ q : Nat, q < 6 → trA σ k t (4 + t) q ≤ trA σ k t (130 + k) q)
        refine q_if_eq (pc := 37) (tgt := 108) C (by first | exact hR _ _ | exact hRo _ _ | assumption | exact ⟨by omega, by omega⟩) dX0_follow_37 (by decide) (fun hq => ?_) (fun hq => ?_)
        · have hen := bI_0.mp hq
          exact NX (trA σ k t) g2 (by unfold tr1; rw [if_neg hen])
        · have hen := bI_1.mp (show bI (∀ q : Nat, q < 6 → trA σ k t (4 + t) q ≤ trA σ k t (130 + k) q) = 1 by omega)
          have hfr := tr_fire hN hG hk2 htT hen
          have hsB : trB σ k t 128 1 = g2 := by rw [trB_ne _ _ (by omega) (by omega), hsz]
          refine q_aload_n (pc := 40) C dX0_follow_40 rfl rfl ?_
          refine q_getR (pc := 41) (ci := 0) (k := 0) (r := 1) C rfl fiX0_follow_X0 (by decide) k128 (by decide) rfl (by decide) flX0_follow_35 rfl rfl dX0_follow_41 ?_
          refine q_aload_n (pc := 44) C dX0_follow_44 rfl rfl ?_
          refine q_getR (pc := 45) (ci := 0) (k := 2) (r := 129) C rfl fiX0_follow_X0 (by decide) k128 (by decide) rfl (by decide) flX0_follow_11 rfl rfl dX0_follow_45 ?_
          refine q_iload_n (pc := 48) C dX0_follow_48 rfl rfl ?_
          first | refine q_aaloadN (pc := 49) C k129 n129 (by decide) (by decide) (by omega) rfl dX0_follow_49 ?_ | refine q_aaload (pc := 49) C k129 n129 (by decide) (by decide) (by omega) (by omega) rfl dX0_follow_49 ?_
          refine q_iload_n (pc := 50) C dX0_follow_50 rfl rfl ?_
          refine q_aload_n (pc := 51) C dX0_follow_51 rfl rfl ?_
          refine q_getR (pc := 52) (ci := 0) (k := 8) (r := 215) C rfl fiX0_follow_X0 (by decide) k128 (by decide) rfl (by decide) flX0_follow_32 rfl rfl dX0_follow_52 ?_
          refine q_callV (pc := 55) (As := [_, _, _]) (rest := []) C (c_fire hlf D cy B (a := 130 + k) (b := 215) (t := t) (k_r129 (by omega)) (n_r129 (by omega)) (l_r129 (by omega)) k215 n215 (by decide) (by omega) (by omega) (by omega) (by omega) (fun q hq => by have := hfr q hq; exact ⟨by omega, by omega⟩)) (cwV 3 C.2.2.2.2.1 gX0_follow_X1_fire rfl rfl rfl (by decide +kernel) ⟨Nat.le_of_ble_eq_true rfl, Nat.le_of_ble_eq_true rfl⟩) (ci := 1) rfl k1 (by decide) (by decide) rfl rfl (by first | decide | simp [Value.category]) dX0_follow_55 (by decide) (fun _ _ h => h.elim) (fun v μ9 hv => ?_)
          have e8 := hv.1
          have e9 := hv.2.symm
          clear hv
          subst e8
          subst e9
          dsimp only [Option.toList, List.cons_append, List.nil_append]
          refine q_mu (μ2 := trB σ k t) rfl ?_
          refine q_aload_n (pc := 58) C dX0_follow_58 rfl rfl ?_
          refine q_aload_n (pc := 59) C dX0_follow_59 rfl rfl ?_
          refine q_getR (pc := 60) (ci := 0) (k := 8) (r := 215) C rfl fiX0_follow_X0 (by decide) k128 (by decide) rfl (by decide) flX0_follow_32 rfl rfl dX0_follow_60 ?_
          refine q_callV (pc := 63) (As := [_]) (rest := []) C (c_stateOf hlf D cy B (g := g2) (a := 215) hg2 hsB k215 n215 (by decide)) (cwV 1 C.2.2.2.2.1 gX0_follow_X0_stateOf rfl rfl rfl (by decide +kernel) ⟨Nat.le_of_ble_eq_true rfl, Nat.le_of_ble_eq_true rfl⟩) (ci := 0) rfl k128 (by decide) (by decide) rfl rfl (by first | decide | simp [Value.category]) dX0_follow_63 (by decide) (fun _ _ h => h.elim) (fun v σ8 hv => ?_)
          obtain ⟨hv1, hv2⟩ := hv
          subst hv1
          have hv2 := hv2.symm
          subst hv2
          dsimp only [Option.toList, List.cons_append, List.nil_append]
          have hfs := fnd_spec (fun i => ∀ q : Nat, q < 6 → trB σ k t (130 + i) q = trB σ k t 215 q) g2 0
          have hfr2 : InR (fndS (trB σ k t) g2 215) := by
            rcases hfs with ⟨z, -⟩ | ⟨j, -, z2, z3, -⟩
            · exact ⟨by unfold fndS; omega, by unfold fndS; omega⟩
            · exact ⟨by unfold fndS; omega, by unfold fndS; omega⟩
          refine q_istore_n (pc := 66) (lv2 := [_, _, _, _]) C dX0_follow_66 rfl (by decide) rfl ?_
          refine q_iload_n (pc := 67) C dX0_follow_67 rfl rfl ?_
          refine q_bipush (pc := 68) C (by decide +kernel) dX0_follow_68 ?_
          refine q_icmp_ne (pc := 70) (tgt := 99) C (by first | exact hR _ _ | exact hRo _ _ | assumption | exact ⟨by omega, by omega⟩) (by first | exact hR _ _ | exact hRo _ _ | assumption | exact ⟨by omega, by omega⟩) dX0_follow_70 (by decide) (fun hq2 => ?_) (fun hq2 => ?_)
          · refine q_aload_n (pc := 99) C dX0_follow_99 rfl rfl ?_
            refine q_getR (pc := 100) (ci := 0) (k := 3) (r := 170) C rfl fiX0_follow_X0 (by decide) k128 (by decide) rfl (by decide) flX0_follow_16 rfl rfl dX0_follow_100 ?_
            refine q_iload_n (pc := 103) C dX0_follow_103 rfl rfl ?_
            first | refine q_aaloadN (pc := 104) C k170 n170 (by decide) (by decide) (by omega) rfl dX0_follow_104 ?_ | refine q_aaload (pc := 104) C k170 n170 (by decide) (by decide) (by omega) (by omega) rfl dX0_follow_104 ?_
            refine q_iload_n (pc := 105) C dX0_follow_105 rfl rfl ?_
            refine q_iload_n (pc := 106) C dX0_follow_106 rfl rfl ?_
            refine q_iastore (pc := 107) C (k_r170 (by omega)) (n_r170 (by omega)) (by decide) (l_r170 (by omega)) (by omega) (by omega) (by first | exact hR _ _ | exact hRo _ _ | assumption | exact ⟨by omega, by omega⟩) dX0_follow_107 ?_
            refine q_drop 3 (lv2 := [_, _, _, none]) rfl ?_
            exact NX _ g2 (by unfold tr1; rw [if_pos hen, if_neg hq2])
          · refine q_aload_n (pc := 73) C dX0_follow_73 rfl rfl ?_
            refine q_getI (pc := 74) (ci := 0) (k := 1) (ki := 1) C rfl rfl fiX0_follow_X0 (by decide) k128 (by decide) rfl (by decide) flX0_follow_48 rfl rfl dX0_follow_74 ?_
            rw [hsB]
            refine q_bipush (pc := 77) C (by decide +kernel) dX0_follow_77 ?_
            refine q_icmp_ne (pc := 79) (tgt := 84) C (by first | exact hR _ _ | exact hRo _ _ | assumption | exact ⟨by omega, by omega⟩) (by first | exact hR _ _ | exact hRo _ _ | assumption | exact ⟨by omega, by omega⟩) dX0_follow_79 (by decide) (fun hq3 => ?_) (fun hq3 => ?_)
            · have hg3 : g2 < 40 := by omega
              obtain ⟨d, hd1, hd2⟩ := GI_d hG hk2
              have e213 : trB σ k t 213 k = d := by rw [trB_ne _ _ (by omega) (by omega), hd1]
              refine q_aload_n (pc := 84) C dX0_follow_84 rfl rfl ?_
              refine q_iload_n (pc := 85) C dX0_follow_85 rfl rfl ?_
              refine q_iload_n (pc := 86) C dX0_follow_86 rfl rfl ?_
              refine q_aload_n (pc := 87) C dX0_follow_87 rfl rfl ?_
              refine q_getR (pc := 88) (ci := 0) (k := 6) (r := 213) C rfl fiX0_follow_X0 (by decide) k128 (by decide) rfl (by decide) flX0_follow_26 rfl rfl dX0_follow_88 ?_
              refine q_iload_n (pc := 91) C dX0_follow_91 rfl rfl ?_
              refine q_iaload (pc := 92) C k213 n213 (by decide) (by decide) (by omega) (by omega) dX0_follow_92 ?_
              rw [e213]
              refine q_iconst (pc := 93) C dX0_follow_93 ?_
              refine q_iadd (pc := 94) C dX0_follow_94 ?_
              refine q_callV (pc := 95) (As := [_, _, _]) (rest := []) C (c_addState hlf D cy B (g := g2) (f := k) (b := t) (d := d + 1) hg3 hsB ⟨by omega, by omega⟩ ⟨by omega, by omega⟩ ⟨by omega, by omega⟩) (cwV 3 C.2.2.2.2.1 gX0_follow_X0_addState rfl rfl rfl (by decide +kernel) ⟨Nat.le_of_ble_eq_true rfl, Nat.le_of_ble_eq_true rfl⟩) (ci := 0) rfl k128 (by decide) (by decide) rfl rfl (by first | decide | simp [Value.category]) dX0_follow_95 (by decide) (fun _ _ h => h.elim) (fun v σ7 hv => ?_)
              obtain ⟨hv1, hv2⟩ := hv
              subst hv1
              have hv2 := hv2.symm
              subst hv2
              dsimp only [Option.toList, List.cons_append, List.nil_append]
              refine q_istore_n (pc := 98) (lv2 := [_, _, _, _]) C dX0_follow_98 rfl (by decide) rfl ?_
              refine q_aload_n (pc := 99) C dX0_follow_99 rfl rfl ?_
              refine q_getR (pc := 100) (ci := 0) (k := 3) (r := 170) C rfl fiX0_follow_X0 (by decide) k128 (by decide) rfl (by decide) flX0_follow_16 rfl rfl dX0_follow_100 ?_
              refine q_iload_n (pc := 103) C dX0_follow_103 rfl rfl ?_
              first | refine q_aaloadN (pc := 104) C k170 n170 (by decide) (by decide) (by omega) rfl dX0_follow_104 ?_ | refine q_aaload (pc := 104) C k170 n170 (by decide) (by decide) (by omega) (by omega) rfl dX0_follow_104 ?_
              refine q_iload_n (pc := 105) C dX0_follow_105 rfl rfl ?_
              refine q_iload_n (pc := 106) C dX0_follow_106 rfl rfl ?_
              refine q_iastore (pc := 107) C (k_r170 (by omega)) (n_r170 (by omega)) (by decide) (l_r170 (by omega)) (by omega) (by omega) (by first | exact hR _ _ | exact hRo _ _ | assumption | exact ⟨by omega, by omega⟩) dX0_follow_107 ?_
              refine q_drop 3 (lv2 := [_, _, _, none]) rfl ?_
              exact NX _ (g2 + 1) (by unfold tr1; rw [if_pos hen, if_pos hq2, if_neg (by omega), hd1])
            · refine q_iconst (pc := 82) C dX0_follow_82 ?_
              have hff : tr1 σ g2 k t = (trB σ k t, g2, false) := by unfold tr1; rw [if_pos hen, if_pos hq2, if_pos (by omega)]
              exact q_zret (pc := 83) C hret (by first | exact Or.inl rfl | exact Or.inr rfl | assumption) ⟨g2, false, by rw [hff] at hf1; rw [← hf1]; exact if_neg (fun z => by cases z), rfl, NI_ne hN (fun x j hx => trB_ne _ _ (by omega) (by omega) _), fun x j hx => by unfold inG at hx; rw [trB_ne _ _ (by omega) (by omega)]; exact hout x j hx, fun z => by cases z⟩ (by decide) (by decide) dX0_follow_83
  refine q_iconst (pc := 0) C dX0_follow_0 ?_
  refine q_istore_n (pc := 1) (lv2 := [_, _, _, _]) C dX0_follow_1 rfl (by decide) rfl ?_
  exact L T 0 g μ (by omega) hN hG (Nat.le_refl _) hk ⟨hL, fun t ht => absurd ht (by omega)⟩ rfl (fun _ _ _ => rfl)

