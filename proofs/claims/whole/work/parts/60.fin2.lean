theorem fin_growth {μ σ : St} {P T n : Nat} {i : Int} {r : Option Value} (hG : GG μ P T) (hs : μ 22 1 = n) (hw : wp2 (fun μ2 => n = 0 ∧ μ2 = μ) (fun μ2 => ¬ n = 0 ∧ i < -1 ∧ μ2 = μ) (fun v μ2 => ¬ n = 0 ∧ -1 ≤ i ∧ μ2 = μ ∧ ((μ 22 2 = -2 ∧ v = -2) ∨ ∃ f d : Nat, f < n ∧ μ 22 2 = f ∧ μ 126 f = d ∧ ((i = -1 ∧ v = μ 22 3) ∨ ∃ k : Nat, i = k ∧ v = if d ≤ k then -1 else μ 125 (upN μ (d - (k + 1)) f)))) r σ) :
    OUT3 μ σ r (fun v2 τ => (σ 216 7 < 0 ∧ τ = updS σ 216 0 1) ∨ (¬ σ 216 7 < 0 ∧ i < -1 ∧ τ = updS σ 216 0 2) ∨ (¬ σ 216 7 < 0 ∧ -1 ≤ i ∧ τ = updS σ 216 0 0 ∧ ((σ 216 13 = -1 ∧ v2 = -2) ∨ ∃ f s9 : Nat, f < (σ 216 7).toNat ∧ s9 < (σ 216 7).toNat ∧ σ 216 13 = f ∧ σ 216 14 = s9 ∧ ((i = -1 ∧ v2 = ((μ 126 (s9 : Nat)).toNat : Nat)) ∨ ∃ k : Nat, i = k ∧ v2 = if (μ 126 (f : Nat)).toNat ≤ k then -1 else σ 223 (upM σ ((μ 126 (f : Nat)).toNat - (k + 1)) f))))) := by
  have hcp := rel_tree hG
  rcases hw with ⟨hr, c1, hσ⟩ | ⟨hr, ⟨c1, c2, hσ⟩⟩ | ⟨hr, v, μ3, hv, ⟨c1, c2, h3, hcs⟩, hσ⟩
  · have e : ∀ x, x ≠ 232 → σ x = μ x := fun x hx => by rw [hσ]
    refine ⟨1, hr, ⟨by decide, by decide⟩, fun x _ h2 => e x h2, fun v2 τ hm => ?_⟩
    dsimp only at hm
    rw [e 216 (by decide)] at hm
    rcases hm with ⟨d1, hτ⟩ | ⟨d1, d2, hτ⟩ | ⟨d1, d2, hτ, -⟩
    · exact ⟨by rw [hτ, updS_self], fun z => absurd z (by decide), P, T, GG_q hG e hτ⟩
    · omega
    · omega
  · have e : ∀ x, x ≠ 232 → σ x = μ x := fun x hx => by rw [hσ]
    refine ⟨2, hr, ⟨by decide, by decide⟩, fun x _ h2 => e x h2, fun v2 τ hm => ?_⟩
    dsimp only at hm
    rw [e 216 (by decide)] at hm
    rcases hm with ⟨d1, hτ⟩ | ⟨d1, d2, hτ⟩ | ⟨d1, d2, hτ, -⟩
    · omega
    · exact ⟨by rw [hτ, updS_self], fun z => absurd z (by decide), P, T, GG_q hG e hτ⟩
    · omega
  · have e : ∀ x, x ≠ 232 → σ x = μ x := fun x hx => by rw [hσ, ufn hx, h3]
    refine ⟨0, hr, ⟨by decide, by decide⟩, fun x _ h2 => e x h2, fun v2 τ hm => ?_⟩
    dsimp only at hm
    have eup : ∀ k u, upM σ k u = upM μ k u := by
      intro k
      induction k with
      | zero => exact fun u => rfl
      | succ k ih => intro u; rw [upM_succ, upM_succ, e 222 (by decide), ih]
    rw [e 216 (by decide), e 223 (by decide)] at hm
    rcases hm with ⟨d1, hτ⟩ | ⟨d1, d2, hτ⟩ | ⟨d1, d2, hτ, hms⟩
    · clear hcs
      omega
    · clear hcs
      omega
    · refine ⟨by rw [hτ, updS_self], fun _ => ?_, P, T, GG_q hG e hτ⟩
      rw [hτ, updS_ne _ _ _ _ (by decide), hσ, updS_self]
      obtain ⟨m, hT, hM, h7, h22⟩ := the_tree hG (by clear hcs hms; omega)
      have hmn : m = n := by clear hcs hms; omega
      subst hmn
      have hg := hM.2.2.2.2
      rcases hcs with ⟨y1, y2⟩ | ⟨f, d, hf, y1, y2, y3⟩
      · rcases hms with ⟨z1, z2⟩ | ⟨f2, s2, z0, z1, z2, z3, z4⟩
        · rw [y2, z2]
        · rcases hg with ⟨g1, g2⟩ | ⟨f3, s3, g1, g2, g3, g4, g5, g6⟩
          · omega
          · omega
      · rcases hms with ⟨z1, z2⟩ | ⟨f2, s2, z0, z1, z2, z3, z4⟩
        · rcases hg with ⟨g1, g2⟩ | ⟨f3, s3, g1, g2, g3, g4, g5, g6⟩
          · omega
          · omega
        · rcases hg with ⟨g1, g2⟩ | ⟨f3, s3, g1, g2, g3, g4, g5, g6⟩
          · omega
          · have ef : f2 = f := by omega
            have es : s2 = s3 := by omega
            subst ef
            subst es
            rcases y3 with ⟨y4, y5⟩ | ⟨k, y4, y5⟩
            · rcases z4 with ⟨w1, w2⟩ | ⟨k2, w1, w2⟩
              · obtain ⟨d9, hd1, hd2⟩ := chP_le hT.2.2.2.1 s2 g2
                rw [y5, w2, g6, hd1]
                rfl
              · omega
            · rcases z4 with ⟨w1, w2⟩ | ⟨k2, w1, w2⟩
              · omega
              · have ek : k2 = k := by omega
                subst ek
                have edn : (μ 126 (f2 : Nat)).toNat = d := by rw [y2]; rfl
                rw [edn, eup] at w2
                rw [y5, w2]
                by_cases hdk : d ≤ k2
                · rw [if_pos hdk, if_pos hdk]
                · rw [if_neg hdk, if_neg hdk]
                  obtain ⟨u1, u2⟩ := v_up hT hM (d - (k2 + 1)) f2 d hf y2 (by omega)
                  rw [u1]
                  exact (hM.2.2.1 _ u2).symm
theorem GG_dis {κ : St} {P T : Nat} (h1 : NI κ P T) (h2 : NZ κ P) (h3 : TGT κ) (h4 : MN κ κ P T) (h5 : κ 22 1 = 0) (h6 : κ 216 7 = -1) (h7 : κ 128 1 = 0) (h8 : κ 216 15 = -1) : GG κ P T := ⟨h1, h2, h3, h4, Or.inl ⟨h5, h6⟩, Or.inl ⟨h7, h8⟩⟩
theorem disS_22 (μ : St) : disS μ 22 1 = 0 := by
  unfold disS
  rw [updS_ne _ _ _ _ (by decide), updS_self]
theorem disS_128 (μ : St) : disS μ 128 1 = 0 := by
  unfold disS
  rw [updS_self]
theorem mdS_7 (μ : St) : mdS μ 216 7 = -1 := by
  unfold mdS
  rw [updS_nk _ _ _ _ (by decide), updS_self]
theorem mdS_15 (μ : St) : mdS μ 216 15 = -1 := by
  unfold mdS
  rw [updS_self]
theorem disfn (μ : St) {x : Nat} (h1 : x ≠ 22) (h2 : x ≠ 128) : disS μ x = μ x := funext (fun j => disS_ne μ h1 h2 j)
theorem fin_place {μ σ : St} {P T : Nat} {t : Int} {r : Option Value} (hG : GG μ P T) (hw : wp2 (fun μ2 => ¬ (0 ≤ t ∧ t ≤ 9) ∧ μ2 = μ) (fun μ2 => (0 ≤ t ∧ t ≤ 9) ∧ P = 6 ∧ μ2 = μ) (fun v μ2 => (0 ≤ t ∧ t ≤ 9) ∧ P < 6 ∧ v = P ∧ μ2 = updS (updS (disS μ) 2 P t) 1 0 (P + 1)) r σ) :
    OUT3 μ σ r (fun v2 τ => (¬ (0 ≤ t ∧ t ≤ 9) ∧ τ = updS σ 216 0 1) ∨ ((0 ≤ t ∧ t ≤ 9) ∧ P = 6 ∧ τ = updS σ 216 0 2) ∨ ((0 ≤ t ∧ t ≤ 9) ∧ P < 6 ∧ v2 = P ∧ τ = updS (updS (mdS (updS σ 216 0 0)) 217 P t) 216 1 (P + 1))) := by
  rcases hw with ⟨hr, c1, hσ⟩ | ⟨hr, ⟨c1, c2, hσ⟩⟩ | ⟨hr, v, μ3, hv, ⟨c1, c2, hvv, h3⟩, hσ⟩
  · refine ⟨1, hr, ⟨by decide, by decide⟩, fun x _ _ => by rw [hσ], fun v2 τ hm => ?_⟩
    rcases hm with ⟨d1, hτ⟩ | ⟨d1, d2, hτ⟩ | ⟨d1, d2, dv, hτ⟩
    · exact ⟨by rw [hτ, updS_self], fun z => absurd z (by decide), P, T, GG_q hG (fun x _ => by rw [hσ]) hτ⟩
    · omega
    · omega
  · refine ⟨2, hr, ⟨by decide, by decide⟩, fun x _ _ => by rw [hσ], fun v2 τ hm => ?_⟩
    rcases hm with ⟨d1, hτ⟩ | ⟨d1, d2, hτ⟩ | ⟨d1, d2, dv, hτ⟩
    · omega
    · exact ⟨by rw [hτ, updS_self], fun z => absurd z (by decide), P, T, GG_q hG (fun x _ => by rw [hσ]) hτ⟩
    · omega
  · have e : ∀ x, 216 ≤ x → x ≠ 232 → σ x = μ x := fun x h1 h2 => by rw [hσ, ufn h2, h3, ufn (by omega), ufn (by omega), disfn _ (by omega) (by omega)]
    refine ⟨0, hr, ⟨by decide, by decide⟩, e, fun v2 τ hm => ?_⟩
    rcases hm with ⟨d1, hτ⟩ | ⟨d1, d2, hτ⟩ | ⟨d1, d2, dv, hτ⟩
    · omega
    · omega
    · obtain ⟨hN, hZ, hTg, hM, -, -⟩ := hG
      have cl : ∀ x j, x < 216 → τ x j = updS (updS (disS μ) 2 P t) 1 0 (P + 1) x j := fun x j hx => by rw [hτ, updS_ne _ _ _ _ (by omega), updS_ne _ _ _ _ (by omega), mdS_ne _ (by omega), updS_ne _ _ _ _ (by omega), hσ, updS_ne _ _ _ _ (by omega), h3]
      have c0 : ∀ x j, x < 216 → x ≠ 1 → x ≠ 2 → x ≠ 22 → x ≠ 128 → τ x j = μ x j := fun x j hx h1 h2 h3 h4 => by rw [cl x j hx, updS_ne _ _ _ _ h1, updS_ne _ _ _ _ h2, disS_ne _ h3 h4]
      have c2f : ∀ j, τ 2 j = if j = P then t else μ 2 j := by
        intro j
        rw [cl 2 j (by decide), updS_ne _ _ _ _ (by decide), updS_ap]
        by_cases h : j = P
        · rw [if_pos ⟨rfl, h⟩, if_pos h]
        · rw [if_neg (fun z => h z.2), if_neg h, disS_ne _ (by decide) (by decide)]
      have m0 : ∀ x j, 217 < x → x ≠ 232 → τ x j = μ x j := fun x j hx h2 => by rw [hτ, updS_ne _ _ _ _ (by omega), updS_ne _ _ _ _ (by omega), mdS_ne _ (by omega), updS_ne _ _ _ _ (by omega), e x (by omega) h2]
      have m17 : ∀ j, τ 217 j = if j = P then t else μ 217 j := by
        intro j
        rw [hτ, updS_ne _ _ _ _ (by decide), updS_ap]
        by_cases h : j = P
        · rw [if_pos ⟨rfl, h⟩, if_pos h]
        · rw [if_neg (fun z => h z.2), if_neg h, mdS_ne _ (by decide), updS_ne _ _ _ _ (by decide), e 217 (by decide) (by decide)]
      refine ⟨by rw [hτ, updS_nk _ _ _ _ (by decide), updS_ne _ _ _ _ (by decide), mdS_nk _ (by decide) (by decide), updS_self], fun _ => ?_, P + 1, T, ?_⟩
      · rw [hτ, updS_ne _ _ _ _ (by decide), updS_ne _ _ _ _ (by decide), mdS_ne _ (by decide), updS_ne _ _ _ _ (by decide), hσ, updS_self, hvv, dv]
      · refine GG_dis ⟨by omega, hN.2.1, ?_, ?_, ?_, ?_⟩ ?_ ?_ ⟨?_, ?_, ?_, ?_, ?_⟩ ?_ ?_ ?_ ?_
        · rw [cl 1 0 (by decide), updS_self]
          omega
        · rw [cl 1 1 (by decide), updS_nk _ _ _ _ (by decide), updS_ne _ _ _ _ (by decide), disS_ne _ (by decide) (by decide)]
          exact hN.2.2.2.1
        · intro q hq
          rw [c2f]
          split
          · exact c1
          · exact hN.2.2.2.2.1 q hq
        · intro u q hu hq
          rw [c0 _ _ (by omega) (by omega) (by omega) (by omega) (by omega), c0 _ _ (by omega) (by omega) (by omega) (by omega) (by omega)]
          exact hN.2.2.2.2.2 u q hu hq
        · intro q hq hP
          obtain ⟨z1, z2, z3⟩ := hZ q hq (by omega)
          refine ⟨by rw [c2f, if_neg (by omega)]; exact z1, by rw [c0 _ _ (by omega) (by omega) (by omega) (by omega) (by omega)]; exact z2, fun u hu => ?_⟩
          rw [c0 _ _ (by omega) (by omega) (by omega) (by omega) (by omega), c0 _ _ (by omega) (by omega) (by omega) (by omega) (by omega)]
          exact z3 u hu
        · intro q hq
          rw [c0 _ _ (by omega) (by omega) (by omega) (by omega) (by omega)]
          exact hTg q hq
        · rw [hτ, updS_self]
          omega
        · rw [hτ, updS_nk _ _ _ _ (by decide), updS_ne _ _ _ _ (by decide), mdS_nk _ (by decide) (by decide), updS_nk _ _ _ _ (by decide), e 216 (by decide) (by decide)]
          exact hM.2.1
        · intro q hq
          rw [m17, c2f]
          split
          · rfl
          · exact hM.2.2.1 q hq
        · intro q hq
          rw [m0 _ _ (by decide) (by decide), c0 _ _ (by omega) (by omega) (by omega) (by omega) (by omega)]
          exact hM.2.2.2.1 q hq
        · intro u q hu hq
          rw [m0 _ _ (by decide) (by decide), c0 _ _ (by omega) (by omega) (by omega) (by omega) (by omega), m0 _ _ (by decide) (by decide), c0 _ _ (by omega) (by omega) (by omega) (by omega) (by omega)]
          exact hM.2.2.2.2 u q hu hq
        · rw [cl _ _ (by decide), updS_ne _ _ _ _ (by decide), updS_ne _ _ _ _ (by decide), disS_22]
        · rw [hτ, updS_nk _ _ _ _ (by decide), updS_ne _ _ _ _ (by decide), mdS_7]
        · rw [cl _ _ (by decide), updS_ne _ _ _ _ (by decide), updS_ne _ _ _ _ (by decide), disS_128]
        · rw [hτ, updS_nk _ _ _ _ (by decide), updS_ne _ _ _ _ (by decide), mdS_15]
theorem fin_transition {μ σ : St} {P T : Nat} {r : Option Value} (hG : GG μ P T) (hw : wp1 (fun μ2 => T = 8 ∧ μ2 = μ) (fun v μ2 => T < 8 ∧ v = T ∧ μ2 = updS (disS μ) 1 1 (T + 1)) r σ) :
    OUT3 μ σ r (fun v2 τ => (T = 8 ∧ τ = updS σ 216 0 1) ∨ (T < 8 ∧ v2 = T ∧ τ = updS (mdS (updS σ 216 0 0)) 216 2 (T + 1))) := by
  rcases hw with ⟨hr, c1, hσ⟩ | ⟨hr, v, μ3, hv, ⟨c1, hvv, h3⟩, hσ⟩
  · refine ⟨1, hr, ⟨by decide, by decide⟩, fun x _ _ => by rw [hσ], fun v2 τ hm => ?_⟩
    rcases hm with ⟨d1, hτ⟩ | ⟨d1, dv, hτ⟩
    · exact ⟨by rw [hτ, updS_self], fun z => absurd z (by decide), P, T, GG_q hG (fun x _ => by rw [hσ]) hτ⟩
    · omega
  · have e : ∀ x, 216 ≤ x → x ≠ 232 → σ x = μ x := fun x h1 h2 => by rw [hσ, ufn h2, h3, ufn (by omega), disfn _ (by omega) (by omega)]
    refine ⟨0, hr, ⟨by decide, by decide⟩, e, fun v2 τ hm => ?_⟩
    rcases hm with ⟨d1, hτ⟩ | ⟨d1, dv, hτ⟩
    · omega
    · obtain ⟨hN, hZ, hTg, hM, -, -⟩ := hG
      have cl : ∀ x j, x < 216 → τ x j = updS (disS μ) 1 1 (T + 1) x j := fun x j hx => by rw [hτ, updS_ne _ _ _ _ (by omega), mdS_ne _ (by omega), updS_ne _ _ _ _ (by omega), hσ, updS_ne _ _ _ _ (by omega), h3]
      have c0 : ∀ x j, x < 216 → x ≠ 1 → x ≠ 22 → x ≠ 128 → τ x j = μ x j := fun x j hx h1 h3 h4 => by rw [cl x j hx, updS_ne _ _ _ _ h1, disS_ne _ h3 h4]
      have m0 : ∀ x j, 216 < x → x ≠ 232 → τ x j = μ x j := fun x j hx h2 => by rw [hτ, updS_ne _ _ _ _ (by omega), mdS_ne _ (by omega), updS_ne _ _ _ _ (by omega), e x (by omega) h2]
      refine ⟨by rw [hτ, updS_nk _ _ _ _ (by decide), mdS_nk _ (by decide) (by decide), updS_self], fun _ => ?_, P, T + 1, ?_⟩
      · rw [hτ, updS_ne _ _ _ _ (by decide), mdS_ne _ (by decide), updS_ne _ _ _ _ (by decide), hσ, updS_self, hvv, dv]
      · refine GG_dis ⟨hN.1, by omega, ?_, ?_, ?_, ?_⟩ ?_ ?_ ⟨?_, ?_, ?_, ?_, ?_⟩ ?_ ?_ ?_ ?_
        · rw [cl 1 0 (by decide), updS_nk _ _ _ _ (by decide), disS_ne _ (by decide) (by decide)]
          exact hN.2.2.1
        · rw [cl 1 1 (by decide), updS_self]
          omega
        · intro q hq
          rw [c0 _ _ (by omega) (by omega) (by omega) (by omega)]
          exact hN.2.2.2.2.1 q hq
        · intro u q hu hq
          rw [c0 _ _ (by omega) (by omega) (by omega) (by omega), c0 _ _ (by omega) (by omega) (by omega) (by omega)]
          exact hN.2.2.2.2.2 u q hu hq
        · intro q hq hP
          obtain ⟨z1, z2, z3⟩ := hZ q hq (by omega)
          refine ⟨by rw [c0 _ _ (by omega) (by omega) (by omega) (by omega)]; exact z1, by rw [c0 _ _ (by omega) (by omega) (by omega) (by omega)]; exact z2, fun u hu => ?_⟩
          rw [c0 _ _ (by omega) (by omega) (by omega) (by omega), c0 _ _ (by omega) (by omega) (by omega) (by omega)]
          exact z3 u hu
        · intro q hq
          rw [c0 _ _ (by omega) (by omega) (by omega) (by omega)]
          exact hTg q hq
        · rw [hτ, updS_nk _ _ _ _ (by decide), mdS_nk _ (by decide) (by decide), updS_nk _ _ _ _ (by decide), e 216 (by decide) (by decide)]
          exact hM.1
        · rw [hτ, updS_self]
          omega
        · intro q hq
          rw [m0 _ _ (by decide) (by decide), c0 _ _ (by omega) (by omega) (by omega) (by omega)]
          exact hM.2.2.1 q hq
        · intro q hq
          rw [m0 _ _ (by decide) (by decide), c0 _ _ (by omega) (by omega) (by omega) (by omega)]
          exact hM.2.2.2.1 q hq
        · intro u q hu hq
          rw [m0 _ _ (by decide) (by decide), c0 _ _ (by omega) (by omega) (by omega) (by omega), m0 _ _ (by decide) (by decide), c0 _ _ (by omega) (by omega) (by omega) (by omega)]
          exact hM.2.2.2.2 u q hu hq
        · rw [cl _ _ (by decide), updS_ne _ _ _ _ (by decide), disS_22]
        · rw [hτ, updS_nk _ _ _ _ (by decide), mdS_7]
        · rw [cl _ _ (by decide), updS_ne _ _ _ _ (by decide), disS_128]
        · rw [hτ, updS_nk _ _ _ _ (by decide), mdS_15]
theorem fin_tokens {μ σ : St} {P T : Nat} {a n : Int} {r : Option Value} (hG : GG μ P T) (hw : wn2 (fun μ2 => ¬ (0 ≤ a ∧ a < P) ∧ μ2 = μ) (fun μ2 => (0 ≤ a ∧ a < P) ∧ ¬ (0 ≤ n ∧ n ≤ 9) ∧ μ2 = μ) (fun μ2 => (0 ≤ a ∧ a < P) ∧ (0 ≤ n ∧ n ≤ 9) ∧ μ2 = updS (disS μ) 2 a n) r σ) :
    OUTn μ σ r (fun τ => (¬ (0 ≤ a ∧ a < P) ∧ τ = updS σ 216 0 1) ∨ ((0 ≤ a ∧ a < P) ∧ ¬ (0 ≤ n ∧ n ≤ 9) ∧ τ = updS σ 216 0 2) ∨ ((0 ≤ a ∧ a < P) ∧ (0 ≤ n ∧ n ≤ 9) ∧ τ = updS (mdS (updS σ 216 0 0)) 217 a n)) := by
  rcases hw with ⟨hr, c1, hσ⟩ | ⟨hr, ⟨c1, c2, hσ⟩⟩ | ⟨hr, c1, c2, hσ⟩
  · refine ⟨1, hr, ⟨by decide, by decide⟩, fun x _ _ => by rw [hσ], fun τ hm => ?_⟩
    rcases hm with ⟨d1, hτ⟩ | ⟨d1, d2, hτ⟩ | ⟨d1, d2, hτ⟩
    · exact ⟨by rw [hτ, updS_self], P, T, GG_q hG (fun x _ => by rw [hσ]) hτ⟩
    · omega
    · omega
  · refine ⟨2, hr, ⟨by decide, by decide⟩, fun x _ _ => by rw [hσ], fun τ hm => ?_⟩
    rcases hm with ⟨d1, hτ⟩ | ⟨d1, d2, hτ⟩ | ⟨d1, d2, hτ⟩
    · omega
    · exact ⟨by rw [hτ, updS_self], P, T, GG_q hG (fun x _ => by rw [hσ]) hτ⟩
    · omega
  · have e : ∀ x, 216 ≤ x → x ≠ 232 → σ x = μ x := fun x h1 h2 => by rw [hσ, ufn (by omega), disfn _ (by omega) (by omega)]
    refine ⟨0, hr, ⟨by decide, by decide⟩, e, fun τ hm => ?_⟩
    rcases hm with ⟨d1, hτ⟩ | ⟨d1, d2, hτ⟩ | ⟨d1, d2, hτ⟩
    · omega
    · omega
    · obtain ⟨hN, hZ, hTg, hM, -, -⟩ := hG
      have h6 := hN.1
      have cl : ∀ x j, x < 216 → τ x j = updS (disS μ) 2 a n x j := fun x j hx => by rw [hτ, updS_ne _ _ _ _ (by omega), mdS_ne _ (by omega), updS_ne _ _ _ _ (by omega), hσ]
      have c0 : ∀ x j, x < 216 → x ≠ 2 → x ≠ 22 → x ≠ 128 → τ x j = μ x j := fun x j hx h2 h3 h4 => by rw [cl x j hx, updS_ne _ _ _ _ h2, disS_ne _ h3 h4]
      have c2f : ∀ j, τ 2 j = if j = a then n else μ 2 j := by
        intro j
        rw [cl 2 j (by decide), updS_ap]
        by_cases h : j = a
        · rw [if_pos ⟨rfl, h⟩, if_pos h]
        · rw [if_neg (fun z => h z.2), if_neg h, disS_ne _ (by decide) (by decide)]
      have m0 : ∀ x j, 217 < x → x ≠ 232 → τ x j = μ x j := fun x j hx h2 => by rw [hτ, updS_ne _ _ _ _ (by omega), mdS_ne _ (by omega), updS_ne _ _ _ _ (by omega), e x (by omega) h2]
      have m16 : ∀ j, j ≠ 0 → j ≠ 7 → j ≠ 15 → τ 216 j = μ 216 j := fun j h0 h1 h2 => by rw [hτ, updS_ne _ _ _ _ (by decide), mdS_nk _ h1 h2, updS_nk _ _ _ _ h0, e 216 (by decide) (by decide)]
      have m17 : ∀ j, τ 217 j = if j = a then n else μ 217 j := by
        intro j
        rw [hτ, updS_ap]
        by_cases h : j = a
        · rw [if_pos ⟨rfl, h⟩, if_pos h]
        · rw [if_neg (fun z => h z.2), if_neg h, mdS_ne _ (by decide), updS_ne _ _ _ _ (by decide), e 217 (by decide) (by decide)]
      refine ⟨by rw [hτ, updS_ne _ _ _ _ (by decide), mdS_nk _ (by decide) (by decide), updS_self], P, T, ?_⟩
      refine GG_dis ⟨hN.1, hN.2.1, ?_, ?_, ?_, ?_⟩ ?_ ?_ ⟨?_, ?_, ?_, ?_, ?_⟩ ?_ ?_ ?_ ?_
      · rw [c0 _ _ (by omega) (by omega) (by omega) (by omega)]
        exact hN.2.2.1
      · rw [c0 _ _ (by omega) (by omega) (by omega) (by omega)]
        exact hN.2.2.2.1
      · intro q hq
        rw [c2f]
        split
        · exact c2
        · exact hN.2.2.2.2.1 q hq
      · intro u q hu hq
        rw [c0 _ _ (by omega) (by omega) (by omega) (by omega), c0 _ _ (by omega) (by omega) (by omega) (by omega)]
        exact hN.2.2.2.2.2 u q hu hq
      · intro q hq hP
        obtain ⟨z1, z2, z3⟩ := hZ q hq (by omega)
        refine ⟨by rw [c2f, if_neg (by omega)]; exact z1, by rw [c0 _ _ (by omega) (by omega) (by omega) (by omega)]; exact z2, fun u hu => ?_⟩
        rw [c0 _ _ (by omega) (by omega) (by omega) (by omega), c0 _ _ (by omega) (by omega) (by omega) (by omega)]
        exact z3 u hu
      · intro q hq
        rw [c0 _ _ (by omega) (by omega) (by omega) (by omega)]
        exact hTg q hq
      · rw [m16 _ (by decide) (by decide) (by decide)]
        exact hM.1
      · rw [m16 _ (by decide) (by decide) (by decide)]
        exact hM.2.1
      · intro q hq
        rw [m17, c2f]
        split
        · rfl
        · exact hM.2.2.1 q hq
      · intro q hq
        rw [m0 _ _ (by decide) (by decide), c0 _ _ (by omega) (by omega) (by omega) (by omega)]
        exact hM.2.2.2.1 q hq
      · intro u q hu hq
        rw [m0 _ _ (by decide) (by decide), c0 _ _ (by omega) (by omega) (by omega) (by omega), m0 _ _ (by decide) (by decide), c0 _ _ (by omega) (by omega) (by omega) (by omega)]
        exact hM.2.2.2.2 u q hu hq
      · rw [cl _ _ (by decide), updS_ne _ _ _ _ (by decide), disS_22]
      · rw [hτ, updS_ne _ _ _ _ (by decide), mdS_7]
      · rw [cl _ _ (by decide), updS_ne _ _ _ _ (by decide), disS_128]
      · rw [hτ, updS_ne _ _ _ _ (by decide), mdS_15]
theorem fin_want {μ σ : St} {P T : Nat} {a n : Int} {r : Option Value} (hG : GG μ P T) (hw : wn2 (fun μ2 => ¬ (0 ≤ a ∧ a < P) ∧ μ2 = μ) (fun μ2 => (0 ≤ a ∧ a < P) ∧ ¬ (0 ≤ n ∧ n ≤ 99) ∧ μ2 = μ) (fun μ2 => (0 ≤ a ∧ a < P) ∧ (0 ≤ n ∧ n ≤ 99) ∧ μ2 = updS μ 21 a n) r σ) :
    OUTn μ σ r (fun τ => (¬ (0 ≤ a ∧ a < P) ∧ τ = updS σ 216 0 1) ∨ ((0 ≤ a ∧ a < P) ∧ ¬ (0 ≤ n ∧ n ≤ 99) ∧ τ = updS σ 216 0 2) ∨ ((0 ≤ a ∧ a < P) ∧ (0 ≤ n ∧ n ≤ 99) ∧ τ = updS (updS σ 216 0 0) 218 a n)) := by
  rcases hw with ⟨hr, c1, hσ⟩ | ⟨hr, ⟨c1, c2, hσ⟩⟩ | ⟨hr, c1, c2, hσ⟩
  · refine ⟨1, hr, ⟨by decide, by decide⟩, fun x _ _ => by rw [hσ], fun τ hm => ?_⟩
    rcases hm with ⟨d1, hτ⟩ | ⟨d1, d2, hτ⟩ | ⟨d1, d2, hτ⟩
    · exact ⟨by rw [hτ, updS_self], P, T, GG_q hG (fun x _ => by rw [hσ]) hτ⟩
    · omega
    · omega
  · refine ⟨2, hr, ⟨by decide, by decide⟩, fun x _ _ => by rw [hσ], fun τ hm => ?_⟩
    rcases hm with ⟨d1, hτ⟩ | ⟨d1, d2, hτ⟩ | ⟨d1, d2, hτ⟩
    · omega
    · exact ⟨by rw [hτ, updS_self], P, T, GG_q hG (fun x _ => by rw [hσ]) hτ⟩
    · omega
  · have e : ∀ x, 216 ≤ x → x ≠ 232 → σ x = μ x := fun x h1 h2 => by rw [hσ, ufn (by omega)]
    refine ⟨0, hr, ⟨by decide, by decide⟩, e, fun τ hm => ?_⟩
    rcases hm with ⟨d1, hτ⟩ | ⟨d1, d2, hτ⟩ | ⟨d1, d2, hτ⟩
    · omega
    · omega
    · obtain ⟨hN, hZ, hTg, hM, hTr, hGr⟩ := hG
      have h6 := hN.1
      have fn : ∀ x, x ≠ 21 → x ≠ 216 → x ≠ 218 → τ x = μ x := fun x h1 h2 h3 => by rw [hτ, ufn h3, ufn h2, hσ, ufn h1]
      have f16 : ∀ j, j ≠ 0 → τ 216 j = μ 216 j := fun j hj => by rw [hτ, updS_ne _ _ _ _ (by decide), updS_nk _ _ _ _ hj, hσ, updS_ne _ _ _ _ (by decide)]
      have c21 : ∀ j, τ 21 j = if j = a then n else μ 21 j := by
        intro j
        rw [hτ, updS_ne _ _ _ _ (by decide), updS_ne _ _ _ _ (by decide), hσ, updS_ap]
        by_cases h : j = a
        · rw [if_pos ⟨rfl, h⟩, if_pos h]
        · rw [if_neg (fun z => h z.2), if_neg h]
      have m18 : ∀ j, τ 218 j = if j = a then n else μ 218 j := by
        intro j
        rw [hτ, updS_ap]
        by_cases h : j = a
        · rw [if_pos ⟨rfl, h⟩, if_pos h]
        · rw [if_neg (fun z => h z.2), if_neg h, updS_ne _ _ _ _ (by decide), hσ, updS_ne _ _ _ _ (by decide)]
      refine ⟨by rw [hτ, updS_ne _ _ _ _ (by decide), updS_self], P, T, ⟨hN.1, hN.2.1, ?_, ?_, ?_, ?_⟩, ?_, ?_, ⟨?_, ?_, ?_, ?_, ?_⟩, ?_, ?_⟩
      · rw [fn 1 (by decide) (by decide) (by decide)]
        exact hN.2.2.1
      · rw [fn 1 (by decide) (by decide) (by decide)]
        exact hN.2.2.2.1
      · intro q hq
        rw [fn 2 (by decide) (by decide) (by decide)]
        exact hN.2.2.2.2.1 q hq
      · intro u q hu hq
        rw [fn (4 + u) (by omega) (by omega) (by omega), fn (13 + u) (by omega) (by omega) (by omega)]
        exact hN.2.2.2.2.2 u q hu hq
      · intro q hq hP
        obtain ⟨z1, z2, z3⟩ := hZ q hq hP
        refine ⟨by rw [fn 2 (by decide) (by decide) (by decide)]; exact z1, by rw [c21, if_neg (by omega)]; exact z2, fun u hu => ?_⟩
        rw [fn (4 + u) (by omega) (by omega) (by omega), fn (13 + u) (by omega) (by omega) (by omega)]
        exact z3 u hu
      · intro q hq
        rw [c21]
        split
        · exact c2
        · exact hTg q hq
      · rw [f16 _ (by decide)]
        exact hM.1
      · rw [f16 _ (by decide)]
        exact hM.2.1
      · intro q hq
        rw [fn 217 (by decide) (by decide) (by decide), fn 2 (by decide) (by decide) (by decide)]
        exact hM.2.2.1 q hq
      · intro q hq
        rw [m18, c21]
        split
        · rfl
        · exact hM.2.2.2.1 q hq
      · intro u q hu hq
        rw [fn 219 (by decide) (by decide) (by decide), fn 220 (by decide) (by decide) (by decide), fn (4 + u) (by omega) (by omega) (by omega), fn (13 + u) (by omega) (by omega) (by omega)]
        exact hM.2.2.2.2 u q hu hq
      · exact TREE_fr hTr (fun x h1 h2 => fn x (by omega) (by omega) (by omega)) (fun x h1 h2 h3 => fn x (by omega) (by omega) (by omega)) (f16 _ (by decide)) (f16 _ (by decide)) (f16 _ (by decide))
      · exact GRAPH_fr hGr (fun x h1 h2 => fn x (by omega) (by omega) (by omega)) (fun x h1 h2 => fn x (by omega) (by omega) (by omega)) (f16 _ (by decide))

