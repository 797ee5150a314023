theorem fiX4_live_X4 : ∀ w ∈ u_ws RX4 TX4 22, w ∈ wsX4_live := by decide +kernel
theorem flX4_live_63 : Cond.fieldLink RX4 63 RX4 (TX4 0).2.1 (TX4 0).2.2.1 ∈ wsX4_live := by decide +kernel
theorem flX4_live_69 : Cond.fieldLink RX4 69 RX4 (TX4 2).2.1 (TX4 2).2.2.1 ∈ wsX4_live := by decide +kernel
theorem flX4_live_42 : Cond.fieldLink RX4 42 RX4 (TX4 15).2.1 (TX4 15).2.2.1 ∈ wsX4_live := by decide +kernel
theorem flX4_live_48 : Cond.fieldLink RX4 48 RX4 (TX4 17).2.1 (TX4 17).2.2.1 ∈ wsX4_live := by decide +kernel
theorem flX4_live_57 : Cond.fieldLink RX4 57 RX4 (TX4 20).2.1 (TX4 20).2.2.1 ∈ wsX4_live := by decide +kernel
def RcM (μ : St) (g T t i : Nat) : Prop := ∀ S : Nat → Prop, (∀ k : Nat, k < g → 0 ≤ μ 227 (iy k t) → S k) → (∀ k u j : Nat, k < g → u < T → j < g → μ 227 (iy k u) = j → S j → S k) → S i
def nxM (μ : St) (g T : Nat) : Prop := ∀ k u : Nat, k < g → u < T → μ 227 (iy k u) = -1 ∨ ∃ j : Nat, j < g ∧ μ 227 (iy k u) = j
/- the array of what can, among g states -/
def cnV (μ : St) (g T t : Nat) (κ : St) : Prop := (∀ x j, x ≠ 230 → κ x j = μ x j) ∧ (∀ k : Nat, k < g → κ 230 k = 0 ∨ κ 230 k = 1) ∧ (∀ k : Nat, k < g → 0 ≤ μ 227 (iy k t) → κ 230 k = 1) ∧ ∀ k : Nat, k < g → κ 230 k = 1 → RcM μ g T t k
def cnC (κ : St) (g : Nat) : Nat := cnB (fun k => decide (κ 230 k = 1)) g
/- a round begun at ω, the states from k on are through; c9: something has changed -/
def cnW (μ : St) (g T t : Nat) (ω : St) (k : Nat) (c9 : Int) (κ : St) : Prop := cnV μ g T t κ ∧ (∀ j : Nat, j < g → ω 230 j = 1 → κ 230 j = 1) ∧
  ((c9 = 1 ∧ cnC ω g + 1 ≤ cnC κ g) ∨ (c9 = 0 ∧ (∀ j : Nat, j < g → κ 230 j = ω 230 j) ∧ ∀ i u j : Nat, k ≤ i → i < g → u < T → j < g → μ 227 (iy i u) = j → κ 230 j = 1 → κ 230 i = 1))
theorem cnC_lt {ω κ : St} {g : Nat} (h : ∀ j : Nat, j < g → ω 230 j = 1 → κ 230 j = 1) (hx : ∃ j : Nat, j < g ∧ ¬ ω 230 j = 1 ∧ κ 230 j = 1) : cnC ω g + 1 ≤ cnC κ g := by
  refine cnB_lt g (fun k hk hb => ?_) ?_
  · have := h k hk (by simpa using hb)
    simpa using this
  · obtain ⟨j, hj, h1, h2⟩ := hx
    exact ⟨j, hj, by simpa using h1, by simpa using h2⟩
set_option maxHeartbeats 4000000 in
set_option maxRecDepth 100000 in
theorem m_live {l : Launch} (hlf : l.stackTraces = false) (D : va_G) (cy : Nat → ClassId) (B : Nat) {μ : St} {T : Nat} {t : Int} (ht : InR t) (hT : μ 216 2 = T) (h8 : T ≤ 8) (hs : μ 216 15 ≤ 40) (hnx : nxM μ (μ 216 15).toNat T) : PC l D cy B yX4_live wsX4_live (r0 1) [.ref (B + 216), iN t] μ (qv (fun v μ2 => (μ 216 15 < 0 ∧ μ2 = updS μ 216 0 1) ∨ (¬ μ 216 15 < 0 ∧ ¬ (0 ≤ t ∧ t < T) ∧ μ2 = updS μ 216 0 2) ∨ (¬ μ 216 15 < 0 ∧ (0 ≤ t ∧ t < T) ∧ (∀ x j, x ≠ 230 → μ2 x j = updS μ 216 0 0 x j) ∧ (v = 0 ∨ v = 1) ∧ (v = 1 ↔ ∀ i : Nat, i < (μ 216 15).toNat → RcM μ (μ 216 15).toNat T t.toNat i)))) noX := by
  refine PC.pre (fun hR => ?_)
  refine q_start (cc := cX4_live) (maxL := 6) (ret := (some .boolean)) hlf (by decide +kernel) rfl (by simp [Value.category]) (Nat.le_of_ble_eq_true rfl) ?_
  intro p e s m args below meth c C hret hno
  show PW p l e (r0 1) s m args below meth c D cy B 6 0 0 _ 0 [some (.ref (B + 216)), some (iN t), none, none, none, none] [] μ
  have hRo := hR
  have MAIN : ¬ μ 216 15 < 0 → (0 ≤ t ∧ t < T) → PW p l e (r0 1) s m args below meth c D cy B 6 0 0 (vx_MQ below (Qp D cy B (qv (fun v μ2 => (μ 216 15 < 0 ∧ μ2 = updS μ 216 0 1) ∨ (¬ μ 216 15 < 0 ∧ ¬ (0 ≤ t ∧ t < T) ∧ μ2 = updS μ 216 0 2) ∨ (¬ μ 216 15 < 0 ∧ (0 ≤ t ∧ t < T) ∧ (∀ x j, x ≠ 230 → μ2 x j = updS μ 216 0 0 x j) ∧ (v = 0 ∨ v = 1) ∧ (v = 1 ↔ ∀ i : Nat, i < (μ 216 15).toNat → RcM μ (μ 216 15).toNat T t.toNat i))))) (Xp D cy B noX) args s (r0 1).cells (r0 1).slots (fun q => B ≤ q)) 37 [some (.ref (B + 216)), some (iN t), none, none, none, none] [] (updS μ 216 0 0) := by
    intro hnn htr
    obtain ⟨g, hg9⟩ : ∃ g : Nat, μ 216 15 = g := ⟨(μ 216 15).toNat, by omega⟩
    have hgn : (μ 216 15).toNat = g := by omega
    have hg40 : g ≤ 40 := by omega
    rw [hgn] at hnx
    obtain ⟨t9, ht9⟩ : ∃ t9 : Nat, t = t9 := ⟨t.toNat, by omega⟩
    have htn : t.toNat = t9 := by omega
    obtain ⟨ν, hν⟩ : ∃ ν : St, ν = updS μ 216 0 0 := ⟨_, rfl⟩
    refine q_mu hν.symm ?_
    have w227 : ∀ k, ν 227 k = μ 227 k := fun k => by rw [hν, updS_ne _ _ _ _ (by decide)]
    have w15 : ν 216 15 = g := by rw [hν, updS_nk _ _ _ _ (by decide), hg9]
    have w2 : ν 216 2 = T := by rw [hν, updS_nk _ _ _ _ (by decide), hT]
    have RW : ∀ i, RcM ν g T t9 i ↔ RcM μ g T t9 i := by
      intro i
      have e : ν 227 = μ 227 := funext w227
      unfold RcM
      rw [e]
    have END : ∀ κ : St, cnV ν g T t9 κ → (∀ i u j : Nat, i < g → u < T → j < g → ν 227 (iy i u) = j → κ 230 j = 1 → κ 230 i = 1) → PW p l e (r0 1) s m args below meth c D cy B 6 0 0 (vx_MQ below (Qp D cy B (qv (fun v μ2 => (μ 216 15 < 0 ∧ μ2 = updS μ 216 0 1) ∨ (¬ μ 216 15 < 0 ∧ ¬ (0 ≤ t ∧ t < T) ∧ μ2 = updS μ 216 0 2) ∨ (¬ μ 216 15 < 0 ∧ (0 ≤ t ∧ t < T) ∧ (∀ x j, x ≠ 230 → μ2 x j = updS μ 216 0 0 x j) ∧ (v = 0 ∨ v = 1) ∧ (v = 1 ↔ ∀ i : Nat, i < (μ 216 15).toNat → RcM μ (μ 216 15).toNat T t.toNat i))))) (Xp D cy B noX) args s (r0 1).cells (r0 1).slots (fun q => B ≤ q)) 171 [some (.ref (B + 216)), some (iN t), none, none, none, none] [] κ := by
      intro κ hV hcl
      obtain ⟨v1, v2, v3, v4⟩ := hV
      have hall : (∀ i : Nat, i < g → κ 230 i = 1) ↔ ∀ i : Nat, i < g → RcM ν g T t9 i := by
        constructor
        · exact fun z i hi => v4 i hi (z i hi)
        · exact fun z i hi => z i hi (fun k => κ 230 k = 1) (fun k hk h1 => v3 k hk h1) (fun k u j hk hu hj e1 h1 => hcl k u j hk hu hj e1 h1)
      have k15 : κ 216 15 = g := by rw [v1 _ _ (by decide), w15]
      have E2 : ∀ i : Nat, i ≤ g → PW p l e (r0 1) s m args below meth c D cy B 6 0 0 (vx_MQ below (Qp D cy B (qv (fun v μ2 => (μ 216 15 < 0 ∧ μ2 = updS μ 216 0 1) ∨ (¬ μ 216 15 < 0 ∧ ¬ (0 ≤ t ∧ t < T) ∧ μ2 = updS μ 216 0 2) ∨ (¬ μ 216 15 < 0 ∧ (0 ≤ t ∧ t < T) ∧ (∀ x j, x ≠ 230 → μ2 x j = updS μ 216 0 0 x j) ∧ (v = 0 ∨ v = 1) ∧ (v = 1 ↔ ∀ i : Nat, i < (μ 216 15).toNat → RcM μ (μ 216 15).toNat T t.toNat i))))) (Xp D cy B noX) args s (r0 1).cells (r0 1).slots (fun q => B ≤ q)) 176 [some (.ref (B + 216)), some (iN t), none, some (iN (bI (∀ j : Nat, j < i → κ 230 j = 1))), some (iN i), none] [] κ := by
        refine up_to g _ (fun i hi ih => ?_)
        have hz := bI_01 (∀ j : Nat, j < i → κ 230 j = 1)
        have J2 : ∀ b : Int, b = bI (∀ j : Nat, j < i + 1 → κ 230 j = 1) → i < g → PW p l e (r0 1) s m args below meth c D cy B 6 0 0 (vx_MQ below (Qp D cy B (qv (fun v μ2 => (μ 216 15 < 0 ∧ μ2 = updS μ 216 0 1) ∨ (¬ μ 216 15 < 0 ∧ ¬ (0 ≤ t ∧ t < T) ∧ μ2 = updS μ 216 0 2) ∨ (¬ μ 216 15 < 0 ∧ (0 ≤ t ∧ t < T) ∧ (∀ x j, x ≠ 230 → μ2 x j = updS μ 216 0 0 x j) ∧ (v = 0 ∨ v = 1) ∧ (v = 1 ↔ ∀ i : Nat, i < (μ 216 15).toNat → RcM μ (μ 216 15).toNat T t.toNat i))))) (Xp D cy B noX) args s (r0 1).cells (r0 1).slots (fun q => B ≤ q)) 204 [some (.ref (B + 216)), some (iN t), none, some (iN (bI (∀ j : Nat, j < i → κ 230 j = 1))), some (iN i), none] [iN b] κ := by
          intro b hb hig
          rw [hb]
          refine q_istore_n (pc := 204) (lv2 := [_, _, _, _, _, _]) C dX4_live_204 rfl (by decide) rfl ?_
          refine q_iinc (pc := 205) (lv2 := [_, _, _, _, _, _]) C dX4_live_205 (by decide) rfl rfl ?_
          refine q_goto (pc := 208) (tgt := 176) C dX4_live_208 (by decide) ?_
          exact ih hig
        refine q_rng (fun hR => ?_)
        refine q_iload (pc := 176) C dX4_live_176 rfl ?_
        refine q_aload_n (pc := 178) C dX4_live_178 rfl rfl ?_
        refine q_getI (pc := 179) (ci := 4) (k := 15) (ki := 15) C rfl rfl fiX4_live_X4 (by decide) k216 (by decide) rfl (by decide) flX4_live_42 rfl rfl dX4_live_179 ?_
        refine q_icmp_ge (pc := 182) (tgt := 211) C (by first | exact hR _ _ | exact hRo _ _ | assumption | exact r_bI _ | exact ⟨by omega, by omega⟩) (by first | exact hR _ _ | exact hRo _ _ | assumption | exact r_bI _ | exact ⟨by omega, by omega⟩) dX4_live_182 (by decide) (fun hc => ?_) (fun hc => ?_)
        · have e : i = g := by omega
          refine q_iload_n (pc := 211) C dX4_live_211 rfl rfl ?_
          exact q_zret (pc := 212) C hret (by first | exact Or.inl rfl | exact Or.inr rfl | assumption) ⟨_, r_bI _, rfl, Or.inr (Or.inr ⟨hnn, htr, fun x j hx => by rw [v1 x j hx, hν], hz, by rw [bI_1, e, hall, hgn, htn]; exact ⟨fun z i hi => (RW i).mp (z i hi), fun z i hi => (RW i).mpr (z i hi)⟩⟩)⟩ (by decide) (by decide) dX4_live_212
        · refine q_iload_n (pc := 185) C dX4_live_185 rfl rfl ?_
          refine q_if_eq (pc := 186) (tgt := 203) C (by first | exact hR _ _ | exact hRo _ _ | assumption | exact r_bI _ | exact ⟨by omega, by omega⟩) dX4_live_186 (by decide) (fun he => ?_) (fun he => ?_)
          · refine q_iconst (pc := 203) C dX4_live_203 ?_
            have hno := bI_0.mp he
            exact J2 0 (bI_f (fun z => hno (fun j hj => z j (by omega)))).symm (by omega)
          · have hyes := bI_1.mp (show bI (∀ j : Nat, j < i → κ 230 j = 1) = 1 by omega)
            have hvi := v2 i (by omega)
            refine q_aload_n (pc := 189) C dX4_live_189 rfl rfl ?_
            refine q_getR (pc := 190) (ci := 4) (k := 20) (r := 230) C rfl fiX4_live_X4 (by decide) k216 (by decide) rfl (by decide) flX4_live_57 rfl rfl dX4_live_190 ?_
            refine q_iload (pc := 193) C dX4_live_193 rfl ?_
            refine q_baload (pc := 195) C k230 n230 (by decide) (by decide) (by omega) (by omega) dX4_live_195 ?_
            refine q_if_eq (pc := 196) (tgt := 203) C (by first | exact hR _ _ | exact hRo _ _ | assumption | exact r_bI _ | exact ⟨by omega, by omega⟩) dX4_live_196 (by decide) (fun hf => ?_) (fun hf => ?_)
            · refine q_iconst (pc := 203) C dX4_live_203 ?_
              exact J2 0 (bI_f (fun z => by have := z i (by omega); omega)).symm (by omega)
            · refine q_iconst (pc := 199) C dX4_live_199 ?_
              refine q_goto (pc := 200) (tgt := 204) C dX4_live_200 (by decide) ?_
              refine J2 1 (bI_t (fun j hj => ?_)).symm (by omega)
              by_cases e : j = i
              · subst e; omega
              · exact hyes j (by omega)
      have I0 := E2 0 (by omega)
      rw [show bI (∀ j : Nat, j < 0 → κ 230 j = 1) = 1 from bI_t (fun j hj => absurd hj (by omega))] at I0
      refine q_iconst (pc := 171) C dX4_live_171 ?_
      refine q_istore_n (pc := 172) (lv2 := [_, _, _, _, _, _]) C dX4_live_172 rfl (by decide) rfl ?_
      refine q_iconst (pc := 173) C dX4_live_173 ?_
      refine q_istore (pc := 174) (lv2 := [_, _, _, _, _, _]) C dX4_live_174 (by decide) rfl ?_
      exact I0
    have WH : ∀ (b9 : Nat) (κ : St) (c9 : Int), cnV ν g T t9 κ → g ≤ cnC κ g + b9 → c9 = 1 → PW p l e (r0 1) s m args below meth c D cy B 6 0 0 (vx_MQ below (Qp D cy B (qv (fun v μ2 => (μ 216 15 < 0 ∧ μ2 = updS μ 216 0 1) ∨ (¬ μ 216 15 < 0 ∧ ¬ (0 ≤ t ∧ t < T) ∧ μ2 = updS μ 216 0 2) ∨ (¬ μ 216 15 < 0 ∧ (0 ≤ t ∧ t < T) ∧ (∀ x j, x ≠ 230 → μ2 x j = updS μ 216 0 0 x j) ∧ (v = 0 ∨ v = 1) ∧ (v = 1 ↔ ∀ i : Nat, i < (μ 216 15).toNat → RcM μ (μ 216 15).toNat T t.toNat i))))) (Xp D cy B noX) args s (r0 1).cells (r0 1).slots (fun q => B ≤ q)) 80 [some (.ref (B + 216)), some (iN t), some (iN c9), none, none, none] [] κ := by
      intro b9
      induction b9 with
      | zero =>
        intro κ c9 hV hb hc9
        subst hc9
        obtain ⟨v1, v2, v3, v4⟩ := id hV
        have hfull : ∀ k : Nat, k < g → κ 230 k = 1 := fun k hk => by
          have := cnB_full (p := fun k => decide (κ 230 k = 1)) g (by unfold cnC at hb; omega) k hk
          simpa using this
        have RND : ∀ (i : Nat) (k9 : Int), i ≤ g → k9 = (i : Int) - 1 → PW p l e (r0 1) s m args below meth c D cy B 6 0 0 (vx_MQ below (Qp D cy B (qv (fun v μ2 => (μ 216 15 < 0 ∧ μ2 = updS μ 216 0 1) ∨ (¬ μ 216 15 < 0 ∧ ¬ (0 ≤ t ∧ t < T) ∧ μ2 = updS μ 216 0 2) ∨ (¬ μ 216 15 < 0 ∧ (0 ≤ t ∧ t < T) ∧ (∀ x j, x ≠ 230 → μ2 x j = updS μ 216 0 0 x j) ∧ (v = 0 ∨ v = 1) ∧ (v = 1 ↔ ∀ i : Nat, i < (μ 216 15).toNat → RcM μ (μ 216 15).toNat T t.toNat i))))) (Xp D cy B noX) args s (r0 1).cells (r0 1).slots (fun q => B ≤ q)) 93 [some (.ref (B + 216)), some (iN t), some (iN 0), some (iN k9), none, none] [] κ := by
          intro i
          induction i with
          | zero =>
            intro k9 hi hk9
            refine q_rng (fun hR => ?_)
            refine q_iload_n (pc := 93) C dX4_live_93 rfl rfl ?_
            refine q_if_lt (pc := 94) (tgt := 168) C (by first | exact hR _ _ | exact hRo _ _ | assumption | exact r_bI _ | exact ⟨by omega, by omega⟩) dX4_live_94 (by decide) (fun hq => ?_) (fun hq => ?_)
            · refine q_goto (pc := 168) (tgt := 80) C dX4_live_168 (by decide) ?_
              refine q_drop 3 (lv2 := [_, _, _, none, _, _]) rfl ?_
              refine q_iload_n (pc := 80) C dX4_live_80 rfl rfl ?_
              refine q_if_eq (pc := 81) (tgt := 171) C (by first | exact hR _ _ | exact hRo _ _ | assumption | exact r_bI _ | exact ⟨by omega, by omega⟩) dX4_live_81 (by decide) (fun hq2 => ?_) (fun hq2 => ?_)
              · refine q_drop 2 (lv2 := [_, _, none, _, _, _]) rfl ?_
                exact END κ hV (fun i u j hi hu hj e1 h1 => hfull i hi)
              · exact absurd rfl hq2
            · exact absurd (show k9 < 0 by omega) hq
          | succ i ihi =>
            intro k9 hi hk9
            have hk9' : k9 = ((i : Nat) : Int) := by omega
            subst hk9'
            have k2 : κ 216 2 = T := by rw [v1 _ _ (by decide), w2]
            refine q_rng (fun hR => ?_)
            have TL : PW p l e (r0 1) s m args below meth c D cy B 6 0 0 (vx_MQ below (Qp D cy B (qv (fun v μ2 => (μ 216 15 < 0 ∧ μ2 = updS μ 216 0 1) ∨ (¬ μ 216 15 < 0 ∧ ¬ (0 ≤ t ∧ t < T) ∧ μ2 = updS μ 216 0 2) ∨ (¬ μ 216 15 < 0 ∧ (0 ≤ t ∧ t < T) ∧ (∀ x j, x ≠ 230 → μ2 x j = updS μ 216 0 0 x j) ∧ (v = 0 ∨ v = 1) ∧ (v = 1 ↔ ∀ i : Nat, i < (μ 216 15).toNat → RcM μ (μ 216 15).toNat T t.toNat i))))) (Xp D cy B noX) args s (r0 1).cells (r0 1).slots (fun q => B ≤ q)) 162 [some (.ref (B + 216)), some (iN t), some (iN 0), some (iN i), some (iN 0), none] [] κ := by
              refine q_iinc (pc := 162) (lv2 := [_, _, _, _, _, _]) C dX4_live_162 (by decide) rfl rfl ?_
              refine q_goto (pc := 165) (tgt := 93) C dX4_live_165 (by decide) ?_
              refine q_drop 4 (lv2 := [_, _, _, _, none, _]) rfl ?_
              rw [show ((i : Nat) : Int) + -1 = (i : Int) - 1 by omega]
              exact ihi _ (by omega) rfl
            refine q_iload_n (pc := 93) C dX4_live_93 rfl rfl ?_
            refine q_if_lt (pc := 94) (tgt := 168) C (by first | exact hR _ _ | exact hRo _ _ | assumption | exact r_bI _ | exact ⟨by omega, by omega⟩) dX4_live_94 (by decide) (fun hq => ?_) (fun hq => ?_)
            · exact absurd hq (by omega)
            · refine q_iconst (pc := 97) C dX4_live_97 ?_
              refine q_istore (pc := 98) (lv2 := [_, _, _, _, _, _]) C dX4_live_98 (by decide) rfl ?_
              refine q_iload (pc := 100) C dX4_live_100 rfl ?_
              refine q_aload_n (pc := 102) C dX4_live_102 rfl rfl ?_
              refine q_getI (pc := 103) (ci := 4) (k := 2) (ki := 2) C rfl rfl fiX4_live_X4 (by decide) k216 (by decide) rfl (by decide) flX4_live_69 rfl rfl dX4_live_103 ?_
              refine q_icmp_ge (pc := 106) (tgt := 162) C (by first | exact hR _ _ | exact hRo _ _ | assumption | exact r_bI _ | exact ⟨by omega, by omega⟩) (by first | exact hR _ _ | exact hRo _ _ | assumption | exact r_bI _ | exact ⟨by omega, by omega⟩) dX4_live_106 (by decide) (fun hq3 => ?_) (fun hq3 => ?_)
              · exact TL
              · refine q_aload_n (pc := 109) C dX4_live_109 rfl rfl ?_
                refine q_getR (pc := 110) (ci := 4) (k := 20) (r := 230) C rfl fiX4_live_X4 (by decide) k216 (by decide) rfl (by decide) flX4_live_57 rfl rfl dX4_live_110 ?_
                refine q_iload_n (pc := 113) C dX4_live_113 rfl rfl ?_
                refine q_baload (pc := 114) C k230 n230 (by decide) (by decide) (by omega) (by omega) dX4_live_114 ?_
                rw [hfull i (by omega)]
                refine q_if_ne (pc := 115) (tgt := 162) C (by first | exact hR _ _ | exact hRo _ _ | assumption | exact r_bI _ | exact ⟨by omega, by omega⟩) dX4_live_115 (by decide) (fun hq4 => ?_) (fun hq4 => ?_)
                · exact TL
                · exact absurd (show ¬ (1 : Int) = 0 by decide) (fun z => z hq4)
        have k15 : κ 216 15 = g := by rw [v1 _ _ (by decide), w15]
        refine q_rng (fun hR => ?_)
        refine q_iload_n (pc := 80) C dX4_live_80 rfl rfl ?_
        refine q_if_eq (pc := 81) (tgt := 171) C (by first | exact hR _ _ | exact hRo _ _ | assumption | exact r_bI _ | exact ⟨by omega, by omega⟩) dX4_live_81 (by decide) (fun hq => ?_) (fun hq => ?_)
        · exact absurd hq (by decide)
        · refine q_iconst (pc := 84) C dX4_live_84 ?_
          refine q_istore_n (pc := 85) (lv2 := [_, _, _, _, _, _]) C dX4_live_85 rfl (by decide) rfl ?_
          refine q_aload_n (pc := 86) C dX4_live_86 rfl rfl ?_
          refine q_getI (pc := 87) (ci := 4) (k := 15) (ki := 15) C rfl rfl fiX4_live_X4 (by decide) k216 (by decide) rfl (by decide) flX4_live_42 rfl rfl dX4_live_87 ?_
          rw [k15]
          refine q_iconst (pc := 90) C dX4_live_90 ?_
          refine q_isub (pc := 91) C dX4_live_91 ?_
          refine q_istore_n (pc := 92) (lv2 := [_, _, _, _, _, _]) C dX4_live_92 rfl (by decide) rfl ?_
          exact RND g _ (Nat.le_refl _) rfl
      | succ b9 ihb =>
        intro ω c9 hV0 hb hc9
        subst hc9
        have RND : ∀ (i : Nat) (κ : St) (m9 k9 : Int), i ≤ g → k9 = (i : Int) - 1 → cnW ν g T t9 ω i m9 κ → PW p l e (r0 1) s m args below meth c D cy B 6 0 0 (vx_MQ below (Qp D cy B (qv (fun v μ2 => (μ 216 15 < 0 ∧ μ2 = updS μ 216 0 1) ∨ (¬ μ 216 15 < 0 ∧ ¬ (0 ≤ t ∧ t < T) ∧ μ2 = updS μ 216 0 2) ∨ (¬ μ 216 15 < 0 ∧ (0 ≤ t ∧ t < T) ∧ (∀ x j, x ≠ 230 → μ2 x j = updS μ 216 0 0 x j) ∧ (v = 0 ∨ v = 1) ∧ (v = 1 ↔ ∀ i : Nat, i < (μ 216 15).toNat → RcM μ (μ 216 15).toNat T t.toNat i))))) (Xp D cy B noX) args s (r0 1).cells (r0 1).slots (fun q => B ≤ q)) 93 [some (.ref (B + 216)), some (iN t), some (iN m9), some (iN k9), none, none] [] κ := by
          intro i
          induction i with
          | zero =>
            intro κ m9 k9 hi hk9 hW
            obtain ⟨hV, hmo, hcs⟩ := hW
            have hmr : InR m9 := by rcases hcs with ⟨z, -⟩ | ⟨z, -⟩ <;> rw [z] <;> exact ⟨by decide, by decide⟩
            refine q_rng (fun hR => ?_)
            refine q_iload_n (pc := 93) C dX4_live_93 rfl rfl ?_
            refine q_if_lt (pc := 94) (tgt := 168) C (by first | exact hR _ _ | exact hRo _ _ | assumption | exact r_bI _ | exact ⟨by omega, by omega⟩) dX4_live_94 (by decide) (fun hq => ?_) (fun hq => ?_)
            · refine q_goto (pc := 168) (tgt := 80) C dX4_live_168 (by decide) ?_
              refine q_drop 3 (lv2 := [_, _, _, none, _, _]) rfl ?_
              rcases hcs with ⟨z1, z2⟩ | ⟨z1, z2, z3⟩
              · exact ihb κ m9 hV (by omega) z1
              · subst z1
                refine q_iload_n (pc := 80) C dX4_live_80 rfl rfl ?_
                refine q_if_eq (pc := 81) (tgt := 171) C (by first | exact hR _ _ | exact hRo _ _ | assumption | exact r_bI _ | exact ⟨by omega, by omega⟩) dX4_live_81 (by decide) (fun hq2 => ?_) (fun hq2 => ?_)
                · refine q_drop 2 (lv2 := [_, _, none, _, _, _]) rfl ?_
                  exact END κ hV (fun i u j hi hu hj e1 h1 => z3 i u j (Nat.zero_le _) hi hu hj e1 h1)
                · exact absurd rfl hq2
            · exact absurd (show k9 < 0 by omega) hq
          | succ i ihi =>
            intro κ m9 k9 hi hk9 hW
            have hk9' : k9 = ((i : Nat) : Int) := by omega
            subst hk9'
            have TL : ∀ (κ2 : St) (m2 : Int) (u9 : Int), cnW ν g T t9 ω i m2 κ2 → PW p l e (r0 1) s m args below meth c D cy B 6 0 0 (vx_MQ below (Qp D cy B (qv (fun v μ2 => (μ 216 15 < 0 ∧ μ2 = updS μ 216 0 1) ∨ (¬ μ 216 15 < 0 ∧ ¬ (0 ≤ t ∧ t < T) ∧ μ2 = updS μ 216 0 2) ∨ (¬ μ 216 15 < 0 ∧ (0 ≤ t ∧ t < T) ∧ (∀ x j, x ≠ 230 → μ2 x j = updS μ 216 0 0 x j) ∧ (v = 0 ∨ v = 1) ∧ (v = 1 ↔ ∀ i : Nat, i < (μ 216 15).toNat → RcM μ (μ 216 15).toNat T t.toNat i))))) (Xp D cy B noX) args s (r0 1).cells (r0 1).slots (fun q => B ≤ q)) 162 [some (.ref (B + 216)), some (iN t), some (iN m2), some (iN i), some (iN u9), none] [] κ2 := by
              intro κ2 m2 u9 hW2
              refine q_iinc (pc := 162) (lv2 := [_, _, _, _, _, _]) C dX4_live_162 (by decide) rfl rfl ?_
              refine q_goto (pc := 165) (tgt := 93) C dX4_live_165 (by decide) ?_
              refine q_drop 4 (lv2 := [_, _, _, _, none, _]) rfl ?_
              rw [show ((i : Nat) : Int) + -1 = (i : Int) - 1 by omega]
              exact ihi κ2 m2 _ (by omega) rfl hW2
            have UI : ∀ u : Nat, u ≤ T → (∀ u2 j : Nat, u2 < u → j < g → ν 227 (iy i u2) = j → κ 230 j = 1 → κ 230 i = 1) → PW p l e (r0 1) s m args below meth c D cy B 6 0 0 (vx_MQ below (Qp D cy B (qv (fun v μ2 => (μ 216 15 < 0 ∧ μ2 = updS μ 216 0 1) ∨ (¬ μ 216 15 < 0 ∧ ¬ (0 ≤ t ∧ t < T) ∧ μ2 = updS μ 216 0 2) ∨ (¬ μ 216 15 < 0 ∧ (0 ≤ t ∧ t < T) ∧ (∀ x j, x ≠ 230 → μ2 x j = updS μ 216 0 0 x j) ∧ (v = 0 ∨ v = 1) ∧ (v = 1 ↔ ∀ i : Nat, i < (μ 216 15).toNat → RcM μ (μ 216 15).toNat T t.toNat i))))) (Xp D cy B noX) args s (r0 1).cells (r0 1).slots (fun q => B ≤ q)) 100 [some (.ref (B + 216)), some (iN t), some (iN m9), some (iN i), some (iN u), none] [] κ := by
              refine up_to T _ (fun u hu ihu => ?_)
              intro hcl
              obtain ⟨hV, hmo, hcs⟩ := id hW
              obtain ⟨v1, v2, v3, v4⟩ := id hV
              have hmr : InR m9 := by rcases hcs with ⟨z, -⟩ | ⟨z, -⟩ <;> rw [z] <;> exact ⟨by decide, by decide⟩
              have k2 : κ 216 2 = T := by rw [v1 _ _ (by decide), w2]
              have y227 : ∀ j, κ 227 j = ν 227 j := fun j => v1 227 j (by decide)
              have hvi := v2 i (by omega)
              have DONE : (κ 230 i = 1 ∨ u = T) → cnW ν g T t9 ω i m9 κ := by
                intro hd
                refine ⟨hV, hmo, ?_⟩
                rcases hcs with ⟨z1, z2⟩ | ⟨z1, z2, z3⟩
                · exact Or.inl ⟨z1, z2⟩
                · refine Or.inr ⟨z1, z2, fun i2 u2 j hi1 hi2 hu2 hj e1 h1 => ?_⟩
                  by_cases e : i2 = i
                  · subst e
                    rcases hd with y | y
                    · exact y
                    · exact hcl u2 j (by omega) hj e1 h1
                  · exact z3 i2 u2 j (by omega) hi2 hu2 hj e1 h1
              refine q_rng (fun hR => ?_)
              refine q_iload (pc := 100) C dX4_live_100 rfl ?_
              refine q_aload_n (pc := 102) C dX4_live_102 rfl rfl ?_
              refine q_getI (pc := 103) (ci := 4) (k := 2) (ki := 2) C rfl rfl fiX4_live_X4 (by decide) k216 (by decide) rfl (by decide) flX4_live_69 rfl rfl dX4_live_103 ?_
              refine q_icmp_ge (pc := 106) (tgt := 162) C (by first | exact hR _ _ | exact hRo _ _ | assumption | exact r_bI _ | exact ⟨by omega, by omega⟩) (by first | exact hR _ _ | exact hRo _ _ | assumption | exact r_bI _ | exact ⟨by omega, by omega⟩) dX4_live_106 (by decide) (fun hc => ?_) (fun hc => ?_)
              · exact TL κ m9 u (DONE (Or.inr (by omega)))
              · refine q_aload_n (pc := 109) C dX4_live_109 rfl rfl ?_
                refine q_getR (pc := 110) (ci := 4) (k := 20) (r := 230) C rfl fiX4_live_X4 (by decide) k216 (by decide) rfl (by decide) flX4_live_57 rfl rfl dX4_live_110 ?_
                refine q_iload_n (pc := 113) C dX4_live_113 rfl rfl ?_
                refine q_baload (pc := 114) C k230 n230 (by decide) (by decide) (by omega) (by omega) dX4_live_114 ?_
                refine q_if_ne (pc := 115) (tgt := 162) C (by first | exact hR _ _ | exact hRo _ _ | assumption | exact r_bI _ | exact ⟨by omega, by omega⟩) dX4_live_115 (by decide) (fun hd => ?_) (fun hd => ?_)
                · exact TL κ m9 u (DONE (Or.inl (by omega)))
                · have hi0 : κ 230 i = 0 := hd
                  have hnxi := hnx i u (by omega) (by omega)
                  rw [← w227] at hnxi
                  have STP : (∀ j : Nat, j < g → ν 227 (iy i u) = j → κ 230 j = 1 → κ 230 i = 1) → PW p l e (r0 1) s m args below meth c D cy B 6 0 0 (vx_MQ below (Qp D cy B (qv (fun v μ2 => (μ 216 15 < 0 ∧ μ2 = updS μ 216 0 1) ∨ (¬ μ 216 15 < 0 ∧ ¬ (0 ≤ t ∧ t < T) ∧ μ2 = updS μ 216 0 2) ∨ (¬ μ 216 15 < 0 ∧ (0 ≤ t ∧ t < T) ∧ (∀ x j, x ≠ 230 → μ2 x j = updS μ 216 0 0 x j) ∧ (v = 0 ∨ v = 1) ∧ (v = 1 ↔ ∀ i : Nat, i < (μ 216 15).toNat → RcM μ (μ 216 15).toNat T t.toNat i))))) (Xp D cy B noX) args s (r0 1).cells (r0 1).slots (fun q => B ≤ q)) 156 [some (.ref (B + 216)), some (iN t), some (iN m9), some (iN i), some (iN u), none] [] κ := by
                    intro hst
                    refine q_iinc (pc := 156) (lv2 := [_, _, _, _, _, _]) C dX4_live_156 (by decide) rfl rfl ?_
                    refine q_goto (pc := 159) (tgt := 100) C dX4_live_159 (by decide) ?_
                    refine ihu (by omega) (fun u2 j hu2 hj e1 h1 => ?_)
                    by_cases e : u2 = u
                    · subst e; exact hst j hj e1 h1
                    · exact hcl u2 j (by omega) hj e1 h1
                  have hr27 : InR (ν 227 (8 * (i : Int) + (u : Int))) := by rw [← y227]; exact hR _ _
                  refine q_aload_n (pc := 118) C dX4_live_118 rfl rfl ?_
                  refine q_getR (pc := 119) (ci := 4) (k := 17) (r := 227) C rfl fiX4_live_X4 (by decide) k216 (by decide) rfl (by decide) flX4_live_48 rfl rfl dX4_live_119 ?_
                  refine q_bipush (pc := 122) C (by decide +kernel) dX4_live_122 ?_
                  refine q_iload_n (pc := 124) C dX4_live_124 rfl rfl ?_
                  refine q_imul (pc := 125) C dX4_live_125 ?_
                  refine q_iload (pc := 126) C dX4_live_126 rfl ?_
                  refine q_iadd (pc := 128) C dX4_live_128 ?_
                  refine q_iaload (pc := 129) C k227 n227 (by decide) (by decide) (by omega) (by omega) dX4_live_129 ?_
                  rw [y227]
                  refine q_istore (pc := 130) (lv2 := [_, _, _, _, _, _]) C dX4_live_130 (by decide) rfl ?_
                  refine q_iload (pc := 132) C dX4_live_132 rfl ?_
                  refine q_if_lt (pc := 134) (tgt := 156) C (by first | exact hR _ _ | exact hRo _ _ | assumption | exact r_bI _ | exact ⟨by omega, by omega⟩) dX4_live_134 (by decide) (fun he => ?_) (fun he => ?_)
                  · refine q_drop 5 (lv2 := [_, _, _, _, _, none]) rfl ?_
                    exact STP (fun j hj e1 h1 => by have e2 : ν 227 (8 * (i : Int) + (u : Int)) = j := e1; omega)
                  · obtain ⟨j, hj, hj2⟩ : ∃ j : Nat, j < g ∧ ν 227 (iy i u) = j := by
                      rcases hnxi with z | z
                      · exact absurd he (by have e2 : ν 227 (8 * (i : Int) + (u : Int)) = -1 := z; omega)
                      · exact z
                    have hj3 : ν 227 (8 * (i : Int) + (u : Int)) = j := hj2
                    rw [hj3]
                    have hvj := v2 j hj
                    refine q_aload_n (pc := 137) C dX4_live_137 rfl rfl ?_
                    refine q_getR (pc := 138) (ci := 4) (k := 20) (r := 230) C rfl fiX4_live_X4 (by decide) k216 (by decide) rfl (by decide) flX4_live_57 rfl rfl dX4_live_138 ?_
                    refine q_iload (pc := 141) C dX4_live_141 rfl ?_
                    refine q_baload (pc := 143) C k230 n230 (by decide) (by decide) (by omega) (by omega) dX4_live_143 ?_
                    refine q_if_eq (pc := 144) (tgt := 156) C (by first | exact hR _ _ | exact hRo _ _ | assumption | exact r_bI _ | exact ⟨by omega, by omega⟩) dX4_live_144 (by decide) (fun hf => ?_) (fun hf => ?_)
                    · refine q_drop 5 (lv2 := [_, _, _, _, _, none]) rfl ?_
                      exact STP (fun j2 hj4 e1 h1 => by rw [hj2] at e1; have e2 : j2 = j := (by omega); subst e2; omega)
                    · have hj1 : κ 230 j = 1 := by omega
                      refine q_aload_n (pc := 147) C dX4_live_147 rfl rfl ?_
                      refine q_getR (pc := 148) (ci := 4) (k := 20) (r := 230) C rfl fiX4_live_X4 (by decide) k216 (by decide) rfl (by decide) flX4_live_57 rfl rfl dX4_live_148 ?_
                      refine q_iload_n (pc := 151) C dX4_live_151 rfl rfl ?_
                      refine q_iconst (pc := 152) C dX4_live_152 ?_
                      refine q_bastore (pc := 153) C k230 n230 (by decide) (by decide) (by omega) (by omega) (by first | exact hR _ _ | exact hRo _ _ | assumption | exact r_bI _ | exact ⟨by omega, by omega⟩) (by first | exact Or.inl rfl | exact Or.inr rfl | assumption) dX4_live_153 ?_
                      refine q_mu (μ2 := updS κ 230 i 1) rfl ?_
                      obtain ⟨κ2, hκ2⟩ : ∃ κ2 : St, κ2 = updS κ 230 i 1 := ⟨_, rfl⟩
                      refine q_mu hκ2.symm ?_
                      have kk : ∀ k : Nat, κ2 230 k = if k = i then 1 else κ 230 k := by
                        intro k
                        rw [hκ2, updS_ap]
                        by_cases e : k = i
                        · subst e
                          rw [if_pos ⟨rfl, rfl⟩, if_pos rfl]
                        · rw [if_neg (by omega), if_neg e]
                      have hmo2 : ∀ k : Nat, k < g → ω 230 k = 1 → κ2 230 k = 1 := by
                        intro k hk h1
                        rw [kk]
                        split
                        · rfl
                        · exact hmo k hk h1
                      have hW2 : cnW ν g T t9 ω i 1 κ2 := by
                        refine ⟨⟨?_, ?_, ?_, ?_⟩, hmo2, Or.inl ⟨rfl, ?_⟩⟩
                        · intro x y hx
                          rw [hκ2, updS_ne _ _ _ _ hx]
                          exact v1 x y hx
                        · intro k hk
                          rw [kk]
                          split
                          · exact Or.inr rfl
                          · exact v2 k hk
                        · intro k hk h1
                          rw [kk]
                          split
                          · rfl
                          · exact v3 k hk h1
                        · intro k hk h1
                          rw [kk] at h1
                          split at h1
                          · rename_i e
                            subst e
                            exact fun S h2 h3 => h3 _ u j hk (by omega) hj hj2 (v4 j hj hj1 S h2 h3)
                          · exact v4 k hk h1
                        · refine cnC_lt hmo2 ⟨i, by omega, fun z => ?_, by rw [kk, if_pos rfl]⟩
                          have := hmo i (by omega) z
                          omega
                      refine q_iconst (pc := 154) C dX4_live_154 ?_
                      refine q_istore_n (pc := 155) (lv2 := [_, _, _, _, _, _]) C dX4_live_155 rfl (by decide) rfl ?_
                      refine q_drop 5 (lv2 := [_, _, _, _, _, none]) rfl ?_
                      have h2r : κ2 216 2 = T := by rw [hκ2, updS_ne _ _ _ _ (by decide), k2]
                      have hci : κ2 230 i = 1 := by rw [kk, if_pos rfl]
                      refine q_iinc (pc := 156) (lv2 := [_, _, _, _, _, _]) C dX4_live_156 (by decide) rfl rfl ?_
                      refine q_goto (pc := 159) (tgt := 100) C dX4_live_159 (by decide) ?_
                      refine q_rng (fun hR => ?_)
                      have hm9 : InR m9 := hmr
                      refine q_iload (pc := 100) C dX4_live_100 rfl ?_
                      refine q_aload_n (pc := 102) C dX4_live_102 rfl rfl ?_
                      refine q_getI (pc := 103) (ci := 4) (k := 2) (ki := 2) C rfl rfl fiX4_live_X4 (by decide) k216 (by decide) rfl (by decide) flX4_live_69 rfl rfl dX4_live_103 ?_
                      refine q_icmp_ge (pc := 106) (tgt := 162) C (by first | exact hR _ _ | exact hRo _ _ | assumption | exact r_bI _ | exact ⟨by omega, by omega⟩) (by first | exact hR _ _ | exact hRo _ _ | assumption | exact r_bI _ | exact ⟨by omega, by omega⟩) dX4_live_106 (by decide) (fun hc2 => ?_) (fun hc2 => ?_)
                      · exact TL κ2 1 _ hW2
                      · refine q_aload_n (pc := 109) C dX4_live_109 rfl rfl ?_
                        refine q_getR (pc := 110) (ci := 4) (k := 20) (r := 230) C rfl fiX4_live_X4 (by decide) k216 (by decide) rfl (by decide) flX4_live_57 rfl rfl dX4_live_110 ?_
                        refine q_iload_n (pc := 113) C dX4_live_113 rfl rfl ?_
                        refine q_baload (pc := 114) C k230 n230 (by decide) (by decide) (by omega) (by omega) dX4_live_114 ?_
                        rw [hci]
                        refine q_if_ne (pc := 115) (tgt := 162) C (by first | exact hR _ _ | exact hRo _ _ | assumption | exact r_bI _ | exact ⟨by omega, by omega⟩) dX4_live_115 (by decide) (fun hd2 => ?_) (fun hd2 => ?_)
                        · exact TL κ2 1 _ hW2
                        · exact absurd (show ¬ (1 : Int) = 0 by decide) (fun z => z hd2)
            have hW5 := hW
            obtain ⟨hV, hmo, hcs⟩ := hW
            have hmr : InR m9 := by rcases hcs with ⟨z, -⟩ | ⟨z, -⟩ <;> rw [z] <;> exact ⟨by decide, by decide⟩
            refine q_rng (fun hR => ?_)
            refine q_iload_n (pc := 93) C dX4_live_93 rfl rfl ?_
            refine q_if_lt (pc := 94) (tgt := 168) C (by first | exact hR _ _ | exact hRo _ _ | assumption | exact r_bI _ | exact ⟨by omega, by omega⟩) dX4_live_94 (by decide) (fun hq => ?_) (fun hq => ?_)
            · exact absurd hq (by omega)
            · refine q_iconst (pc := 97) C dX4_live_97 ?_
              refine q_istore (pc := 98) (lv2 := [_, _, _, _, _, _]) C dX4_live_98 (by decide) rfl ?_
              exact UI 0 (by omega) (fun u2 j hu2 => absurd hu2 (by omega))
        have k15 : ω 216 15 = g := by rw [hV0.1 _ _ (by decide), w15]
        refine q_rng (fun hR => ?_)
        refine q_iload_n (pc := 80) C dX4_live_80 rfl rfl ?_
        refine q_if_eq (pc := 81) (tgt := 171) C (by first | exact hR _ _ | exact hRo _ _ | assumption | exact r_bI _ | exact ⟨by omega, by omega⟩) dX4_live_81 (by decide) (fun hq => ?_) (fun hq => ?_)
        · exact absurd hq (by decide)
        · refine q_iconst (pc := 84) C dX4_live_84 ?_
          refine q_istore_n (pc := 85) (lv2 := [_, _, _, _, _, _]) C dX4_live_85 rfl (by decide) rfl ?_
          refine q_aload_n (pc := 86) C dX4_live_86 rfl rfl ?_
          refine q_getI (pc := 87) (ci := 4) (k := 15) (ki := 15) C rfl rfl fiX4_live_X4 (by decide) k216 (by decide) rfl (by decide) flX4_live_42 rfl rfl dX4_live_87 ?_
          rw [k15]
          refine q_iconst (pc := 90) C dX4_live_90 ?_
          refine q_isub (pc := 91) C dX4_live_91 ?_
          refine q_istore_n (pc := 92) (lv2 := [_, _, _, _, _, _]) C dX4_live_92 rfl (by decide) rfl ?_
          exact RND g ω 0 _ (Nat.le_refl _) rfl ⟨hV0, fun j hj h1 => h1, Or.inr ⟨rfl, fun _ _ => rfl, fun i u j h1 h2 => absurd h2 (by omega)⟩⟩
    have FA : ∀ i : Nat, i ≤ g → PW p l e (r0 1) s m args below meth c D cy B 6 0 0 (vx_MQ below (Qp D cy B (qv (fun v μ2 => (μ 216 15 < 0 ∧ μ2 = updS μ 216 0 1) ∨ (¬ μ 216 15 < 0 ∧ ¬ (0 ≤ t ∧ t < T) ∧ μ2 = updS μ 216 0 2) ∨ (¬ μ 216 15 < 0 ∧ (0 ≤ t ∧ t < T) ∧ (∀ x j, x ≠ 230 → μ2 x j = updS μ 216 0 0 x j) ∧ (v = 0 ∨ v = 1) ∧ (v = 1 ↔ ∀ i : Nat, i < (μ 216 15).toNat → RcM μ (μ 216 15).toNat T t.toNat i))))) (Xp D cy B noX) args s (r0 1).cells (r0 1).slots (fun q => B ≤ q)) 39 [some (.ref (B + 216)), some (iN t), some (iN i), none, none, none] [] (preS ν 230 i (fun k => bI (0 ≤ ν 227 (8 * k + t)))) := by
      refine up_to g _ (fun i hi ih => ?_)
      have y15 : preS ν 230 i (fun k => bI (0 ≤ ν 227 (8 * k + t))) 216 15 = g := by rw [preS_ne _ _ _ _ (by decide), w15]
      have J : ∀ b : Int, b = bI (0 ≤ ν 227 (8 * (i : Int) + t)) → i < g → PW p l e (r0 1) s m args below meth c D cy B 6 0 0 (vx_MQ below (Qp D cy B (qv (fun v μ2 => (μ 216 15 < 0 ∧ μ2 = updS μ 216 0 1) ∨ (¬ μ 216 15 < 0 ∧ ¬ (0 ≤ t ∧ t < T) ∧ μ2 = updS μ 216 0 2) ∨ (¬ μ 216 15 < 0 ∧ (0 ≤ t ∧ t < T) ∧ (∀ x j, x ≠ 230 → μ2 x j = updS μ 216 0 0 x j) ∧ (v = 0 ∨ v = 1) ∧ (v = 1 ↔ ∀ i : Nat, i < (μ 216 15).toNat → RcM μ (μ 216 15).toNat T t.toNat i))))) (Xp D cy B noX) args s (r0 1).cells (r0 1).slots (fun q => B ≤ q)) 71 [some (.ref (B + 216)), some (iN t), some (iN i), none, none, none] [iN b, iN i, .ref (B + 230)] (preS ν 230 i (fun k => bI (0 ≤ ν 227 (8 * k + t)))) := by
        intro b hb hig
        have hb01 : b = 0 ∨ b = 1 := by rw [hb]; exact bI_01 _
        refine q_bastore (pc := 71) C k230 n230 (by decide) (by decide) (by omega) (by omega) (by first | exact hR _ _ | exact hRo _ _ | assumption | exact r_bI _ | exact ⟨by omega, by omega⟩) (by first | exact Or.inl rfl | exact Or.inr rfl | assumption) dX4_live_71 ?_
        refine q_mu (preS_step ν 230 i (fun k => bI (0 ≤ ν 227 (8 * k + t))) hb) ?_
        refine q_iinc (pc := 72) (lv2 := [_, _, _, _, _, _]) C dX4_live_72 (by decide) rfl rfl ?_
        refine q_goto (pc := 75) (tgt := 39) C dX4_live_75 (by decide) ?_
        exact ih hig
      refine q_rng (fun hR => ?_)
      refine q_iload_n (pc := 39) C dX4_live_39 rfl rfl ?_
      refine q_aload_n (pc := 40) C dX4_live_40 rfl rfl ?_
      refine q_getI (pc := 41) (ci := 4) (k := 15) (ki := 15) C rfl rfl fiX4_live_X4 (by decide) k216 (by decide) rfl (by decide) flX4_live_42 rfl rfl dX4_live_41 ?_
      refine q_icmp_ge (pc := 44) (tgt := 78) C (by first | exact hR _ _ | exact hRo _ _ | assumption | exact r_bI _ | exact ⟨by omega, by omega⟩) (by first | exact hR _ _ | exact hRo _ _ | assumption | exact r_bI _ | exact ⟨by omega, by omega⟩) dX4_live_44 (by decide) (fun hc => ?_) (fun hc => ?_)
      · have e : i = g := by omega
        obtain ⟨κ, hκ⟩ : ∃ κ : St, κ = preS ν 230 i (fun k => bI (0 ≤ ν 227 (8 * k + t))) := ⟨_, rfl⟩
        have kat : ∀ k : Nat, k < g → κ 230 k = bI (0 ≤ ν 227 (iy k t9)) := fun k hk => by rw [hκ, preS_ap, if_pos ⟨rfl, by omega, by omega⟩, ht9]
        refine q_mu hκ.symm ?_
        refine q_iconst (pc := 78) C dX4_live_78 ?_
        refine q_istore_n (pc := 79) (lv2 := [_, _, _, _, _, _]) C dX4_live_79 rfl (by decide) rfl ?_
        refine WH g κ 1 ⟨fun x j hx => by rw [hκ, preS_ne _ _ _ _ hx], fun k hk => by rw [kat k hk]; exact bI_01 _, fun k hk h1 => by rw [kat k hk]; exact bI_t h1, fun k hk h1 => ?_⟩ (by omega) rfl
        rw [kat k hk] at h1
        exact fun S h2 _ => h2 k hk (bI_1.mp h1)
      · have hr27 : InR (ν 227 (8 * (i : Int) + t)) := by rw [w227]; exact hRo _ _
        refine q_aload_n (pc := 47) C dX4_live_47 rfl rfl ?_
        refine q_getR (pc := 48) (ci := 4) (k := 20) (r := 230) C rfl fiX4_live_X4 (by decide) k216 (by decide) rfl (by decide) flX4_live_57 rfl rfl dX4_live_48 ?_
        refine q_iload_n (pc := 51) C dX4_live_51 rfl rfl ?_
        refine q_aload_n (pc := 52) C dX4_live_52 rfl rfl ?_
        refine q_getR (pc := 53) (ci := 4) (k := 17) (r := 227) C rfl fiX4_live_X4 (by decide) k216 (by decide) rfl (by decide) flX4_live_48 rfl rfl dX4_live_53 ?_
        refine q_bipush (pc := 56) C (by decide +kernel) dX4_live_56 ?_
        refine q_iload_n (pc := 58) C dX4_live_58 rfl rfl ?_
        refine q_imul (pc := 59) C dX4_live_59 ?_
        refine q_iload_n (pc := 60) C dX4_live_60 rfl rfl ?_
        refine q_iadd (pc := 61) C dX4_live_61 ?_
        refine q_iaload (pc := 62) C k227 n227 (by decide) (by decide) (by omega) (by omega) dX4_live_62 ?_
        rw [preS_ne _ _ _ _ (by decide)]
        refine q_if_lt (pc := 63) (tgt := 70) C (by first | exact hR _ _ | exact hRo _ _ | assumption | exact r_bI _ | exact ⟨by omega, by omega⟩) dX4_live_63 (by decide) (fun hd => ?_) (fun hd => ?_)
        · refine q_iconst (pc := 70) C dX4_live_70 ?_
          exact J 0 (bI_f (Int.not_le.mpr hd)).symm (by omega)
        · refine q_iconst (pc := 66) C dX4_live_66 ?_
          refine q_goto (pc := 67) (tgt := 71) C dX4_live_67 (by decide) ?_
          exact J 1 (bI_t (Int.not_lt.mp hd)).symm (by omega)
    refine q_iconst (pc := 37) C dX4_live_37 ?_
    refine q_istore_n (pc := 38) (lv2 := [_, _, _, _, _, _]) C dX4_live_38 rfl (by decide) rfl ?_
    refine q_mu (preS_0 ν 230 (fun k => bI (0 ≤ ν 227 (8 * k + t)))).symm ?_
    exact FA 0 (by omega)
  have J : ∀ c9 : Int, (c9 = 1 ∧ μ 216 15 < 0) ∨ (c9 = 2 ∧ ¬ μ 216 15 < 0 ∧ ¬ (0 ≤ t ∧ t < T)) ∨ (c9 = 0 ∧ ¬ μ 216 15 < 0 ∧ (0 ≤ t ∧ t < T)) → PW p l e (r0 1) s m args below meth c D cy B 6 0 0 (vx_MQ below (Qp D cy B (qv (fun v μ2 => (μ 216 15 < 0 ∧ μ2 = updS μ 216 0 1) ∨ (¬ μ 216 15 < 0 ∧ ¬ (0 ≤ t ∧ t < T) ∧ μ2 = updS μ 216 0 2) ∨ (¬ μ 216 15 < 0 ∧ (0 ≤ t ∧ t < T) ∧ (∀ x j, x ≠ 230 → μ2 x j = updS μ 216 0 0 x j) ∧ (v = 0 ∨ v = 1) ∧ (v = 1 ↔ ∀ i : Nat, i < (μ 216 15).toNat → RcM μ (μ 216 15).toNat T t.toNat i))))) (Xp D cy B noX) args s (r0 1).cells (r0 1).slots (fun q => B ≤ q)) 25 [some (.ref (B + 216)), some (iN t), none, none, none, none] [iN c9, .ref (B + 216)] μ := by
    intro c9 hc9
    have hr9 : InR c9 := ⟨by omega, by omega⟩
    refine q_put (pc := 25) (ci := 4) (k := 0) (ki := 0) (ty0 := tyX4) C rfl rfl fiX4_live_X4 (by decide) k216 (by decide) rfl (by decide) flX4_live_63 rfl tyX4_ok nmX4 rfl rfl rfl (by first | exact hR _ _ | exact hRo _ _ | assumption | exact r_bI _ | exact ⟨by omega, by omega⟩) dX4_live_25 ?_
    refine q_aload_n (pc := 28) C dX4_live_28 rfl rfl ?_
    refine q_getI (pc := 29) (ci := 4) (k := 0) (ki := 0) C rfl rfl fiX4_live_X4 (by decide) k216 (by decide) rfl (by decide) flX4_live_63 rfl rfl dX4_live_29 ?_
    simp only [updS_ap, Nat.reduceEqDiff, Int.reduceEq, Int.toNat_natCast, false_and, true_and, and_false, and_true, and_self, if_false, if_true, ↓reduceIte]
    refine q_if_le (pc := 32) (tgt := 37) C (by first | exact hR _ _ | exact hRo _ _ | assumption | exact r_bI _ | exact ⟨by omega, by omega⟩) dX4_live_32 (by decide) (fun hq => ?_) (fun hq => ?_)
    · have h0 : c9 = 0 := by omega
      subst h0
      exact MAIN (by omega) (by omega)
    · refine q_iconst (pc := 35) C dX4_live_35 ?_
      exact q_zret (pc := 36) C hret (by first | exact Or.inl rfl | exact Or.inr rfl | assumption) ⟨0, r_0, rfl, by rcases hc9 with ⟨z, y⟩ | ⟨z, y⟩ | ⟨z, y⟩; exact Or.inl ⟨y, by rw [z]⟩; exact Or.inr (Or.inl ⟨y.1, y.2, by rw [z]⟩); exact absurd hq (by omega)⟩ (by decide) (by decide) dX4_live_36
  refine q_aload_n (pc := 0) C dX4_live_0 rfl rfl ?_
  refine q_aload_n (pc := 1) C dX4_live_1 rfl rfl ?_
  refine q_getI (pc := 2) (ci := 4) (k := 15) (ki := 15) C rfl rfl fiX4_live_X4 (by decide) k216 (by decide) rfl (by decide) flX4_live_42 rfl rfl dX4_live_2 ?_
  refine q_if_ge (pc := 5) (tgt := 12) C (by first | exact hR _ _ | exact hRo _ _ | assumption | exact r_bI _ | exact ⟨by omega, by omega⟩) dX4_live_5 (by decide) (fun h1 => ?_) (fun h1 => ?_)
  · refine q_aload_n (pc := 12) C dX4_live_12 rfl rfl ?_
    refine q_iload_n (pc := 13) C dX4_live_13 rfl rfl ?_
    refine q_callV (pc := 14) (As := [_]) (rest := [_]) C (m_noTransition hlf D cy B (T := T) (n := t) ht hT) (cwV 1 C.2.2.2.2.1 gX4_live_X4_noTransition rfl rfl rfl (by decide +kernel) ⟨Nat.le_of_ble_eq_true rfl, Nat.le_of_ble_eq_true rfl⟩) (ci := 4) rfl k216 (by decide) (by decide) rfl rfl (by first | decide | simp [Value.category]) dX4_live_14 (by decide) (fun _ _ h => h.elim) (fun v μ9 hv => ?_)
    have e8 := hv.1
    have e9 := hv.2.symm
    clear hv
    subst e8
    subst e9
    dsimp only [Option.toList, List.cons_append, List.nil_append]
    have hb1 := bI_01 (¬ (0 ≤ t ∧ t < (T : Int)))
    refine q_if_eq (pc := 17) (tgt := 24) C (by first | exact hR _ _ | exact hRo _ _ | assumption | exact r_bI _ | exact ⟨by omega, by omega⟩) dX4_live_17 (by decide) (fun h4 => ?_) (fun h4 => ?_)
    · have h2' := bI_0.mp h4
      refine q_iconst (pc := 24) C dX4_live_24 ?_
      exact J 0 (Or.inr (Or.inr ⟨rfl, by omega, by omega⟩))
    · have h2' := bI_1.mp (show bI (¬ (0 ≤ t ∧ t < (T : Int))) = 1 by omega)
      refine q_iconst (pc := 20) C dX4_live_20 ?_
      refine q_goto (pc := 21) (tgt := 25) C dX4_live_21 (by decide) ?_
      exact J 2 (Or.inr (Or.inl ⟨rfl, by omega, by omega⟩))
  · refine q_iconst (pc := 8) C dX4_live_8 ?_
    refine q_goto (pc := 9) (tgt := 25) C dX4_live_9 (by decide) ?_
    exact J 1 (Or.inl ⟨rfl, by omega⟩)

