theorem fiX4_graph_X4 : ∀ w ∈ u_ws RX4 TX4 22, w ∈ wsX4_graph := by decide +kernel
theorem flX4_graph_63 : Cond.fieldLink RX4 63 RX4 (TX4 0).2.1 (TX4 0).2.2.1 ∈ wsX4_graph := by decide +kernel
theorem flX4_graph_66 : Cond.fieldLink RX4 66 RX4 (TX4 1).2.1 (TX4 1).2.2.1 ∈ wsX4_graph := by decide +kernel
theorem flX4_graph_69 : Cond.fieldLink RX4 69 RX4 (TX4 2).2.1 (TX4 2).2.2.1 ∈ wsX4_graph := by decide +kernel
theorem flX4_graph_7 : Cond.fieldLink RX4 7 RX4 (TX4 3).2.1 (TX4 3).2.2.1 ∈ wsX4_graph := by decide +kernel
theorem flX4_graph_16 : Cond.fieldLink RX4 16 RX4 (TX4 5).2.1 (TX4 5).2.2.1 ∈ wsX4_graph := by decide +kernel
theorem flX4_graph_19 : Cond.fieldLink RX4 19 RX4 (TX4 6).2.1 (TX4 6).2.2.1 ∈ wsX4_graph := by decide +kernel
theorem flX4_graph_22 : Cond.fieldLink RX4 22 RX4 (TX4 7).2.1 (TX4 7).2.2.1 ∈ wsX4_graph := by decide +kernel
theorem flX4_graph_42 : Cond.fieldLink RX4 42 RX4 (TX4 15).2.1 (TX4 15).2.2.1 ∈ wsX4_graph := by decide +kernel
theorem flX4_graph_45 : Cond.fieldLink RX4 45 RX4 (TX4 16).2.1 (TX4 16).2.2.1 ∈ wsX4_graph := by decide +kernel
theorem flX4_graph_48 : Cond.fieldLink RX4 48 RX4 (TX4 17).2.1 (TX4 17).2.2.1 ∈ wsX4_graph := by decide +kernel
theorem flX4_graph_60 : Cond.fieldLink RX4 60 RX4 (TX4 21).2.1 (TX4 21).2.2.1 ∈ wsX4_graph := by decide +kernel
def GC (σ μ : St) (P T g : Nat) : Prop := GR σ μ P g ∧ GF σ μ g ∧ GL σ μ T g 0
def grQ (μ σf : St) (P T gf : Nat) (okf : Bool) (v : Int) (μ2 : St) : Prop := frG μ μ2 ∧ ((okf = true ∧ v = gf ∧ μ2 216 0 = 0 ∧ μ2 216 15 = gf ∧ GC σf μ2 P T gf) ∨ (okf = false ∧ μ2 216 0 = 2 ∧ μ2 216 15 = -1))
set_option maxHeartbeats 4000000 in
set_option maxRecDepth 100000 in
theorem m_graph {l : Launch} (hlf : l.stackTraces = false) (D : va_G) (cy : Nat → ClassId) (B : Nat) {μ : St} {ν σf : St} {P T gf n9 : Nat} {okf : Bool} {bad : Prop} (hN : NI ν P T) (hM : MN ν μ P T) (hZ : NZ ν P) (h100 : μ 216 7 ≤ 100) (hbad : bad ↔ (μ 216 7 < 0 ∨ ∃ q : Nat, q < P ∧ gmax (fun i => μ 221 (ix i q)) (μ 216 7).toNat = 1000000000)) (hrun : ¬ bad → bldS 40 (b0S ν) 1 0 T = (σf, gf, okf)) : PC l D cy B yX4_graph wsX4_graph (r0 2) [.ref (B + 216)] μ (qv (fun v μ2 => (bad ∧ μ2 = updS μ 216 0 1) ∨ (¬ bad ∧ grQ μ σf P T gf okf v μ2))) noX := by
  refine PC.pre (fun hR => ?_)
  refine q_start (cc := cX4_graph) (maxL := 4) (ret := (some .int)) hlf (by decide +kernel) rfl (by simp [Value.category]) (Nat.le_of_ble_eq_true rfl) ?_
  intro p e s m args below meth c C hret hno
  show PW p l e (r0 2) s m args below meth c D cy B 4 0 0 _ 0 [some (.ref (B + 216)), none, none, none] [] μ
  have hRo := hR
  have h6 := hN.1
  have h8 := hN.2.1
  have MAIN : ¬ bad → PW p l e (r0 2) s m args below meth c D cy B 4 0 0 (vx_MQ below (Qp D cy B (qv (fun v μ2 => (bad ∧ μ2 = updS μ 216 0 1) ∨ (¬ bad ∧ grQ μ σf P T gf okf v μ2)))) (Xp D cy B noX) args s (r0 2).cells (r0 2).slots (fun q => B ≤ q)) 32 [some (.ref (B + 216)), none, none, none] [] (updS μ 216 0 0) := by
    intro hnb
    have hrun := hrun hnb
    have OUT : ∀ (n k g : Nat) (σ κ : St), n + k = 40 → bldS n σ g k T = (σf, gf, okf) → k ≤ g → NI σ P T → GI σ T g → (∀ x j, ¬ inG x → σ x j = ν x j) → GR σ κ P g → GF σ κ g → GL σ κ T k 0 → (∀ i : Nat, i < k → nxP σ g i T) → κ 216 15 = g → κ 216 0 = 0 → frG μ κ → PW p l e (r0 2) s m args below meth c D cy B 4 0 0 (vx_MQ below (Qp D cy B (qv (fun v μ2 => (bad ∧ μ2 = updS μ 216 0 1) ∨ (¬ bad ∧ grQ μ σf P T gf okf v μ2)))) (Xp D cy B noX) args s (r0 2).cells (r0 2).slots (fun q => B ≤ q)) 75 [some (.ref (B + 216)), some (iN k), none, none] [] κ := by
      intro n
      have FIN : ∀ (k g : Nat) (σ κ : St), k ≤ 40 → (σ, g, true) = (σf, gf, okf) → GI σ T g → GR σ κ P g → GF σ κ g → GL σ κ T g 0 → κ 216 15 = g → κ 216 0 = 0 → frG μ κ → PW p l e (r0 2) s m args below meth c D cy B 4 0 0 (vx_MQ below (Qp D cy B (qv (fun v μ2 => (bad ∧ μ2 = updS μ 216 0 1) ∨ (¬ bad ∧ grQ μ σf P T gf okf v μ2)))) (Xp D cy B noX) args s (r0 2).cells (r0 2).slots (fun q => B ≤ q)) 240 [some (.ref (B + 216)), some (iN k), none, none] [] κ := by
        intro k g σ κ hk hf hG hgr hgf hgl h15 h0 hfr
        have e1 : σ = σf := congrArg (fun z => z.1) hf
        have e2 : g = gf := congrArg (fun z => z.2.1) hf
        have e3 : true = okf := congrArg (fun z => z.2.2) hf
        have hg40 := hG.2.1
        refine q_aload_n (pc := 240) C dX4_graph_240 rfl rfl ?_
        refine q_getI (pc := 241) (ci := 4) (k := 15) (ki := 15) C rfl rfl fiX4_graph_X4 (by decide) k216 (by decide) rfl (by decide) flX4_graph_42 rfl rfl dX4_graph_241 ?_
        rw [h15]
        exact q_iret (pc := 244) C hret ⟨g, ⟨by omega, by omega⟩, rfl, Or.inr ⟨hnb, hfr, Or.inl ⟨e3.symm, by rw [e2], h0, by rw [h15, e2], by rw [← e1, ← e2]; exact ⟨hgr, hgf, hgl⟩⟩⟩⟩ (by decide) (by decide) dX4_graph_244
      induction n with
      | zero =>
        intro k g σ κ hnk hrn hkg hN2 hG hs hgr hgf hgl hnx h15 h0 hfr
        have hg40 := hG.2.1
        have ek : k = g := by omega
        refine q_rng (fun hR => ?_)
        refine q_iload_n (pc := 75) C dX4_graph_75 rfl rfl ?_
        refine q_aload_n (pc := 76) C dX4_graph_76 rfl rfl ?_
        refine q_getI (pc := 77) (ci := 4) (k := 15) (ki := 15) C rfl rfl fiX4_graph_X4 (by decide) k216 (by decide) rfl (by decide) flX4_graph_42 rfl rfl dX4_graph_77 ?_
        refine q_icmp_ge (pc := 80) (tgt := 240) C (by first | exact hR _ _ | exact hRo _ _ | assumption | exact r_bI _ | exact ⟨by omega, by omega⟩) (by first | exact hR _ _ | exact hRo _ _ | assumption | exact r_bI _ | exact ⟨by omega, by omega⟩) dX4_graph_80 (by decide) (fun hc => ?_) (fun hc => ?_)
        · exact FIN k g σ κ (by omega) hrn hG hgr hgf (by rw [← ek]; exact hgl) h15 h0 hfr
        · exact absurd hc (by omega)
      | succ n ih =>
        intro k g σ κ hnk hrn hkg hN2 hG hs hgr hgf hgl hnx h15 h0 hfr
        have hg40 := hG.2.1
        rw [bldS_succ] at hrn
        refine q_rng (fun hR => ?_)
        refine q_iload_n (pc := 75) C dX4_graph_75 rfl rfl ?_
        refine q_aload_n (pc := 76) C dX4_graph_76 rfl rfl ?_
        refine q_getI (pc := 77) (ci := 4) (k := 15) (ki := 15) C rfl rfl fiX4_graph_X4 (by decide) k216 (by decide) rfl (by decide) flX4_graph_42 rfl rfl dX4_graph_77 ?_
        refine q_icmp_ge (pc := 80) (tgt := 240) C (by first | exact hR _ _ | exact hRo _ _ | assumption | exact r_bI _ | exact ⟨by omega, by omega⟩) (by first | exact hR _ _ | exact hRo _ _ | assumption | exact r_bI _ | exact ⟨by omega, by omega⟩) dX4_graph_80 (by decide) (fun hc => ?_) (fun hc => ?_)
        · have ek : k = g := by omega
          rw [if_neg (by omega)] at hrn
          exact FIN k g σ κ (by omega) hrn hG hgr hgf (by rw [← ek]; exact hgl) h15 h0 hfr
        · have hkg2 : k < g := by omega
          rw [if_pos hkg2] at hrn
          have IN : ∀ (r t g1 : Nat) (σ1 κ1 : St), r + t = T → folS r σ1 g1 k t = folS T σ g k 0 → k < g1 → NI σ1 P T → GI σ1 T g1 → (∀ x j, ¬ inG x → σ1 x j = ν x j) → GR σ1 κ1 P g1 → GF σ1 κ1 g1 → GL σ1 κ1 T k t → lkP σ1 g1 T k t → κ1 216 15 = g1 → κ1 216 0 = 0 → frG μ κ1 → PW p l e (r0 2) s m args below meth c D cy B 4 0 0 (vx_MQ below (Qp D cy B (qv (fun v μ2 => (bad ∧ μ2 = updS μ 216 0 1) ∨ (¬ bad ∧ grQ μ σf P T gf okf v μ2)))) (Xp D cy B noX) args s (r0 2).cells (r0 2).slots (fun q => B ≤ q)) 85 [some (.ref (B + 216)), some (iN k), some (iN t), none] [] κ1 := by
            intro r
            induction r with
            | zero =>
              intro t g1 σ1 κ1 hrt hfo hk1 hN1 hG1 hs1 hgr1 hgf1 hgl1 hlk1 h151 h01 hfr1
              have et : t = T := by omega
              subst et
              have hT2 : κ1 216 2 = t := (MN_fr hM hs1 hfr1).2.1
              refine q_rng (fun hR => ?_)
              refine q_iload_n (pc := 85) C dX4_graph_85 rfl rfl ?_
              refine q_aload_n (pc := 86) C dX4_graph_86 rfl rfl ?_
              refine q_getI (pc := 87) (ci := 4) (k := 2) (ki := 2) C rfl rfl fiX4_graph_X4 (by decide) k216 (by decide) rfl (by decide) flX4_graph_69 rfl rfl dX4_graph_87 ?_
              refine q_icmp_ge (pc := 90) (tgt := 234) C (by first | exact hR _ _ | exact hRo _ _ | assumption | exact r_bI _ | exact ⟨by omega, by omega⟩) (by first | exact hR _ _ | exact hRo _ _ | assumption | exact r_bI _ | exact ⟨by omega, by omega⟩) dX4_graph_90 (by decide) (fun hd => ?_) (fun hd => ?_)
              · rw [← hfo] at hrn
                have hrn2 : bldS n σ1 g1 (k + 1) t = (σf, gf, okf) := by
                  have z := hrn
                  rw [if_pos (show (folS 0 σ1 g1 k t).2.2 = true from rfl)] at z
                  exact z
                refine q_drop 2 (lv2 := [_, _, none, _]) rfl ?_
                refine q_iinc (pc := 234) (lv2 := [_, _, _, _]) C dX4_graph_234 (by decide) rfl rfl ?_
                refine q_goto (pc := 237) (tgt := 75) C dX4_graph_237 (by decide) ?_
                refine ih (k + 1) g1 σ1 κ1 (by omega) hrn2 (by omega) hN1 hG1 hs1 hgr1 hgf1 ?_ ?_ h151 h01 hfr1
                · intro i u hc9
                  rcases hc9 with ⟨y1, y2⟩ | ⟨y1, y2⟩
                  · refine hgl1 i u ?_
                    by_cases e : i = k
                    · exact Or.inr ⟨e, y2⟩
                    · exact Or.inl ⟨by omega, y2⟩
                  · omega
                · intro i hi
                  by_cases e : i = k
                  · subst e; exact hlk1.2
                  · exact hlk1.1 i (by omega)
              · exact absurd hd (by omega)
            | succ r ihr =>
              intro t g1 σ1 κ1 hrt hfo hk1 hN1 hG1 hs1 hgr1 hgf1 hgl1 hlk1 h151 h01 hfr1
              have htT : t < T := by omega
              have hg140 := hG1.2.1
              have hM1 := MN_fr hM hs1 hfr1
              have hT2 : κ1 216 2 = T := hM1.2.1
              rw [folS_succ] at hfo
              have NX : ∀ (σ2 : St) (g2 : Nat) (κ2 : St), tr1 σ1 g1 k t = (σ2, g2, true) → GR σ2 κ2 P g2 → GF σ2 κ2 g2 → GL σ2 κ2 T k (t + 1) → κ2 216 15 = g2 → κ2 216 0 = 0 → frG μ κ2 → PW p l e (r0 2) s m args below meth c D cy B 4 0 0 (vx_MQ below (Qp D cy B (qv (fun v μ2 => (bad ∧ μ2 = updS μ 216 0 1) ∨ (¬ bad ∧ grQ μ σf P T gf okf v μ2)))) (Xp D cy B noX) args s (r0 2).cells (r0 2).slots (fun q => B ≤ q)) 228 [some (.ref (B + 216)), some (iN k), some (iN t), none] [] κ2 := by
                intro σ2 g2 κ2 htr y1 y2 y3 y4 y5 y6
                have hok : (tr1 σ1 g1 k t).2.2 = true := by rw [htr]
                obtain ⟨z1, z2, z3, z4⟩ := tr1_ok hN1 hG1 hk1 htT hlk1 hok
                have zo := fun x j hx => tr1_out σ1 t hg140 (show k < 40 by omega) (x := x) hx j
                rw [if_pos hok] at hfo
                rw [htr] at z1 z2 z3 z4 hfo zo
                dsimp only at z1 z2 z3 z4 hfo zo
                refine q_iinc (pc := 228) (lv2 := [_, _, _, _]) C dX4_graph_228 (by decide) rfl rfl ?_
                refine q_goto (pc := 231) (tgt := 85) C dX4_graph_231 (by decide) ?_
                exact ihr (t + 1) g2 σ2 κ2 (by omega) hfo (by omega) z1 z2 (fun x j hx => by rw [zo x j hx]; exact hs1 x j hx) y1 y2 y3 z4 y4 y5 y6
              obtain ⟨κ2, hκ2⟩ : ∃ κ2 : St, κ2 = updS κ1 227 (8 * (k : Int) + (t : Int)) (-1) := ⟨_, rfl⟩
              have y2 : ∀ {x : Nat} (j : Int), x ≠ 227 → κ2 x j = κ1 x j := fun j hx => by rw [hκ2, updS_ne _ _ _ _ hx]
              have hfr2 : frG μ κ2 := fun x j hx => by rw [y2 _ (by unfold scG at hx; omega)]; exact hfr1 x j hx
              have hsA : ∀ x j, ¬ inG x → trA σ1 k t x j = ν x j := fun x j hx => by rw [trA_ne _ _ (by unfold inG at hx; omega)]; exact hs1 x j hx
              have hMA := MN_fr hM hsA hfr2
              have hZA := NZ_fr hZ hsA
              have hNA : NI (trA σ1 k t) P T := NI_ne hN1 (fun x j hx => trA_ne _ _ (by omega) _)
              have hgrA : GR (trA σ1 k t) κ2 P g1 := fun i q hi hq => by
                rw [y2 _ (by decide), trA_ne _ _ (by omega)]
                exact hgr1 i q hi hq
              have hgfA : GF (trA σ1 k t) κ2 g1 := fun i hi => by
                rw [y2 _ (by decide), y2 _ (by decide), trA_ne _ _ (by omega), trA_ne _ _ (by omega)]
                exact hgf1 i hi
              have hen := enG_iff hMA h6 h8 hZA hgrA hk1 htT
              have h152 : κ2 216 15 = g1 := by rw [y2 _ (by decide)]; exact h151
              have h02 : κ2 216 0 = 0 := by rw [y2 _ (by decide)]; exact h01
              have hP2 : κ2 216 1 = P := hMA.1
              refine q_rng (fun hR => ?_)
              refine q_iload_n (pc := 85) C dX4_graph_85 rfl rfl ?_
              refine q_aload_n (pc := 86) C dX4_graph_86 rfl rfl ?_
              refine q_getI (pc := 87) (ci := 4) (k := 2) (ki := 2) C rfl rfl fiX4_graph_X4 (by decide) k216 (by decide) rfl (by decide) flX4_graph_69 rfl rfl dX4_graph_87 ?_
              refine q_icmp_ge (pc := 90) (tgt := 234) C (by first | exact hR _ _ | exact hRo _ _ | assumption | exact r_bI _ | exact ⟨by omega, by omega⟩) (by first | exact hR _ _ | exact hRo _ _ | assumption | exact r_bI _ | exact ⟨by omega, by omega⟩) dX4_graph_90 (by decide) (fun hd => ?_) (fun hd => ?_)
              · exact absurd hd (by omega)
              · refine q_aload_n (pc := 93) C dX4_graph_93 rfl rfl ?_
                refine q_getR (pc := 94) (ci := 4) (k := 17) (r := 227) C rfl fiX4_graph_X4 (by decide) k216 (by decide) rfl (by decide) flX4_graph_48 rfl rfl dX4_graph_94 ?_
                refine q_bipush (pc := 97) C (by decide +kernel) dX4_graph_97 ?_
                refine q_iload_n (pc := 99) C dX4_graph_99 rfl rfl ?_
                refine q_imul (pc := 100) C dX4_graph_100 ?_
                refine q_iload_n (pc := 101) C dX4_graph_101 rfl rfl ?_
                refine q_iadd (pc := 102) C dX4_graph_102 ?_
                refine q_iconst (pc := 103) C dX4_graph_103 ?_
                refine q_iastore (pc := 104) C k227 n227 (by decide) (by decide) (by omega) (by omega) (by first | exact hR _ _ | exact hRo _ _ | assumption | exact r_bI _ | exact ⟨by omega, by omega⟩) dX4_graph_104 ?_
                refine q_mu hκ2.symm ?_
                refine q_rng (fun hR => ?_)
                refine q_aload_n (pc := 105) C dX4_graph_105 rfl rfl ?_
                refine q_iload_n (pc := 106) C dX4_graph_106 rfl rfl ?_
                refine q_iload_n (pc := 107) C dX4_graph_107 rfl rfl ?_
                refine q_callV (pc := 108) (As := [_, _]) (rest := []) C (m_enabledIn hlf D cy B (P := P) (n := k) (t := t) hP2 h6 (by omega) (by omega)) (cwV 2 C.2.2.2.2.1 gX4_graph_X4_enabledIn rfl rfl rfl (by decide +kernel) ⟨Nat.le_of_ble_eq_true rfl, Nat.le_of_ble_eq_true rfl⟩) (ci := 4) rfl k216 (by decide) (by decide) rfl rfl (by first | decide | simp [Value.category]) dX4_graph_108 (by decide) (fun _ _ h => h.elim) (fun v μ9 hv => ?_)
                have e8 := hv.1
                have e9 := hv.2.symm
                clear hv
                subst e8
                subst e9
                dsimp only [Option.toList, List.cons_append, List.nil_append]
                refine q_if_eq (pc := 111) (tgt := 228) C (by first | exact hR _ _ | exact hRo _ _ | assumption | exact r_bI _ | exact ⟨by omega, by omega⟩) dX4_graph_111 (by decide) (fun hq => ?_) (fun hq => ?_)
                · have hno := fun z => bI_0.mp hq (hen.mpr z)
                  refine NX (trA σ1 k t) g1 κ2 (by unfold tr1; rw [if_neg hno]) hgrA hgfA ?_ h152 h02 hfr2
                  refine GL_set h8 htT hgl1 (fun i hi j => trA_ne _ _ (by omega) _) (fun u hu => by rw [trA_row, if_neg (by omega)]) (fun j hj => by rw [hκ2, updS_nk _ _ _ _ hj]) ?_
                  rw [trA_row, if_pos rfl, hκ2, updS_self]
                  rfl
                · have hz9 := bI_01 (∀ q : Nat, q < P → κ2 219 (ix t q) ≤ κ2 226 (ix k q))
                  have hyes : enP (trA σ1 k t) (130 + k) t := hen.mp (bI_1.mp (show bI (∀ q : Nat, q < P → κ2 219 (ix t q) ≤ κ2 226 (ix k q)) = 1 by omega))
                  have hfire := tr_fire hN1 hG1 hk1 htT hyes
                  obtain ⟨F, hF⟩ : ∃ F : Int → Int, F = fun q => κ2 226 (6 * (k : Int) + q) - κ2 219 (6 * (t : Int) + q) + κ2 220 (6 * (t : Int) + q) := ⟨_, rfl⟩
                  have hFq : ∀ q : Nat, q < P → F q = fireV (trA σ1 k t) (130 + k) t q := by
                    intro q hqP
                    have w1 := (hgrA k q hk1 (by omega)).1 hqP
                    have w2 := hMA.2.2.2.2 t q (by omega) (by omega)
                    have w3 := hG1.2.2.2.1 k q hk1 (by omega)
                    rw [hF]
                    show κ2 226 (ix k q) - κ2 219 (ix t q) + κ2 220 (ix t q) = _
                    rw [w1, w2.1, w2.2]
                    unfold fireV
                    rw [if_neg (by rw [trA_ne _ _ (by omega)]; omega)]
                  have AFT : PW p l e (r0 2) s m args below meth c D cy B 4 0 0 (vx_MQ below (Qp D cy B (qv (fun v μ2 => (bad ∧ μ2 = updS μ 216 0 1) ∨ (¬ bad ∧ grQ μ σf P T gf okf v μ2)))) (Xp D cy B noX) args s (r0 2).cells (r0 2).slots (fun q => B ≤ q)) 171 [some (.ref (B + 216)), some (iN k), some (iN t), none] [] (preS κ2 231 P F) := by
                    obtain ⟨κ3, hκ3⟩ : ∃ κ3 : St, κ3 = preS κ2 231 P F := ⟨_, rfl⟩
                    refine q_mu hκ3.symm ?_
                    have y3 : ∀ {x : Nat} (j : Int), x ≠ 231 → κ3 x j = κ2 x j := fun j hx => by rw [hκ3, preS_ne _ _ _ _ hx]
                    have hfr3 : frG μ κ3 := fun x j hx => by rw [y3 _ (by unfold scG at hx; omega)]; exact hfr2 x j hx
                    have hsB : ∀ x j, ¬ inG x → trB σ1 k t x j = ν x j := fun x j hx => by rw [trB_ne _ _ (by unfold inG at hx; omega) (by unfold inG at hx; omega)]; exact hs1 x j hx
                    have hgrB : GR (trB σ1 k t) κ3 P g1 := fun i q hi hq => by
                      rw [y3 _ (by decide), y2 _ (by decide), trB_ne _ _ (by omega) (by omega)]
                      exact hgr1 i q hi hq
                    have hgfB : GF (trB σ1 k t) κ3 g1 := fun i hi => by
                      rw [y3 _ (by decide), y3 _ (by decide), y2 _ (by decide), y2 _ (by decide), trB_ne _ _ (by omega) (by omega), trB_ne _ _ (by omega) (by omega)]
                      exact hgf1 i hi
                    have hwB : ∀ q : Nat, q < 6 → (q < P → κ3 231 q = trB σ1 k t 215 q) ∧ (P ≤ q → trB σ1 k t 215 q = 0) := by
                      intro q hq
                      have eB : trB σ1 k t 215 q = fireV (trA σ1 k t) (130 + k) t q := by
                        unfold trB
                        rw [preS_ap, if_pos ⟨rfl, by omega, by omega⟩]
                      rw [eB]
                      refine ⟨fun hqP => ?_, fun hqP => ?_⟩
                      · rw [hκ3, preS_ap, if_pos ⟨rfl, by omega, by omega⟩]
                        exact hFq q hqP
                      · obtain ⟨-, -, z3⟩ := hZA q hq hqP
                        unfold fireV
                        rw [(hgrA k q hk1 hq).2 hqP, (z3 t (by omega)).1, (z3 t (by omega)).2, if_neg (by decide)]
                        rfl
                    have hfn : fnM κ3 P g1 = fndS (trB σ1 k t) g1 215 := fn_cpl h6 hgrB hwB
                    have hfs := fnd_spec (fun i => ∀ q : Nat, q < 6 → trB σ1 k t (130 + i) q = trB σ1 k t 215 q) g1 0
                    have hP3 : κ3 216 1 = P := by rw [y3 _ (by decide)]; exact hP2
                    have h153 : κ3 216 15 = g1 := by rw [y3 _ (by decide)]; exact h152
                    have h03 : κ3 216 0 = 0 := by rw [y3 _ (by decide)]; exact h02
                    have y27 : ∀ j, κ3 227 j = κ2 227 j := fun j => y3 j (by decide)
                    refine q_aload_n (pc := 171) C dX4_graph_171 rfl rfl ?_
                    refine q_callV (pc := 172) (As := []) (rest := []) C (m_find hlf D cy B (P := P) (g := g1) hP3 h6 h153 hg140) (cwV 0 C.2.2.2.2.1 gX4_graph_X4_find rfl rfl rfl (by decide +kernel) ⟨Nat.le_of_ble_eq_true rfl, Nat.le_of_ble_eq_true rfl⟩) (ci := 4) rfl k216 (by decide) (by decide) rfl rfl (by first | decide | simp [Value.category]) dX4_graph_172 (by decide) (fun _ _ h => h.elim) (fun v μ9 hv => ?_)
                    have e8 := hv.1
                    have e9 := hv.2.symm
                    clear hv
                    subst e8
                    subst e9
                    dsimp only [Option.toList, List.cons_append, List.nil_append]
                    rw [hfn]
                    rcases Classical.em (fndS (trB σ1 k t) g1 215 = -2) with hnf | hnf
                    · rw [if_pos hnf]
                      refine q_istore_n (pc := 175) (lv2 := [_, _, _, _]) C dX4_graph_175 rfl (by decide) rfl ?_
                      refine q_iload_n (pc := 176) C dX4_graph_176 rfl rfl ?_
                      refine q_if_ge (pc := 177) (tgt := 201) C (by first | exact hR _ _ | exact hRo _ _ | assumption | exact r_bI _ | exact ⟨by omega, by omega⟩) dX4_graph_177 (by decide) (fun hq2 => ?_) (fun hq2 => ?_)
                      · exact absurd hq2 (by decide)
                      · refine q_aload_n (pc := 180) C dX4_graph_180 rfl rfl ?_
                        refine q_getI (pc := 181) (ci := 4) (k := 15) (ki := 15) C rfl rfl fiX4_graph_X4 (by decide) k216 (by decide) rfl (by decide) flX4_graph_42 rfl rfl dX4_graph_181 ?_
                        rw [h153]
                        refine q_bipush (pc := 184) C (by decide +kernel) dX4_graph_184 ?_
                        refine q_icmp_ne (pc := 186) (tgt := 201) C (by first | exact hR _ _ | exact hRo _ _ | assumption | exact r_bI _ | exact ⟨by omega, by omega⟩) (by first | exact hR _ _ | exact hRo _ _ | assumption | exact r_bI _ | exact ⟨by omega, by omega⟩) dX4_graph_186 (by decide) (fun hq3 => ?_) (fun hq3 => ?_)
                        · have hg40 : g1 < 40 := by omega
                          refine q_iload_n (pc := 201) C dX4_graph_201 rfl rfl ?_
                          refine q_if_ge (pc := 202) (tgt := 216) C (by first | exact hR _ _ | exact hRo _ _ | assumption | exact r_bI _ | exact ⟨by omega, by omega⟩) dX4_graph_202 (by decide) (fun hq4 => ?_) (fun hq4 => ?_)
                          · exact absurd hq4 (by decide)
                          · refine q_aload_n (pc := 205) C dX4_graph_205 rfl rfl ?_
                            refine q_getI (pc := 206) (ci := 4) (k := 15) (ki := 15) C rfl rfl fiX4_graph_X4 (by decide) k216 (by decide) rfl (by decide) flX4_graph_42 rfl rfl dX4_graph_206 ?_
                            rw [h153]
                            refine q_istore_n (pc := 209) (lv2 := [_, _, _, _]) C dX4_graph_209 rfl (by decide) rfl ?_
                            refine q_aload_n (pc := 210) C dX4_graph_210 rfl rfl ?_
                            refine q_iload_n (pc := 211) C dX4_graph_211 rfl rfl ?_
                            refine q_iload_n (pc := 212) C dX4_graph_212 rfl rfl ?_
                            refine q_callV (pc := 213) (As := [_, _]) (rest := []) C (m_addState hlf D cy B (P := P) (g := g1) (u := k) (t := t) hP3 h6 h153 hg40 ⟨by omega, by omega⟩ ⟨by omega, by omega⟩) (cwV 2 C.2.2.2.2.1 gX4_graph_X4_addState rfl rfl rfl (by decide +kernel) ⟨Nat.le_of_ble_eq_true rfl, Nat.le_of_ble_eq_true rfl⟩) (ci := 4) rfl k216 (by decide) (by decide) rfl rfl (by first | decide | simp [Value.category]) dX4_graph_213 (by decide) (fun _ _ h => h.elim) (fun v μ9 hv => ?_)
                            have e8 := hv.1
                            have e9 := hv.2.symm
                            clear hv
                            subst e8
                            subst e9
                            dsimp only [Option.toList, List.cons_append, List.nil_append]
                            refine q_aload_n (pc := 216) C dX4_graph_216 rfl rfl ?_
                            refine q_getR (pc := 217) (ci := 4) (k := 17) (r := 227) C rfl fiX4_graph_X4 (by decide) k216 (by decide) rfl (by decide) flX4_graph_48 rfl rfl dX4_graph_217 ?_
                            refine q_bipush (pc := 220) C (by decide +kernel) dX4_graph_220 ?_
                            refine q_iload_n (pc := 222) C dX4_graph_222 rfl rfl ?_
                            refine q_imul (pc := 223) C dX4_graph_223 ?_
                            refine q_iload_n (pc := 224) C dX4_graph_224 rfl rfl ?_
                            refine q_iadd (pc := 225) C dX4_graph_225 ?_
                            refine q_iload_n (pc := 226) C dX4_graph_226 rfl rfl ?_
                            refine q_iastore (pc := 227) C k227 n227 (by decide) (by decide) (by omega) (by omega) (by first | exact hR _ _ | exact hRo _ _ | assumption | exact r_bI _ | exact ⟨by omega, by omega⟩) dX4_graph_227 ?_
                            refine q_drop 3 (lv2 := [_, _, _, none]) rfl ?_
                            obtain ⟨a1, a2⟩ := add_cpl (f := k) (b := t) (d := σ1 213 k + 1) h6 hg40 hgrB hgfB hwB
                            refine NX (updS (asS (trB σ1 k t) g1 k t (σ1 213 k + 1)) (171 + k) t g1) (g1 + 1) _ (by unfold tr1; rw [if_pos hyes, if_pos hnf, if_neg (by omega)]) ?_ ?_ ?_ ?_ ?_ ?_
                            · intro i q hi hq
                              rw [updS_ne _ _ _ _ (by decide), updS_ne _ _ _ _ (by omega)]
                              exact a1 i q hi hq
                            · intro i hi
                              rw [updS_ne _ _ _ _ (by omega), updS_ne _ _ _ _ (by omega), updS_ne _ _ _ _ (by omega), updS_ne _ _ _ _ (by omega)]
                              exact a2 i hi
                            · refine GL_set h8 htT hgl1 (fun i hi j => by rw [updS_ne _ _ _ _ (by omega), asS_ne _ _ _ _ (by omega) (by omega) (by omega) (by omega) (by omega), trB_ne _ _ (by omega) (by omega)]) (fun u hu => by rw [updS_nk _ _ _ _ (by omega), asS_ne _ _ _ _ (by omega) (by omega) (by omega) (by omega) (by omega), trB_row _ (by omega), if_neg (by omega)]) (fun j hj => by rw [updS_nk _ _ _ _ hj, asM_lo _ _ _ _ _ _ (by decide) (by decide) (by decide) (by decide), y27, hκ2, updS_nk _ _ _ _ hj]) ?_
                              rw [updS_self, updS_self]
                              unfold lk
                              rw [if_neg (by omega)]
                            · rw [updS_ne _ _ _ _ (by decide), asM_15]
                            · rw [updS_ne _ _ _ _ (by decide), asM_16 _ _ _ _ _ (by decide)]
                              exact h03
                            · intro x j hx
                              rw [← hfr3 x j hx]
                              by_cases e : x = 216
                              · subst e
                                rw [updS_ne _ _ _ _ (by decide), asM_16 _ _ _ _ _ (by unfold scG at hx; omega)]
                              · unfold scG at hx
                                rw [updS_ne _ _ _ _ (by omega), asM_lo _ _ _ _ _ _ (by omega) (by omega) (by omega) (by omega)]
                        · have hff : tr1 σ1 g1 k t = (trB σ1 k t, g1, false) := by unfold tr1; rw [if_pos hyes, if_pos hnf, if_pos (by omega)]
                          have hfo2 : (trB σ1 k t, g1, false) = folS T σ g k 0 := by
                            have z := hfo
                            rw [hff] at z
                            exact z
                          have hok9 : false = okf := by
                            have z := hrn
                            rw [← hfo2] at z
                            exact congrArg (fun z => z.2.2) z
                          refine q_aload_n (pc := 189) C dX4_graph_189 rfl rfl ?_
                          refine q_iconst (pc := 190) C dX4_graph_190 ?_
                          refine q_put (pc := 191) (ci := 4) (k := 15) (ki := 15) (ty0 := tyX4) C rfl rfl fiX4_graph_X4 (by decide) k216 (by decide) rfl (by decide) flX4_graph_42 rfl tyX4_ok nmX4 rfl rfl rfl (by first | exact hR _ _ | exact hRo _ _ | assumption | exact r_bI _ | exact ⟨by omega, by omega⟩) dX4_graph_191 ?_
                          refine q_aload_n (pc := 194) C dX4_graph_194 rfl rfl ?_
                          refine q_iconst (pc := 195) C dX4_graph_195 ?_
                          refine q_put (pc := 196) (ci := 4) (k := 0) (ki := 0) (ty0 := tyX4) C rfl rfl fiX4_graph_X4 (by decide) k216 (by decide) rfl (by decide) flX4_graph_63 rfl tyX4_ok nmX4 rfl rfl rfl (by first | exact hR _ _ | exact hRo _ _ | assumption | exact r_bI _ | exact ⟨by omega, by omega⟩) dX4_graph_196 ?_
                          refine q_iconst (pc := 199) C dX4_graph_199 ?_
                          exact q_iret (pc := 200) C hret ⟨0, r_0, rfl, Or.inr ⟨hnb, fun x j hx => by rw [updS_ap, updS_ap, if_neg (by unfold scG at hx; omega), if_neg (by unfold scG at hx; omega)]; exact hfr3 x j hx, Or.inr ⟨hok9.symm, updS_self _ _ _ _, by rw [updS_nk _ _ _ _ (by decide), updS_self]⟩⟩⟩ (by decide) (by decide) dX4_graph_200
                    · rw [if_neg hnf]
                      rcases hfs with ⟨z, -⟩ | ⟨j, -, hj, hj2, -⟩
                      · exact absurd z hnf
                      · have hj3 : fndS (trB σ1 k t) g1 215 = j := hj2
                        rw [hj3]
                        refine q_istore_n (pc := 175) (lv2 := [_, _, _, _]) C dX4_graph_175 rfl (by decide) rfl ?_
                        refine q_iload_n (pc := 176) C dX4_graph_176 rfl rfl ?_
                        refine q_if_ge (pc := 177) (tgt := 201) C (by first | exact hR _ _ | exact hRo _ _ | assumption | exact r_bI _ | exact ⟨by omega, by omega⟩) dX4_graph_177 (by decide) (fun hq2 => ?_) (fun hq2 => ?_)
                        · refine q_iload_n (pc := 201) C dX4_graph_201 rfl rfl ?_
                          refine q_if_ge (pc := 202) (tgt := 216) C (by first | exact hR _ _ | exact hRo _ _ | assumption | exact r_bI _ | exact ⟨by omega, by omega⟩) dX4_graph_202 (by decide) (fun hq4 => ?_) (fun hq4 => ?_)
                          · refine q_aload_n (pc := 216) C dX4_graph_216 rfl rfl ?_
                            refine q_getR (pc := 217) (ci := 4) (k := 17) (r := 227) C rfl fiX4_graph_X4 (by decide) k216 (by decide) rfl (by decide) flX4_graph_48 rfl rfl dX4_graph_217 ?_
                            refine q_bipush (pc := 220) C (by decide +kernel) dX4_graph_220 ?_
                            refine q_iload_n (pc := 222) C dX4_graph_222 rfl rfl ?_
                            refine q_imul (pc := 223) C dX4_graph_223 ?_
                            refine q_iload_n (pc := 224) C dX4_graph_224 rfl rfl ?_
                            refine q_iadd (pc := 225) C dX4_graph_225 ?_
                            refine q_iload_n (pc := 226) C dX4_graph_226 rfl rfl ?_
                            refine q_iastore (pc := 227) C k227 n227 (by decide) (by decide) (by omega) (by omega) (by first | exact hR _ _ | exact hRo _ _ | assumption | exact r_bI _ | exact ⟨by omega, by omega⟩) dX4_graph_227 ?_
                            refine q_drop 3 (lv2 := [_, _, _, none]) rfl ?_
                            refine NX (updS (trB σ1 k t) (171 + k) t j) g1 _ (by unfold tr1; rw [if_pos hyes, if_neg hnf, hj3]) ?_ ?_ ?_ ?_ ?_ ?_
                            · intro i q hi hq
                              rw [updS_ne _ _ _ _ (by decide), updS_ne _ _ _ _ (by omega)]
                              exact hgrB i q hi hq
                            · intro i hi
                              rw [updS_ne _ _ _ _ (by omega), updS_ne _ _ _ _ (by omega), updS_ne _ _ _ _ (by omega), updS_ne _ _ _ _ (by omega)]
                              exact hgfB i hi
                            · refine GL_set h8 htT hgl1 (fun i hi j => by rw [updS_ne _ _ _ _ (by omega), trB_ne _ _ (by omega) (by omega)]) (fun u hu => by rw [updS_nk _ _ _ _ (by omega), trB_row _ (by omega), if_neg (by omega)]) (fun j hj => by rw [updS_nk _ _ _ _ hj, y27, hκ2, updS_nk _ _ _ _ hj]) ?_
                              rw [updS_self, updS_self]
                              unfold lk
                              rw [if_neg (by omega)]
                            · rw [updS_ne _ _ _ _ (by decide)]
                              exact h153
                            · rw [updS_ne _ _ _ _ (by decide)]
                              exact h03
                            · intro x j hx
                              unfold scG at hx
                              rw [updS_ne _ _ _ _ (by omega)]
                              exact hfr3 x j (by unfold scG; omega)
                          · exact absurd hq2 hq4
                        · exact absurd hq2 (by omega)
                  have WL9 : ∀ i : Nat, i ≤ P → PW p l e (r0 2) s m args below meth c D cy B 4 0 0 (vx_MQ below (Qp D cy B (qv (fun v μ2 => (bad ∧ μ2 = updS μ 216 0 1) ∨ (¬ bad ∧ grQ μ σf P T gf okf v μ2)))) (Xp D cy B noX) args s (r0 2).cells (r0 2).slots (fun q => B ≤ q)) 116 [some (.ref (B + 216)), some (iN k), some (iN t), some (iN i)] [] (preS κ2 231 i F) := by
                    refine up_to P _ (fun i hi ihi => ?_)
                    have w1 : preS κ2 231 i F 216 1 = P := by rw [preS_ne _ _ _ _ (by decide), hP2]
                    refine q_rng (fun hR => ?_)
                    refine q_iload_n (pc := 116) C dX4_graph_116 rfl rfl ?_
                    refine q_aload_n (pc := 117) C dX4_graph_117 rfl rfl ?_
                    refine q_getI (pc := 118) (ci := 4) (k := 1) (ki := 1) C rfl rfl fiX4_graph_X4 (by decide) k216 (by decide) rfl (by decide) flX4_graph_66 rfl rfl dX4_graph_118 ?_
                    refine q_icmp_ge (pc := 121) (tgt := 171) C (by first | exact hR _ _ | exact hRo _ _ | assumption | exact r_bI _ | exact ⟨by omega, by omega⟩) (by first | exact hR _ _ | exact hRo _ _ | assumption | exact r_bI _ | exact ⟨by omega, by omega⟩) dX4_graph_121 (by decide) (fun hd9 => ?_) (fun hd9 => ?_)
                    · have e : i = P := by omega
                      subst e
                      refine q_drop 3 (lv2 := [_, _, _, none]) rfl ?_
                      exact AFT
                    · have hFr := hfire i (by omega)
                      have hFi := hFq i (by omega)
                      refine q_aload_n (pc := 124) C dX4_graph_124 rfl rfl ?_
                      refine q_getR (pc := 125) (ci := 4) (k := 21) (r := 231) C rfl fiX4_graph_X4 (by decide) k216 (by decide) rfl (by decide) flX4_graph_60 rfl rfl dX4_graph_125 ?_
                      refine q_iload_n (pc := 128) C dX4_graph_128 rfl rfl ?_
                      refine q_aload_n (pc := 129) C dX4_graph_129 rfl rfl ?_
                      refine q_getR (pc := 130) (ci := 4) (k := 16) (r := 226) C rfl fiX4_graph_X4 (by decide) k216 (by decide) rfl (by decide) flX4_graph_45 rfl rfl dX4_graph_130 ?_
                      refine q_bipush (pc := 133) C (by decide +kernel) dX4_graph_133 ?_
                      refine q_iload_n (pc := 135) C dX4_graph_135 rfl rfl ?_
                      refine q_imul (pc := 136) C dX4_graph_136 ?_
                      refine q_iload_n (pc := 137) C dX4_graph_137 rfl rfl ?_
                      refine q_iadd (pc := 138) C dX4_graph_138 ?_
                      refine q_iaload (pc := 139) C k226 n226 (by decide) (by decide) (by omega) (by omega) dX4_graph_139 ?_
                      rw [preS_ne _ _ _ _ (by decide)]
                      refine q_aload_n (pc := 140) C dX4_graph_140 rfl rfl ?_
                      refine q_getR (pc := 141) (ci := 4) (k := 5) (r := 219) C rfl fiX4_graph_X4 (by decide) k216 (by decide) rfl (by decide) flX4_graph_16 rfl rfl dX4_graph_141 ?_
                      refine q_bipush (pc := 144) C (by decide +kernel) dX4_graph_144 ?_
                      refine q_iload_n (pc := 146) C dX4_graph_146 rfl rfl ?_
                      refine q_imul (pc := 147) C dX4_graph_147 ?_
                      refine q_iload_n (pc := 148) C dX4_graph_148 rfl rfl ?_
                      refine q_iadd (pc := 149) C dX4_graph_149 ?_
                      refine q_iaload (pc := 150) C k219 n219 (by decide) (by decide) (by omega) (by omega) dX4_graph_150 ?_
                      rw [preS_ne _ _ _ _ (by decide)]
                      refine q_isub (pc := 151) C dX4_graph_151 ?_
                      refine q_aload_n (pc := 152) C dX4_graph_152 rfl rfl ?_
                      refine q_getR (pc := 153) (ci := 4) (k := 6) (r := 220) C rfl fiX4_graph_X4 (by decide) k216 (by decide) rfl (by decide) flX4_graph_19 rfl rfl dX4_graph_153 ?_
                      refine q_bipush (pc := 156) C (by decide +kernel) dX4_graph_156 ?_
                      refine q_iload_n (pc := 158) C dX4_graph_158 rfl rfl ?_
                      refine q_imul (pc := 159) C dX4_graph_159 ?_
                      refine q_iload_n (pc := 160) C dX4_graph_160 rfl rfl ?_
                      refine q_iadd (pc := 161) C dX4_graph_161 ?_
                      refine q_iaload (pc := 162) C k220 n220 (by decide) (by decide) (by omega) (by omega) dX4_graph_162 ?_
                      rw [preS_ne _ _ _ _ (by decide)]
                      refine q_iadd (pc := 163) C dX4_graph_163 ?_
                      rw [show κ2 226 (6 * (k : Int) + (i : Int)) - κ2 219 (6 * (t : Int) + (i : Int)) + κ2 220 (6 * (t : Int) + (i : Int)) = F i by rw [hF]]
                      refine q_iastore (pc := 164) C k231 n231 (by decide) (by decide) (by omega) (by omega) (by first | exact hR _ _ | exact hRo _ _ | assumption | exact r_bI _ | exact ⟨by omega, by omega⟩) dX4_graph_164 ?_
                      refine q_mu (preS_step κ2 231 i F rfl) ?_
                      refine q_iinc (pc := 165) (lv2 := [_, _, _, _]) C dX4_graph_165 (by decide) rfl rfl ?_
                      refine q_goto (pc := 168) (tgt := 116) C dX4_graph_168 (by decide) ?_
                      exact ihi (by omega)
                  refine q_iconst (pc := 114) C dX4_graph_114 ?_
                  refine q_istore_n (pc := 115) (lv2 := [_, _, _, _]) C dX4_graph_115 rfl (by decide) rfl ?_
                  refine q_mu (preS_0 κ2 231 F).symm ?_
                  exact WL9 0 (by omega)
          refine q_iconst (pc := 83) C dX4_graph_83 ?_
          refine q_istore_n (pc := 84) (lv2 := [_, _, _, _]) C dX4_graph_84 rfl (by decide) rfl ?_
          exact IN T 0 g σ κ (by omega) rfl hkg2 hN2 hG hs hgr hgf hgl ⟨hnx, fun u hu => absurd hu (by omega)⟩ h15 h0 hfr
    obtain ⟨κ0, hκ0⟩ : ∃ κ0 : St, κ0 = updS (updS μ 216 0 0) 216 15 0 := ⟨_, rfl⟩
    have z9 : ∀ {x : Nat} (j : Int), x ≠ 216 → κ0 x j = μ x j := fun j hx => by rw [hκ0, updS_ne _ _ _ _ hx, updS_ne _ _ _ _ hx]
    have z8 : ∀ {j : Int}, j ≠ 0 → j ≠ 15 → κ0 216 j = μ 216 j := fun h1 h2 => by rw [hκ0, updS_nk _ _ _ _ h2, updS_nk _ _ _ _ h1]
    have z0 : κ0 216 0 = 0 := by rw [hκ0, updS_nk _ _ _ _ (by decide), updS_self]
    have z15 : κ0 216 15 = ((0 : Nat) : Int) := by rw [hκ0, updS_self]; rfl
    have z1 : κ0 216 1 = P := by rw [z8 (by decide) (by decide)]; exact hM.1
    have FI : ∀ i : Nat, i ≤ P → PW p l e (r0 2) s m args below meth c D cy B 4 0 0 (vx_MQ below (Qp D cy B (qv (fun v μ2 => (bad ∧ μ2 = updS μ 216 0 1) ∨ (¬ bad ∧ grQ μ σf P T gf okf v μ2)))) (Xp D cy B noX) args s (r0 2).cells (r0 2).slots (fun q => B ≤ q)) 39 [some (.ref (B + 216)), some (iN i), none, none] [] (preS κ0 231 i (fun q => μ 217 q)) := by
      refine up_to P _ (fun i hi ih => ?_)
      have y1 : preS κ0 231 i (fun q => μ 217 q) 216 1 = P := by rw [preS_ne _ _ _ _ (by decide), z1]
      refine q_rng (fun hR => ?_)
      refine q_iload_n (pc := 39) C dX4_graph_39 rfl rfl ?_
      refine q_aload_n (pc := 40) C dX4_graph_40 rfl rfl ?_
      refine q_getI (pc := 41) (ci := 4) (k := 1) (ki := 1) C rfl rfl fiX4_graph_X4 (by decide) k216 (by decide) rfl (by decide) flX4_graph_66 rfl rfl dX4_graph_41 ?_
      refine q_icmp_ge (pc := 44) (tgt := 65) C (by first | exact hR _ _ | exact hRo _ _ | assumption | exact r_bI _ | exact ⟨by omega, by omega⟩) (by first | exact hR _ _ | exact hRo _ _ | assumption | exact r_bI _ | exact ⟨by omega, by omega⟩) dX4_graph_44 (by decide) (fun hc => ?_) (fun hc => ?_)
      · have e : i = P := by omega
        obtain ⟨κ1, hκ1⟩ : ∃ κ1 : St, κ1 = preS κ0 231 i (fun q => μ 217 q) := ⟨_, rfl⟩
        have y9 : ∀ {x : Nat} (j : Int), x ≠ 231 → κ1 x j = κ0 x j := fun j hx => by rw [hκ1, preS_ne _ _ _ _ hx]
        refine q_mu hκ1.symm ?_
        refine q_aload_n (pc := 65) C dX4_graph_65 rfl rfl ?_
        refine q_bipush (pc := 66) C (by decide +kernel) dX4_graph_66 ?_
        refine q_bipush (pc := 68) C (by decide +kernel) dX4_graph_68 ?_
        refine q_callV (pc := 70) (As := [_, _]) (rest := []) C (m_addState hlf D cy B (P := P) (g := 0) (u := -2) (t := -2) (by rw [y9 _ (by decide)]; exact z1) h6 (by rw [y9 _ (by decide)]; exact z15) (by decide) ⟨by decide, by decide⟩ ⟨by decide, by decide⟩) (cwV 2 C.2.2.2.2.1 gX4_graph_X4_addState rfl rfl rfl (by decide +kernel) ⟨Nat.le_of_ble_eq_true rfl, Nat.le_of_ble_eq_true rfl⟩) (ci := 4) rfl k216 (by decide) (by decide) rfl rfl (by first | decide | simp [Value.category]) dX4_graph_70 (by decide) (fun _ _ h => h.elim) (fun v μ9 hv => ?_)
        have e8 := hv.1
        have e9 := hv.2.symm
        clear hv
        subst e8
        subst e9
        dsimp only [Option.toList, List.cons_append, List.nil_append]
        refine q_iconst (pc := 73) C dX4_graph_73 ?_
        refine q_istore_n (pc := 74) (lv2 := [_, _, _, _]) C dX4_graph_74 rfl (by decide) rfl ?_
        have hfr : frG μ (asM κ1 P 0 (-2) (-2)) := by
          intro x j hx
          by_cases e2 : x = 216
          · subst e2
            unfold scG at hx
            rw [asM_16 _ _ _ _ _ (by omega), y9 _ (by decide), z8 (by omega) (by omega)]
          · unfold scG at hx
            rw [asM_lo _ _ _ _ _ _ (by omega) (by omega) (by omega) (by omega), y9 _ (by omega), z9 _ (by omega)]
        have hw0 : ∀ q : Nat, q < 6 → (q < P → κ1 231 q = updS (cpS ν 215 2) 128 1 0 215 q) ∧ (P ≤ q → updS (cpS ν 215 2) 128 1 0 215 q = 0) := by
          intro q hq
          rw [updS_ne _ _ _ _ (by decide), cpS_ap, if_pos ⟨rfl, by omega, by omega⟩]
          refine ⟨fun hqP => ?_, fun hqP => (hZ q hq hqP).1⟩
          rw [hκ1, preS_ap, if_pos ⟨rfl, by omega, by omega⟩]
          exact hM.2.2.1 q hq
        obtain ⟨a1, a2⟩ := add_cpl (σ := updS (cpS ν 215 2) 128 1 0) (κ := κ1) (P := P) (g := 0) (f := -2) (b := -2) (d := 0) h6 (by decide) (fun i q hi => absurd hi (by omega)) (fun i hi => absurd hi (by omega)) hw0
        exact OUT 40 0 1 (b0S ν) (asM κ1 P 0 (-2) (-2)) rfl hrun (by decide) (NI_b0 hN) (GI_b0 hN) (fun x j hx => b0S_out ν hx j) a1 a2 (fun i u hc9 => by rcases hc9 with ⟨y1, y2⟩ | ⟨y1, y2⟩ <;> omega) (fun i hi => absurd hi (by omega)) (asM_15 _ _ _ _ _) (by rw [asM_16 _ _ _ _ _ (by decide), y9 _ (by decide)]; exact z0) hfr
      · refine q_aload_n (pc := 47) C dX4_graph_47 rfl rfl ?_
        refine q_getR (pc := 48) (ci := 4) (k := 21) (r := 231) C rfl fiX4_graph_X4 (by decide) k216 (by decide) rfl (by decide) flX4_graph_60 rfl rfl dX4_graph_48 ?_
        refine q_iload_n (pc := 51) C dX4_graph_51 rfl rfl ?_
        refine q_aload_n (pc := 52) C dX4_graph_52 rfl rfl ?_
        refine q_getR (pc := 53) (ci := 4) (k := 3) (r := 217) C rfl fiX4_graph_X4 (by decide) k216 (by decide) rfl (by decide) flX4_graph_7 rfl rfl dX4_graph_53 ?_
        refine q_iload_n (pc := 56) C dX4_graph_56 rfl rfl ?_
        refine q_iaload (pc := 57) C k217 n217 (by decide) (by decide) (by omega) (by omega) dX4_graph_57 ?_
        rw [preS_ne _ _ _ _ (by decide), z9 _ (by decide)]
        have hR := hRo
        refine q_iastore (pc := 58) C k231 n231 (by decide) (by decide) (by omega) (by omega) (by first | exact hR _ _ | exact hRo _ _ | assumption | exact r_bI _ | exact ⟨by omega, by omega⟩) dX4_graph_58 ?_
        refine q_mu (preS_step κ0 231 i (fun q => μ 217 q) rfl) ?_
        refine q_iinc (pc := 59) (lv2 := [_, _, _, _]) C dX4_graph_59 (by decide) rfl rfl ?_
        refine q_goto (pc := 62) (tgt := 39) C dX4_graph_62 (by decide) ?_
        exact ih (by omega)
    refine q_aload_n (pc := 32) C dX4_graph_32 rfl rfl ?_
    refine q_iconst (pc := 33) C dX4_graph_33 ?_
    refine q_put (pc := 34) (ci := 4) (k := 15) (ki := 15) (ty0 := tyX4) C rfl rfl fiX4_graph_X4 (by decide) k216 (by decide) rfl (by decide) flX4_graph_42 rfl tyX4_ok nmX4 rfl rfl rfl (by first | exact hR _ _ | exact hRo _ _ | assumption | exact r_bI _ | exact ⟨by omega, by omega⟩) dX4_graph_34 ?_
    refine q_iconst (pc := 37) C dX4_graph_37 ?_
    refine q_istore_n (pc := 38) (lv2 := [_, _, _, _]) C dX4_graph_38 rfl (by decide) rfl ?_
    refine q_mu hκ0.symm ?_
    refine q_mu (preS_0 κ0 231 (fun q => μ 217 q)).symm ?_
    exact FI 0 (by omega)
  have J : ∀ c9 : Int, (c9 = 1 ∧ bad) ∨ (c9 = 0 ∧ ¬ bad) → PW p l e (r0 2) s m args below meth c D cy B 4 0 0 (vx_MQ below (Qp D cy B (qv (fun v μ2 => (bad ∧ μ2 = updS μ 216 0 1) ∨ (¬ bad ∧ grQ μ σf P T gf okf v μ2)))) (Xp D cy B noX) args s (r0 2).cells (r0 2).slots (fun q => B ≤ q)) 20 [some (.ref (B + 216)), none, none, none] [iN c9, .ref (B + 216)] μ := by
    intro c9 hc9
    have hr9 : InR c9 := by rcases hc9 with ⟨z, -⟩ | ⟨z, -⟩ <;> rw [z] <;> exact ⟨by decide, by decide⟩
    refine q_put (pc := 20) (ci := 4) (k := 0) (ki := 0) (ty0 := tyX4) C rfl rfl fiX4_graph_X4 (by decide) k216 (by decide) rfl (by decide) flX4_graph_63 rfl tyX4_ok nmX4 rfl rfl rfl (by first | exact hR _ _ | exact hRo _ _ | assumption | exact r_bI _ | exact ⟨by omega, by omega⟩) dX4_graph_20 ?_
    refine q_aload_n (pc := 23) C dX4_graph_23 rfl rfl ?_
    refine q_getI (pc := 24) (ci := 4) (k := 0) (ki := 0) C rfl rfl fiX4_graph_X4 (by decide) k216 (by decide) rfl (by decide) flX4_graph_63 rfl rfl dX4_graph_24 ?_
    simp only [updS_ap, Nat.reduceEqDiff, Int.reduceEq, Int.toNat_natCast, false_and, true_and, and_false, and_true, and_self, if_false, if_true, ↓reduceIte]
    refine q_if_le (pc := 27) (tgt := 32) C (by first | exact hR _ _ | exact hRo _ _ | assumption | exact r_bI _ | exact ⟨by omega, by omega⟩) dX4_graph_27 (by decide) (fun hq => ?_) (fun hq => ?_)
    · rcases hc9 with ⟨z, y⟩ | ⟨z, y⟩
      · exact absurd hq (by omega)
      · subst z
        exact MAIN y
    · refine q_iconst (pc := 30) C dX4_graph_30 ?_
      exact q_iret (pc := 31) C hret ⟨0, r_0, rfl, by rcases hc9 with ⟨z, y⟩ | ⟨z, y⟩; exact Or.inl ⟨y, by rw [z]⟩; exact absurd hq (by omega)⟩ (by decide) (by decide) dX4_graph_31
  refine q_aload_n (pc := 0) C dX4_graph_0 rfl rfl ?_
  refine q_aload_n (pc := 1) C dX4_graph_1 rfl rfl ?_
  refine q_getI (pc := 2) (ci := 4) (k := 7) (ki := 7) C rfl rfl fiX4_graph_X4 (by decide) k216 (by decide) rfl (by decide) flX4_graph_22 rfl rfl dX4_graph_2 ?_
  refine q_if_lt (pc := 5) (tgt := 15) C (by first | exact hR _ _ | exact hRo _ _ | assumption | exact r_bI _ | exact ⟨by omega, by omega⟩) dX4_graph_5 (by decide) (fun h1 => ?_) (fun h1 => ?_)
  · refine q_iconst (pc := 15) C dX4_graph_15 ?_
    refine q_goto (pc := 16) (tgt := 20) C dX4_graph_16 (by decide) ?_
    exact J 1 (Or.inl ⟨rfl, hbad.mpr (Or.inl h1)⟩)
  · obtain ⟨n8, hn8⟩ : ∃ n8 : Nat, μ 216 7 = n8 := ⟨(μ 216 7).toNat, by omega⟩
    rw [hn8] at hbad
    rw [show ((n8 : Nat) : Int).toNat = n8 from rfl] at hbad
    refine q_aload_n (pc := 8) C dX4_graph_8 rfl rfl ?_
    refine q_callV (pc := 9) (As := []) (rest := [_]) C (m_anyEndless hlf D cy B (P := P) (n := n8) hM.1 h6 hn8 (by omega)) (cwV 0 C.2.2.2.2.1 gX4_graph_X4_anyEndless rfl rfl rfl (by decide +kernel) ⟨Nat.le_of_ble_eq_true rfl, Nat.le_of_ble_eq_true rfl⟩) (ci := 4) rfl k216 (by decide) (by decide) rfl rfl (by first | decide | simp [Value.category]) dX4_graph_9 (by decide) (fun _ _ h => h.elim) (fun v μ9 hv => ?_)
    have e8 := hv.1
    have e9 := hv.2.symm
    clear hv
    subst e8
    subst e9
    dsimp only [Option.toList, List.cons_append, List.nil_append]
    have hb1 := bI_01 (∃ q : Nat, q < P ∧ gmax (fun i => μ 221 (ix i q)) n8 = 1000000000)
    refine q_if_eq (pc := 12) (tgt := 19) C (by first | exact hR _ _ | exact hRo _ _ | assumption | exact r_bI _ | exact ⟨by omega, by omega⟩) dX4_graph_12 (by decide) (fun h2 => ?_) (fun h2 => ?_)
    · have hno := bI_0.mp h2
      refine q_iconst (pc := 19) C dX4_graph_19 ?_
      exact J 0 (Or.inr ⟨rfl, fun z => by rcases hbad.mp z with y | y; exact absurd y (by omega); exact hno y⟩)
    · refine q_iconst (pc := 15) C dX4_graph_15 ?_
      refine q_goto (pc := 16) (tgt := 20) C dX4_graph_16 (by decide) ?_
      exact J 1 (Or.inl ⟨rfl, hbad.mpr (Or.inr (bI_1.mp (show bI (∃ q : Nat, q < P ∧ gmax (fun i => μ 221 (ix i q)) n8 = 1000000000) = 1 by omega)))⟩)

