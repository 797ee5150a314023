theorem fiX2_grow_X1 : ∀ w ∈ u_ws RX1 TX1 5, w ∈ wsX2_grow := by decide +kernel
theorem fiX2_grow_X2 : ∀ w ∈ u_ws RX2 TX2 9, w ∈ wsX2_grow := by decide +kernel
theorem flX2_grow_30 : Cond.fieldLink RX2 30 RX2 (TX2 0).2.1 (TX2 0).2.2.1 ∈ wsX2_grow := by decide +kernel
theorem flX2_grow_47 : Cond.fieldLink RX2 47 RX2 (TX2 1).2.1 (TX2 1).2.2.1 ∈ wsX2_grow := by decide +kernel
theorem flX2_grow_11 : Cond.fieldLink RX2 11 RX2 (TX2 4).2.1 (TX2 4).2.2.1 ∈ wsX2_grow := by decide +kernel
theorem flX2_grow_16 : Cond.fieldLink RX2 16 RX2 (TX2 5).2.1 (TX2 5).2.2.1 ∈ wsX2_grow := by decide +kernel
theorem flX2_grow_20 : Cond.fieldLink RX2 20 RX2 (TX2 6).2.1 (TX2 6).2.2.1 ∈ wsX2_grow := by decide +kernel
theorem flX2_grow_26 : Cond.fieldLink RX2 26 RX2 (TX2 8).2.1 (TX2 8).2.2.1 ∈ wsX2_grow := by decide +kernel
def pot (μ : St) : Nat → Nat → Nat → Nat
  | 0, _, t => 9 - t
  | d + 1, u, t => (9 - t) + pot μ d (μ 124 u).toNat ((μ 125 u).toNat + 1)
theorem pot_t (μ : St) (d u t : Nat) (ht : t < 9) : pot μ d u t = pot μ d u (t + 1) + 1 := by
  cases d with
  | zero => unfold pot; omega
  | succ d => unfold pot; omega
theorem pot_pos (μ : St) (d u t : Nat) (ht : t < 9) : 1 ≤ pot μ d u t := by
  cases d with
  | zero => unfold pot; omega
  | succ d => unfold pot; omega
theorem pot_congr {μ σ : St} {n : Nat} (hch : chP μ n) (e : ∀ i : Nat, i < n → σ 124 i = μ 124 i ∧ σ 125 i = μ 125 i) : ∀ (d u t : Nat), u < n → μ 126 u = d → pot σ d u t = pot μ d u t := by
  intro d
  induction d with
  | zero => exact fun u t hu hd => rfl
  | succ d ih =>
    intro u t hu hd
    rcases hch u hu with ⟨-, z⟩ | ⟨j, f, hj, z1, z2, z3⟩
    · rw [z] at hd; omega
    · unfold pot
      rw [(e u hu).1, (e u hu).2, z1, ih _ _ (by simpa using (by omega : j < n)) (by rw [Int.toNat_natCast, z2]; rw [z3] at hd; omega)]
def runT : Nat → St → Nat → Nat → Nat → (St × Nat × Nat)
  | 0, σ, n, _, _ => (σ, n, 0)
  | k + 1, σ, n, u, t =>
    if σ 127 u = 1 ∨ (t : Int) = σ 1 1 then (if u = 0 then (σ, n, 1) else runT k σ n (σ 124 u).toNat ((σ 125 u).toNat + 1))
    else if enP σ (24 + u) t then (if n = 100 then (σ, n, 2) else runT k (chS σ n u t) (n + 1) n 0)
    else runT k σ n u (t + 1)
def growQ (μ : St) (P T : Nat) : Option Value → St → Prop := fun r μ2 => ∃ (σ : St) (n k : Nat), k ≤ 900 ∧ NI σ P T ∧ TI σ T n ∧ (∀ x k, x ≠ 22 → (x < 24 ∨ 128 ≤ x) → σ x k = μ x k) ∧
  ((runT 900 (rootS μ) 1 0 0 = (σ, n, 1) ∧ r = some (iN 1) ∧ μ2 = σ) ∨ (runT 900 (rootS μ) 1 0 0 = (σ, n, 2) ∧ r = some (iN 0) ∧ μ2 = updS σ 22 1 0))
theorem rootS_out (μ : St) {x : Nat} (h1 : x ≠ 22) (h2 : x < 24 ∨ 128 ≤ x) (k : Int) : rootS μ x k = μ x k := by
  unfold rootS
  rw [updS_ne _ _ _ _ (by omega), updS_ne _ _ _ _ (by omega), updS_ne _ _ _ _ (by omega), updS_ne _ _ _ _ (by omega), updS_ne _ _ _ _ (by omega), updS_ne _ _ _ _ (by omega), cpS_ap, if_neg (by omega)]
set_option maxHeartbeats 4000000 in
set_option maxRecDepth 100000 in
theorem c_grow {l : Launch} (hlf : l.stackTraces = false) (D : va_G) (cy : Nat → ClassId) (B : Nat) {μ : St} {P T : Nat} (hN : NI μ P T) : PC l D cy B yX2_grow wsX2_grow (r0 3) [.ref (B + 22)] μ (growQ μ P T) noX := by
  refine PC.pre (fun hR => ?_)
  refine q_start (cc := cX2_grow) (maxL := 4) (ret := (some .boolean)) hlf (by decide +kernel) rfl (by simp [Value.category]) (Nat.le_of_ble_eq_true rfl) ?_
  intro p e s m args below meth c C hret hno
  show PW p l e (r0 3) s m args below meth c D cy B 4 0 0 _ 0 [some (.ref (B + 22)), none, none, none] [] μ
  have L : ∀ (k : Nat) (σ : St) (n u t : Nat), k ≤ 900 → NI σ P T → TI σ T n → u < n → t ≤ T → 9 * (100 - n) + pot σ (σ 126 u).toNat u t ≤ k → runT k σ n u t = runT 900 (rootS μ) 1 0 0 → (∀ x k, x ≠ 22 → (x < 24 ∨ 128 ≤ x) → σ x k = μ x k) → PW p l e (r0 3) s m args below meth c D cy B 4 0 0 (vx_MQ below (Qp D cy B (growQ μ P T)) (Xp D cy B noX) args s (r0 3).cells (r0 3).slots (fun q => B ≤ q)) 10 [some (.ref (B + 22)), some (iN u), some (iN t), some (iN (900 - k))] [] σ := by
    intro k
    induction k with
    | zero =>
      intro σ n u t _ hN _ _ ht hp
      exact absurd (pot_pos σ (σ 126 u).toNat u t (by have := hN.2.1; omega)) (by omega)
    | succ k ih =>
      intro σ n u t hk hN hT hu ht hp hrun hout
      have h8 := hN.2.1
      have hT1 := hN.2.2.2.1
      obtain ⟨g1, g2, g3, g4, g5, g6, g7, g8, g9, g10⟩ := id hT
      obtain ⟨d, hd1, hd2⟩ := chP_le g4 u hu
      have hu100 : u < 100 := by omega
      have hdn : (σ 126 u).toNat = d := by omega
      rw [hdn] at hp
      have eK : (900 - ((k + 1 : Nat) : Int)) + 1 = 900 - (k : Int) := by omega
      have h7 := g7 u hu
      have UP : (σ 127 u = 1 ∨ (t : Int) = σ 1 1) → PW p l e (r0 3) s m args below meth c D cy B 4 0 0 (vx_MQ below (Qp D cy B (growQ μ P T)) (Xp D cy B noX) args s (r0 3).cells (r0 3).slots (fun q => B ≤ q)) 43 [some (.ref (B + 22)), some (iN u), some (iN t), some (iN (900 - ((k + 1 : Nat) : Int)))] [] σ := by
        intro hup
        by_cases h0 : u = 0
        · subst h0
          refine q_aload_n (pc := 43) C dX2_grow_43 rfl rfl ?_
          refine q_getR (pc := 44) (ci := 2) (k := 6) (r := 125) C rfl fiX2_grow_X2 (by decide) k22 (by decide) rfl (by decide) flX2_grow_20 rfl rfl dX2_grow_44 ?_
          refine q_iload_n (pc := 47) C dX2_grow_47 rfl rfl ?_
          refine q_iaload (pc := 48) C k125 n125 (by decide) (by decide) (by omega) (by omega) dX2_grow_48 ?_
          rw [show ((0 : Nat) : Int) = 0 from rfl, g10]
          refine q_iconst (pc := 49) C dX2_grow_49 ?_
          refine q_iadd (pc := 50) C dX2_grow_50 ?_
          refine q_istore_n (pc := 51) (lv2 := [_, _, _, _]) C dX2_grow_51 rfl (by decide) rfl ?_
          refine q_aload_n (pc := 52) C dX2_grow_52 rfl rfl ?_
          refine q_getR (pc := 53) (ci := 2) (k := 5) (r := 124) C rfl fiX2_grow_X2 (by decide) k22 (by decide) rfl (by decide) flX2_grow_16 rfl rfl dX2_grow_53 ?_
          refine q_iload_n (pc := 56) C dX2_grow_56 rfl rfl ?_
          refine q_iaload (pc := 57) C k124 n124 (by decide) (by decide) (by omega) (by omega) dX2_grow_57 ?_
          rw [g9]
          refine q_istore_n (pc := 58) (lv2 := [_, _, _, _]) C dX2_grow_58 rfl (by decide) rfl ?_
          refine q_goto (pc := 59) (tgt := 110) C dX2_grow_59 (by decide) ?_
          refine q_iinc (pc := 110) (lv2 := [_, _, _, _]) C dX2_grow_110 (by decide) rfl rfl ?_
          refine q_goto (pc := 113) (tgt := 10) C dX2_grow_113 (by decide) ?_
          rw [eK]
          have hend : PW p l e (r0 3) s m args below meth c D cy B 4 0 0 (vx_MQ below (Qp D cy B (growQ μ P T)) (Xp D cy B noX) args s (r0 3).cells (r0 3).slots (fun q => B ≤ q)) 116 [some (.ref (B + 22)), some (iN (-2)), some (iN (-2 + 1)), some (iN (900 - (k : Int)))] [] σ := by
            refine q_iconst (pc := 116) C dX2_grow_116 ?_
            exact q_zret (pc := 117) C hret (by first | exact Or.inl rfl | exact Or.inr rfl | assumption) ⟨σ, n, k, by omega, hN, hT, hout, Or.inl ⟨by rw [← hrun]; unfold runT; rw [if_pos hup, if_pos rfl], rfl, rfl⟩⟩ (by decide) (by decide) dX2_grow_117
          refine q_iload_n (pc := 10) C dX2_grow_10 rfl rfl ?_
          refine q_sipush (pc := 11) C (by decide +kernel) dX2_grow_11 ?_
          refine q_icmp_ge (pc := 14) (tgt := 116) C (by first | exact hR _ _ | exact hRo _ _ | assumption | exact ⟨by omega, by omega⟩) (by first | exact hR _ _ | exact hRo _ _ | assumption | exact ⟨by omega, by omega⟩) dX2_grow_14 (by decide) (fun hq => ?_) (fun hq => ?_)
          · exact hend
          · refine q_iload_n (pc := 17) C dX2_grow_17 rfl rfl ?_
            refine q_bipush (pc := 18) C (by decide +kernel) dX2_grow_18 ?_
            refine q_icmp_eq (pc := 20) (tgt := 116) C (by first | exact hR _ _ | exact hRo _ _ | assumption | exact ⟨by omega, by omega⟩) (by first | exact hR _ _ | exact hRo _ _ | assumption | exact ⟨by omega, by omega⟩) dX2_grow_20 (by decide) (fun hq2 => ?_) (fun hq2 => ?_)
            · exact hend
            · exact absurd rfl hq2
        · rcases g4 u hu with ⟨z, -⟩ | ⟨j, f, hj, z1, z2, z3⟩
          · exact absurd z h0
          · obtain ⟨b, hb1, hb2⟩ := g6 u (by omega) hu
            refine q_aload_n (pc := 43) C dX2_grow_43 rfl rfl ?_
            refine q_getR (pc := 44) (ci := 2) (k := 6) (r := 125) C rfl fiX2_grow_X2 (by decide) k22 (by decide) rfl (by decide) flX2_grow_20 rfl rfl dX2_grow_44 ?_
            refine q_iload_n (pc := 47) C dX2_grow_47 rfl rfl ?_
            refine q_iaload (pc := 48) C k125 n125 (by decide) (by decide) (by omega) (by omega) dX2_grow_48 ?_
            rw [hb1]
            refine q_iconst (pc := 49) C dX2_grow_49 ?_
            refine q_iadd (pc := 50) C dX2_grow_50 ?_
            refine q_istore_n (pc := 51) (lv2 := [_, _, _, _]) C dX2_grow_51 rfl (by decide) rfl ?_
            refine q_aload_n (pc := 52) C dX2_grow_52 rfl rfl ?_
            refine q_getR (pc := 53) (ci := 2) (k := 5) (r := 124) C rfl fiX2_grow_X2 (by decide) k22 (by decide) rfl (by decide) flX2_grow_16 rfl rfl dX2_grow_53 ?_
            refine q_iload_n (pc := 56) C dX2_grow_56 rfl rfl ?_
            refine q_iaload (pc := 57) C k124 n124 (by decide) (by decide) (by omega) (by omega) dX2_grow_57 ?_
            rw [z1]
            refine q_istore_n (pc := 58) (lv2 := [_, _, _, _]) C dX2_grow_58 rfl (by decide) rfl ?_
            refine q_goto (pc := 59) (tgt := 110) C dX2_grow_59 (by decide) ?_
            refine q_iinc (pc := 110) (lv2 := [_, _, _, _]) C dX2_grow_110 (by decide) rfl rfl ?_
            refine q_goto (pc := 113) (tgt := 10) C dX2_grow_113 (by decide) ?_
            rw [eK]
            have hdf : d = f + 1 := by rw [z3] at hd1; omega
            subst hdf
            refine ih σ n j (b + 1) (by omega) hN hT (by omega) (by omega) ?_ ?_ hout
            · rw [show (σ 126 (j : Int)).toNat = f by rw [z2]; rfl]
              unfold pot at hp
              rw [z1, hb1] at hp
              simp only [Int.toNat_natCast] at hp
              omega
            · rw [← hrun, runT, if_pos hup, if_neg h0, z1, hb1]
              rfl
      have EX : ¬ (σ 127 u = 1 ∨ (t : Int) = σ 1 1) → t < T → PW p l e (r0 3) s m args below meth c D cy B 4 0 0 (vx_MQ below (Qp D cy B (growQ μ P T)) (Xp D cy B noX) args s (r0 3).cells (r0 3).slots (fun q => B ≤ q)) 62 [some (.ref (B + 22)), some (iN u), some (iN t), some (iN (900 - ((k + 1 : Nat) : Int)))] [] σ := by
        intro hup htT
        refine q_rng (fun hR => ?_)
        refine q_aload_n (pc := 62) C dX2_grow_62 rfl rfl ?_
        refine q_getR (pc := 63) (ci := 2) (k := 0) (r := 1) C rfl fiX2_grow_X2 (by decide) k22 (by decide) rfl (by decide) flX2_grow_30 rfl rfl dX2_grow_63 ?_
        refine q_aload_n (pc := 66) C dX2_grow_66 rfl rfl ?_
        refine q_getR (pc := 67) (ci := 2) (k := 4) (r := 23) C rfl fiX2_grow_X2 (by decide) k22 (by decide) rfl (by decide) flX2_grow_11 rfl rfl dX2_grow_67 ?_
        refine q_iload_n (pc := 70) C dX2_grow_70 rfl rfl ?_
        first | refine q_aaloadN (pc := 71) C k23 n23 (by decide) (by decide) (by omega) rfl dX2_grow_71 ?_ | refine q_aaload (pc := 71) C k23 n23 (by decide) (by decide) (by omega) (by omega) rfl dX2_grow_71 ?_
        refine q_iload_n (pc := 72) C dX2_grow_72 rfl rfl ?_
        refine q_callV (pc := 73) (As := [_, _]) (rest := []) C (c_enables hlf D cy B (a := 24 + u) (t := t) (k_r23 (by omega)) (n_r23 (by omega)) (l_r23 (by omega)) (by omega)) (cwV 2 C.2.2.2.2.1 gX2_grow_X1_enables rfl rfl rfl (by decide +kernel) ⟨Nat.le_of_ble_eq_true rfl, Nat.le_of_ble_eq_true rfl⟩) (ci := 1) rfl k1 (by decide) (by decide) rfl rfl (by first | decide | simp [Value.category]) dX2_grow_73 (by decide) (fun _ _ h => h.elim) (fun v σ9 hv => ?_)
        obtain ⟨rfl, rfl⟩ := hv
        have hz := bI_01 (∀ q : Nat, q < 6 → σ9 (4 + t) q ≤ σ9 (24 + u) q)
        refine q_if_ne (pc := 76) (tgt := 85) C (by first | exact hR _ _ | exact hRo _ _ | assumption | exact ⟨by omega, by omega⟩) dX2_grow_76 (by decide) (fun hq => ?_) (fun hq => ?_)
        · have hen := bI_1.mp (show bI (∀ q : Nat, q < 6 → σ9 (4 + t) q ≤ σ9 (24 + u) q) = 1 by omega)
          refine q_aload_n (pc := 85) C dX2_grow_85 rfl rfl ?_
          refine q_getI (pc := 86) (ci := 2) (k := 1) (ki := 1) C rfl rfl fiX2_grow_X2 (by decide) k22 (by decide) rfl (by decide) flX2_grow_47 rfl rfl dX2_grow_86 ?_
          rw [g3]
          refine q_bipush (pc := 89) C (by decide +kernel) dX2_grow_89 ?_
          refine q_icmp_ne (pc := 91) (tgt := 101) C (by first | exact hR _ _ | exact hRo _ _ | assumption | exact ⟨by omega, by omega⟩) (by first | exact hR _ _ | exact hRo _ _ | assumption | exact ⟨by omega, by omega⟩) dX2_grow_91 (by decide) (fun hq2 => ?_) (fun hq2 => ?_)
          · have hn : n < 100 := by omega
            refine q_aload_n (pc := 101) C dX2_grow_101 rfl rfl ?_
            refine q_iload_n (pc := 102) C dX2_grow_102 rfl rfl ?_
            refine q_iload_n (pc := 103) C dX2_grow_103 rfl rfl ?_
            refine q_callV (pc := 104) (As := [_, _]) (rest := []) C (c_addChild hlf D cy B (n := n) (u := u) (t := t) hn g3 hu (by omega) g4 (fireV_r hN hT hu htT hen)) (cwV 2 C.2.2.2.2.1 gX2_grow_X2_addChild rfl rfl rfl (by decide +kernel) ⟨Nat.le_of_ble_eq_true rfl, Nat.le_of_ble_eq_true rfl⟩) (ci := 2) rfl k22 (by decide) (by decide) rfl rfl (by first | decide | simp [Value.category]) dX2_grow_104 (by decide) (fun _ _ h => h.elim) (fun v σ8 hv => ?_)
            obtain ⟨rfl, rfl⟩ := hv
            dsimp only [Option.toList, List.cons_append, List.nil_append]
            refine q_istore_n (pc := 107) (lv2 := [_, _, _, _]) C dX2_grow_107 rfl (by decide) rfl ?_
            refine q_iconst (pc := 108) C dX2_grow_108 ?_
            refine q_istore_n (pc := 109) (lv2 := [_, _, _, _]) C dX2_grow_109 rfl (by decide) rfl ?_
            refine q_iinc (pc := 110) (lv2 := [_, _, _, _]) C dX2_grow_110 (by decide) rfl rfl ?_
            refine q_goto (pc := 113) (tgt := 10) C dX2_grow_113 (by decide) ?_
            rw [eK]
            refine ih (chS σ9 n u t) (n + 1) n 0 (by omega) (NI_ch hN hn u t) (TI_ch hN hT hn hu htT hen) (by omega) (by omega) ?_ ?_ (fun x k h1 h2 => by rw [chS_out _ hn _ _ h1 h2]; exact hout x k h1 h2)
            · rw [chS_126 _ hn, if_pos rfl, hd1, show (((d : Nat) : Int) + 1).toNat = d + 1 by omega]
              unfold pot
              rw [chS_124 _ hn, if_pos rfl, chS_125 _ hn, if_pos rfl]
              simp only [Int.toNat_natCast]
              rw [pot_congr g4 (fun i hi => by rw [chS_124 _ hn, if_neg (by omega), chS_125 _ hn, if_neg (by omega)]; exact ⟨rfl, rfl⟩) d u (t + 1) hu hd1]
              have := pot_t σ9 d u t (by omega)
              omega
            · rw [← hrun, runT, if_neg hup, if_pos hen, if_neg (by omega)]
          · refine q_aload_n (pc := 94) C dX2_grow_94 rfl rfl ?_
            refine q_iconst (pc := 95) C dX2_grow_95 ?_
            refine q_put (pc := 96) (ci := 2) (k := 1) (ki := 1) (ty0 := tyX2) C rfl rfl fiX2_grow_X2 (by decide) k22 (by decide) rfl (by decide) flX2_grow_47 rfl tyX2_ok nmX2 rfl rfl rfl (by first | exact hR _ _ | exact hRo _ _ | assumption | exact ⟨by omega, by omega⟩) dX2_grow_96 ?_
            refine q_iconst (pc := 99) C dX2_grow_99 ?_
            exact q_zret (pc := 100) C hret (by first | exact Or.inl rfl | exact Or.inr rfl | assumption) ⟨σ9, n, k, by omega, hN, hT, hout, Or.inr ⟨by rw [← hrun]; unfold runT; rw [if_neg hup, if_pos hen, if_pos (by omega)], rfl, rfl⟩⟩ (by decide) (by decide) dX2_grow_100
        · have hen := bI_0.mp hq
          refine q_iinc (pc := 79) (lv2 := [_, _, _, _]) C dX2_grow_79 (by decide) rfl rfl ?_
          refine q_goto (pc := 82) (tgt := 110) C dX2_grow_82 (by decide) ?_
          refine q_iinc (pc := 110) (lv2 := [_, _, _, _]) C dX2_grow_110 (by decide) rfl rfl ?_
          refine q_goto (pc := 113) (tgt := 10) C dX2_grow_113 (by decide) ?_
          rw [eK]
          refine ih σ9 n u (t + 1) (by omega) hN hT hu (by omega) ?_ ?_ hout
          · rw [hdn]
            have := pot_t σ9 d u t (by omega)
            omega
          · rw [← hrun, runT, if_neg hup, if_neg hen]
      refine q_iload_n (pc := 10) C dX2_grow_10 rfl rfl ?_
      refine q_sipush (pc := 11) C (by decide +kernel) dX2_grow_11 ?_
      refine q_icmp_ge (pc := 14) (tgt := 116) C (by first | exact hR _ _ | exact hRo _ _ | assumption | exact ⟨by omega, by omega⟩) (by first | exact hR _ _ | exact hRo _ _ | assumption | exact ⟨by omega, by omega⟩) dX2_grow_14 (by decide) (fun hq => ?_) (fun hq => ?_)
      · exact absurd hq (by omega)
      · refine q_iload_n (pc := 17) C dX2_grow_17 rfl rfl ?_
        refine q_bipush (pc := 18) C (by decide +kernel) dX2_grow_18 ?_
        refine q_icmp_eq (pc := 20) (tgt := 116) C (by first | exact hR _ _ | exact hRo _ _ | assumption | exact ⟨by omega, by omega⟩) (by first | exact hR _ _ | exact hRo _ _ | assumption | exact ⟨by omega, by omega⟩) dX2_grow_20 (by decide) (fun hq2 => ?_) (fun hq2 => ?_)
        · exact absurd hq2 (by omega)
        · refine q_rng (fun hR => ?_)
          refine q_aload_n (pc := 23) C dX2_grow_23 rfl rfl ?_
          refine q_getR (pc := 24) (ci := 2) (k := 8) (r := 127) C rfl fiX2_grow_X2 (by decide) k22 (by decide) rfl (by decide) flX2_grow_26 rfl rfl dX2_grow_24 ?_
          refine q_iload_n (pc := 27) C dX2_grow_27 rfl rfl ?_
          refine q_baload (pc := 28) C k127 n127 (by decide) (by decide) (by omega) (by omega) dX2_grow_28 ?_
          refine q_if_ne (pc := 29) (tgt := 43) C (by first | exact hR _ _ | exact hRo _ _ | assumption | exact ⟨by omega, by omega⟩) dX2_grow_29 (by decide) (fun hq3 => ?_) (fun hq3 => ?_)
          · exact UP (Or.inl (by omega))
          · refine q_iload_n (pc := 32) C dX2_grow_32 rfl rfl ?_
            refine q_aload_n (pc := 33) C dX2_grow_33 rfl rfl ?_
            refine q_getR (pc := 34) (ci := 2) (k := 0) (r := 1) C rfl fiX2_grow_X2 (by decide) k22 (by decide) rfl (by decide) flX2_grow_30 rfl rfl dX2_grow_34 ?_
            refine q_getIN (pc := 37) (ci := 1) (k := 1) (ki := 1) C rfl rfl fiX2_grow_X1 (by decide) k1 (by decide) rfl (by decide) (by decide +kernel) rfl rfl dX2_grow_37 ?_
            refine q_icmp_ne (pc := 40) (tgt := 62) C (by first | exact hR _ _ | exact hRo _ _ | assumption | exact ⟨by omega, by omega⟩) (by first | exact hR _ _ | exact hRo _ _ | assumption | exact ⟨by omega, by omega⟩) dX2_grow_40 (by decide) (fun hq4 => ?_) (fun hq4 => ?_)
            · exact EX (by rintro (z | z) <;> omega) (by omega)
            · exact UP (Or.inr hq4)
  refine q_aload_n (pc := 0) C dX2_grow_0 rfl rfl ?_
  refine q_callV (pc := 1) (As := []) (rest := []) C (c_addRoot hlf D cy B) (cwV 0 C.2.2.2.2.1 gX2_grow_X2_addRoot rfl rfl rfl (by decide +kernel) ⟨Nat.le_of_ble_eq_true rfl, Nat.le_of_ble_eq_true rfl⟩) (ci := 2) rfl k22 (by decide) (by decide) rfl rfl (by first | decide | simp [Value.category]) dX2_grow_1 (by decide) (fun _ _ h => h.elim) (fun v μ9 hv => ?_)
  have e8 := hv.1
  have e9 := hv.2.symm
  clear hv
  subst e8
  subst e9
  dsimp only [Option.toList, List.cons_append, List.nil_append]
  refine q_iconst (pc := 4) C dX2_grow_4 ?_
  refine q_istore_n (pc := 5) (lv2 := [_, _, _, _]) C dX2_grow_5 rfl (by decide) rfl ?_
  refine q_iconst (pc := 6) C dX2_grow_6 ?_
  refine q_istore_n (pc := 7) (lv2 := [_, _, _, _]) C dX2_grow_7 rfl (by decide) rfl ?_
  refine q_iconst (pc := 8) C dX2_grow_8 ?_
  refine q_istore_n (pc := 9) (lv2 := [_, _, _, _]) C dX2_grow_9 rfl (by decide) rfl ?_
  have e126 : rootS μ 126 0 = 0 := by simp [rootS, updS_ap]
  refine L 900 (rootS μ) 1 0 0 (by omega) (NI_root hN) (TI_root hN) (by omega) (by omega) ?_ rfl (fun x k h1 h2 => rootS_out μ h1 h2 k)
  rw [show ((0 : Nat) : Int) = 0 from rfl, e126]
  show 9 * (100 - 1) + pot (rootS μ) 0 0 0 ≤ 900
  unfold pot
  omega

