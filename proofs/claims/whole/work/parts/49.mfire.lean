theorem fiX4_fire_X4 : ∀ w ∈ u_ws RX4 TX4 22, w ∈ wsX4_fire := by decide +kernel
theorem flX4_fire_66 : Cond.fieldLink RX4 66 RX4 (TX4 1).2.1 (TX4 1).2.2.1 ∈ wsX4_fire := by decide +kernel
theorem flX4_fire_16 : Cond.fieldLink RX4 16 RX4 (TX4 5).2.1 (TX4 5).2.2.1 ∈ wsX4_fire := by decide +kernel
theorem flX4_fire_19 : Cond.fieldLink RX4 19 RX4 (TX4 6).2.1 (TX4 6).2.2.1 ∈ wsX4_fire := by decide +kernel
theorem flX4_fire_22 : Cond.fieldLink RX4 22 RX4 (TX4 7).2.1 (TX4 7).2.2.1 ∈ wsX4_fire := by decide +kernel
theorem flX4_fire_26 : Cond.fieldLink RX4 26 RX4 (TX4 8).2.1 (TX4 8).2.2.1 ∈ wsX4_fire := by decide +kernel
theorem flX4_fire_29 : Cond.fieldLink RX4 29 RX4 (TX4 9).2.1 (TX4 9).2.2.1 ∈ wsX4_fire := by decide +kernel
theorem flX4_fire_89 : Cond.fieldLink RX4 89 RX4 (TX4 13).2.1 (TX4 13).2.2.1 ∈ wsX4_fire := by decide +kernel
theorem flX4_fire_92 : Cond.fieldLink RX4 92 RX4 (TX4 14).2.1 (TX4 14).2.2.1 ∈ wsX4_fire := by decide +kernel
theorem flX4_fire_60 : Cond.fieldLink RX4 60 RX4 (TX4 21).2.1 (TX4 21).2.2.1 ∈ wsX4_fire := by decide +kernel
def fireM (μ : St) (u t : Nat) (k : Int) : Int := if μ 221 (6 * (u : Int) + k) = 1000000000 then 1000000000 else μ 221 (6 * (u : Int) + k) - μ 219 (6 * (t : Int) + k) + μ 220 (6 * (t : Int) + k)
def fmW (μ : St) (P u t : Nat) : St := preS μ 231 P (fireM μ u t)
abbrev belP (μ : St) (P k : Nat) : Prop := (∀ q : Nat, q < P → μ 221 (ix k q) ≤ μ 231 q) ∧ ∃ q : Nat, q < P ∧ μ 221 (ix k q) < μ 231 q
def ntM (μ : St) (k : Nat) : St := if μ 216 13 < 0 then updS (updS μ 216 13 (μ 216 7)) 216 14 k else μ
def mrM (μ : St) (k : Nat) (q : Int) : Int := if μ 221 (6 * (k : Int) + q) < μ 231 q then 1000000000 else μ 231 q
def hitM (μ : St) (P k : Nat) : St := if belP μ P k then preS (ntM μ k) 231 P (mrM μ k) else μ
def repM : Nat → St → Nat → Nat → St
  | 0, μ, P, k => hitM μ P k
  | d + 1, μ, P, k => repM d (hitM μ P k) P (μ 222 k).toNat
theorem repM_succ (d : Nat) (μ : St) (P k : Nat) : repM (d + 1) μ P k = repM d (hitM μ P k) P (μ 222 k).toNat := rfl
theorem ntM_ne (μ : St) (k : Nat) {x : Nat} (h : x ≠ 216) (j : Int) : ntM μ k x j = μ x j := by
  unfold ntM
  split
  · rw [updS_ne _ _ _ _ h, updS_ne _ _ _ _ h]
  · rfl
theorem ntM_nk (μ : St) (k : Nat) {j : Int} (h1 : j ≠ 13) (h2 : j ≠ 14) : ntM μ k 216 j = μ 216 j := by
  unfold ntM
  split
  · rw [updS_nk _ _ _ _ h2, updS_nk _ _ _ _ h1]
  · rfl
theorem hitM_ne (μ : St) (P k : Nat) {x : Nat} (h : x ≠ 216) (h2 : x ≠ 231) (j : Int) : hitM μ P k x j = μ x j := by
  unfold hitM
  split
  · rw [preS_ne _ _ _ _ h2, ntM_ne _ _ h]
  · rfl
theorem hitM_nk (μ : St) (P k : Nat) {j : Int} (h1 : j ≠ 13) (h2 : j ≠ 14) : hitM μ P k 216 j = μ 216 j := by
  unfold hitM
  split
  · rw [preS_ne _ _ _ _ (by decide), ntM_nk _ _ h1 h2]
  · rfl
theorem repM_ne : ∀ (d : Nat) (μ : St) (P k : Nat) {x : Nat} (h : x ≠ 216) (h2 : x ≠ 231) (j : Int), repM d μ P k x j = μ x j
  | 0, μ, P, k, x, h, h2, j => hitM_ne μ P k h h2 j
  | d + 1, μ, P, k, x, h, h2, j => by
    rw [repM_succ, repM_ne d _ _ _ h h2, hitM_ne _ _ _ h h2]
theorem repM_nk : ∀ (d : Nat) (μ : St) (P k : Nat) {j : Int} (h1 : j ≠ 13) (h2 : j ≠ 14), repM d μ P k 216 j = μ 216 j
  | 0, μ, P, k, j, h1, h2 => hitM_nk μ P k h1 h2
  | d + 1, μ, P, k, j, h1, h2 => by
    rw [repM_succ, repM_nk d _ _ _ h1 h2, hitM_nk _ _ _ h1 h2]
set_option maxHeartbeats 4000000 in
set_option maxRecDepth 100000 in
theorem m_fire {l : Launch} (hlf : l.stackTraces = false) (D : va_G) (cy : Nat → ClassId) (B : Nat) {μ : St} {P n u t : Nat} {dp : Nat → Nat} (hP : μ 216 1 = P) (h6 : P ≤ 6) (hn : n ≤ 100) (hs : μ 216 7 = n) (hu : u < n) (ht : t < 8) (hch : chM μ n dp) (hv : ∀ q : Nat, q < P → InR (fireM μ u t q)) : PC l D cy B yX4_fire wsX4_fire (r0 1) [.ref (B + 216), iN u, iN t] μ (ret0 (repM (dp u) (fmW μ P u t) P u)) noX := by
  refine PC.pre (fun hR => ?_)
  refine q_start (cc := cX4_fire) (maxL := 5) (ret := none) hlf (by decide +kernel) rfl (by simp [Value.category]) (Nat.le_of_ble_eq_true rfl) ?_
  intro p e s m args below meth c C hret hno
  show PW p l e (r0 1) s m args below meth c D cy B 5 0 0 _ 0 [some (.ref (B + 216)), some (iN u), some (iN t), none, none] [] μ
  have hRo := hR
  have MAIN : ∀ (k : Nat) (σ : St), k < n → σ 216 1 = P → σ 216 7 = n → PW p l e (r0 1) s m args below meth c D cy B 5 0 0 (vx_MQ below (Qp D cy B (ret0 (repM (dp u) (fmW μ P u t) P u))) (Xp D cy B noX) args s (r0 1).cells (r0 1).slots (fun q => B ≤ q)) 166 [some (.ref (B + 216)), some (iN u), some (iN t), some (iN k), none] [] (hitM σ P k) → PW p l e (r0 1) s m args below meth c D cy B 5 0 0 (vx_MQ below (Qp D cy B (ret0 (repM (dp u) (fmW μ P u t) P u))) (Xp D cy B noX) args s (r0 1).cells (r0 1).slots (fun q => B ≤ q)) 75 [some (.ref (B + 216)), some (iN u), some (iN t), some (iN k), none] [] σ := by
    intro k σ hk e1 e7 KT
    refine q_rng (fun hR => ?_)
    refine q_iload_n (pc := 75) C dX4_fire_75 rfl rfl ?_
    refine q_if_lt (pc := 76) (tgt := 176) C (by first | exact hR _ _ | exact hRo _ _ | assumption | exact ⟨by omega, by omega⟩) dX4_fire_76 (by decide) (fun h1 => ?_) (fun h1 => ?_)
    · exact absurd h1 (by omega)
    · refine q_aload_n (pc := 79) C dX4_fire_79 rfl rfl ?_
      refine q_iload_n (pc := 80) C dX4_fire_80 rfl rfl ?_
      refine q_callV (pc := 81) (As := [_]) (rest := []) C (m_below hlf D cy B (P := P) (n := k) e1 h6 (by omega)) (cwV 1 C.2.2.2.2.1 gX4_fire_X4_below rfl rfl rfl (by decide +kernel) ⟨Nat.le_of_ble_eq_true rfl, Nat.le_of_ble_eq_true rfl⟩) (ci := 4) rfl k216 (by decide) (by decide) rfl rfl (by first | decide | simp [Value.category]) dX4_fire_81 (by decide) (fun _ _ h => h.elim) (fun v μ9 hv => ?_)
      have e8 := hv.1
      have e9 := hv.2.symm
      clear hv
      subst e8
      subst e9
      dsimp only [Option.toList, List.cons_append, List.nil_append]
      have hz := bI_01 ((∀ q : Nat, q < P → σ 221 (ix k q) ≤ σ 231 q) ∧ ∃ q : Nat, q < P ∧ σ 221 (ix k q) < σ 231 q)
      refine q_if_eq (pc := 84) (tgt := 166) C (by first | exact hR _ _ | exact hRo _ _ | assumption | exact ⟨by omega, by omega⟩) dX4_fire_84 (by decide) (fun h2 => ?_) (fun h2 => ?_)
      · have hno := bI_0.mp h2
        refine q_mu (μ2 := hitM σ P k) (by unfold hitM; rw [if_neg hno]) ?_
        exact KT
      · have hyes : belP σ P k := bI_1.mp (show bI ((∀ q : Nat, q < P → σ 221 (ix k q) ≤ σ 231 q) ∧ ∃ q : Nat, q < P ∧ σ 221 (ix k q) < σ 231 q) = 1 by omega)
        have IN : ∀ i : Nat, i ≤ P → PW p l e (r0 1) s m args below meth c D cy B 5 0 0 (vx_MQ below (Qp D cy B (ret0 (repM (dp u) (fmW μ P u t) P u))) (Xp D cy B noX) args s (r0 1).cells (r0 1).slots (fun q => B ≤ q)) 110 [some (.ref (B + 216)), some (iN u), some (iN t), some (iN k), some (iN i)] [] (preS (ntM σ k) 231 i (mrM σ k)) := by
          have w1 : ∀ i, preS (ntM σ k) 231 i (mrM σ k) 216 1 = P := fun i => by rw [preS_ne _ _ _ _ (by decide), ntM_nk _ _ (by decide) (by decide), e1]
          have w221 : ∀ i j, preS (ntM σ k) 231 i (mrM σ k) 221 j = σ 221 j := fun i j => by rw [preS_ne _ _ _ _ (by decide), ntM_ne _ _ (by decide)]
          have w231 : ∀ (i : Nat) (j : Int), (i : Int) ≤ j → preS (ntM σ k) 231 i (mrM σ k) 231 j = σ 231 j := fun i j h => by rw [preS_out _ _ _ _ _ _ h, ntM_ne _ _ (by decide)]
          have hRs := hR
          refine up_to P _ (fun i hi ih => ?_)
          have J : ∀ b : Int, b = mrM σ k i → InR b → i < P → PW p l e (r0 1) s m args below meth c D cy B 5 0 0 (vx_MQ below (Qp D cy B (ret0 (repM (dp u) (fmW μ P u t) P u))) (Xp D cy B noX) args s (r0 1).cells (r0 1).slots (fun q => B ≤ q)) 159 [some (.ref (B + 216)), some (iN u), some (iN t), some (iN k), some (iN i)] [iN b, iN i, .ref (B + 231)] (preS (ntM σ k) 231 i (mrM σ k)) := by
            intro b hb hbr hiP
            refine q_iastore (pc := 159) C k231 n231 (by decide) (by decide) (by omega) (by omega) (by first | exact hR _ _ | exact hRo _ _ | assumption | exact ⟨by omega, by omega⟩) dX4_fire_159 ?_
            refine q_mu (preS_step _ 231 i (mrM σ k) hb) ?_
            refine q_iinc (pc := 160) (lv2 := [_, _, _, _, _]) C dX4_fire_160 (by decide) rfl rfl ?_
            refine q_goto (pc := 163) (tgt := 110) C dX4_fire_163 (by decide) ?_
            exact ih hiP
          refine q_rng (fun hR => ?_)
          refine q_iload (pc := 110) C dX4_fire_110 rfl ?_
          refine q_aload_n (pc := 112) C dX4_fire_112 rfl rfl ?_
          refine q_getI (pc := 113) (ci := 4) (k := 1) (ki := 1) C rfl rfl fiX4_fire_X4 (by decide) k216 (by decide) rfl (by decide) flX4_fire_66 rfl rfl dX4_fire_113 ?_
          refine q_icmp_ge (pc := 116) (tgt := 166) C (by first | exact hR _ _ | exact hRo _ _ | assumption | exact ⟨by omega, by omega⟩) (by first | exact hR _ _ | exact hRo _ _ | assumption | exact ⟨by omega, by omega⟩) dX4_fire_116 (by decide) (fun hc => ?_) (fun hc => ?_)
          · have e : i = P := by have := w1 i; omega
            subst e
            refine q_mu (μ2 := hitM σ i k) (by unfold hitM; rw [if_pos hyes]) ?_
            refine q_drop 4 (lv2 := [_, _, _, _, none]) rfl ?_
            exact KT
          · have hiP : i < P := by have := w1 i; omega
            refine q_aload_n (pc := 119) C dX4_fire_119 rfl rfl ?_
            refine q_getR (pc := 120) (ci := 4) (k := 21) (r := 231) C rfl fiX4_fire_X4 (by decide) k216 (by decide) rfl (by decide) flX4_fire_60 rfl rfl dX4_fire_120 ?_
            refine q_iload (pc := 123) C dX4_fire_123 rfl ?_
            refine q_aload_n (pc := 125) C dX4_fire_125 rfl rfl ?_
            refine q_getR (pc := 126) (ci := 4) (k := 8) (r := 221) C rfl fiX4_fire_X4 (by decide) k216 (by decide) rfl (by decide) flX4_fire_26 rfl rfl dX4_fire_126 ?_
            refine q_bipush (pc := 129) C (by decide +kernel) dX4_fire_129 ?_
            refine q_iload_n (pc := 131) C dX4_fire_131 rfl rfl ?_
            refine q_imul (pc := 132) C dX4_fire_132 ?_
            refine q_iload (pc := 133) C dX4_fire_133 rfl ?_
            refine q_iadd (pc := 135) C dX4_fire_135 ?_
            refine q_iaload (pc := 136) C k221 n221 (by decide) (by decide) (by omega) (by omega) dX4_fire_136 ?_
            rw [w221]
            refine q_aload_n (pc := 137) C dX4_fire_137 rfl rfl ?_
            refine q_getR (pc := 138) (ci := 4) (k := 21) (r := 231) C rfl fiX4_fire_X4 (by decide) k216 (by decide) rfl (by decide) flX4_fire_60 rfl rfl dX4_fire_138 ?_
            refine q_iload (pc := 141) C dX4_fire_141 rfl ?_
            refine q_iaload (pc := 143) C k231 n231 (by decide) (by decide) (by omega) (by omega) dX4_fire_143 ?_
            rw [w231 i i (Int.le_refl _)]
            have hR := hRs
            refine q_icmp_ge (pc := 144) (tgt := 152) C (by first | exact hR _ _ | exact hRo _ _ | assumption | exact ⟨by omega, by omega⟩) (by first | exact hR _ _ | exact hRo _ _ | assumption | exact ⟨by omega, by omega⟩) dX4_fire_144 (by decide) (fun hd => ?_) (fun hd => ?_)
            · refine q_aload_n (pc := 152) C dX4_fire_152 rfl rfl ?_
              refine q_getR (pc := 153) (ci := 4) (k := 21) (r := 231) C rfl fiX4_fire_X4 (by decide) k216 (by decide) rfl (by decide) flX4_fire_60 rfl rfl dX4_fire_153 ?_
              refine q_iload (pc := 156) C dX4_fire_156 rfl ?_
              refine q_iaload (pc := 158) C k231 n231 (by decide) (by decide) (by omega) (by omega) dX4_fire_158 ?_
              rw [w231 i i (Int.le_refl _)]
              refine J _ ?_ (hRs _ _) hiP
              unfold mrM
              rw [if_neg (Int.not_lt.mpr hd)]
            · refine q_ldc (pc := 147) (n := 1000000000) (x := (1000000000 : Int32)) C (by decide +kernel) (by decide +kernel) dX4_fire_147 ?_
              refine q_goto (pc := 149) (tgt := 159) C dX4_fire_149 (by decide) ?_
              refine J _ ?_ ⟨by decide, by decide⟩ hiP
              unfold mrM
              rw [if_pos (Int.not_le.mp hd)]
        have STRT : PW p l e (r0 1) s m args below meth c D cy B 5 0 0 (vx_MQ below (Qp D cy B (ret0 (repM (dp u) (fmW μ P u t) P u))) (Xp D cy B noX) args s (r0 1).cells (r0 1).slots (fun q => B ≤ q)) 107 [some (.ref (B + 216)), some (iN u), some (iN t), some (iN k), none] [] (ntM σ k) := by
          refine q_iconst (pc := 107) C dX4_fire_107 ?_
          refine q_istore (pc := 108) (lv2 := [_, _, _, _, _]) C dX4_fire_108 (by decide) rfl ?_
          refine q_mu (preS_0 _ 231 (mrM σ k)).symm ?_
          exact IN 0 (by omega)
        refine q_aload_n (pc := 87) C dX4_fire_87 rfl rfl ?_
        refine q_getI (pc := 88) (ci := 4) (k := 13) (ki := 13) C rfl rfl fiX4_fire_X4 (by decide) k216 (by decide) rfl (by decide) flX4_fire_89 rfl rfl dX4_fire_88 ?_
        refine q_if_ge (pc := 91) (tgt := 107) C (by first | exact hR _ _ | exact hRo _ _ | assumption | exact ⟨by omega, by omega⟩) dX4_fire_91 (by decide) (fun h3 => ?_) (fun h3 => ?_)
        · refine q_mu (μ2 := ntM σ k) (by unfold ntM; rw [if_neg (Int.not_lt.mpr h3)]) ?_
          exact STRT
        · refine q_aload_n (pc := 94) C dX4_fire_94 rfl rfl ?_
          refine q_aload_n (pc := 95) C dX4_fire_95 rfl rfl ?_
          refine q_getI (pc := 96) (ci := 4) (k := 7) (ki := 7) C rfl rfl fiX4_fire_X4 (by decide) k216 (by decide) rfl (by decide) flX4_fire_22 rfl rfl dX4_fire_96 ?_
          refine q_put (pc := 99) (ci := 4) (k := 13) (ki := 13) (ty0 := tyX4) C rfl rfl fiX4_fire_X4 (by decide) k216 (by decide) rfl (by decide) flX4_fire_89 rfl tyX4_ok nmX4 rfl rfl rfl (by first | exact hR _ _ | exact hRo _ _ | assumption | exact ⟨by omega, by omega⟩) dX4_fire_99 ?_
          refine q_aload_n (pc := 102) C dX4_fire_102 rfl rfl ?_
          refine q_iload_n (pc := 103) C dX4_fire_103 rfl rfl ?_
          refine q_put (pc := 104) (ci := 4) (k := 14) (ki := 14) (ty0 := tyX4) C rfl rfl fiX4_fire_X4 (by decide) k216 (by decide) rfl (by decide) flX4_fire_92 rfl tyX4_ok nmX4 rfl rfl rfl (by first | exact hR _ _ | exact hRo _ _ | assumption | exact ⟨by omega, by omega⟩) dX4_fire_104 ?_
          refine q_mu (μ2 := ntM σ k) (by unfold ntM; rw [if_pos (Int.not_le.mp h3)]) ?_
          exact STRT
  have L2 : ∀ (d k : Nat) (σ : St), k < n → dp k = d → (∀ x j, x ≠ 216 → x ≠ 231 → σ x j = μ x j) → σ 216 1 = P → σ 216 7 = n → repM d σ P k = repM (dp u) (fmW μ P u t) P u → PW p l e (r0 1) s m args below meth c D cy B 5 0 0 (vx_MQ below (Qp D cy B (ret0 (repM (dp u) (fmW μ P u t) P u))) (Xp D cy B noX) args s (r0 1).cells (r0 1).slots (fun q => B ≤ q)) 75 [some (.ref (B + 216)), some (iN u), some (iN t), some (iN k), none] [] σ := by
    intro d
    induction d with
    | zero =>
      intro k σ hk hd hσ e1 e7 hfin
      refine MAIN k σ hk e1 e7 ?_
      rcases hch k hk with ⟨z1, z2, z3⟩ | ⟨j, hj, z2, z3⟩
      · refine q_aload_n (pc := 166) C dX4_fire_166 rfl rfl ?_
        refine q_getR (pc := 167) (ci := 4) (k := 9) (r := 222) C rfl fiX4_fire_X4 (by decide) k216 (by decide) rfl (by decide) flX4_fire_29 rfl rfl dX4_fire_167 ?_
        refine q_iload_n (pc := 170) C dX4_fire_170 rfl rfl ?_
        refine q_iaload (pc := 171) C k222 n222 (by decide) (by decide) (by omega) (by omega) dX4_fire_171 ?_
        rw [hitM_ne _ _ _ (by decide) (by decide), hσ _ _ (by decide) (by decide), z3]
        refine q_istore_n (pc := 172) (lv2 := [_, _, _, _, _]) C dX4_fire_172 rfl (by decide) rfl ?_
        refine q_goto (pc := 173) (tgt := 75) C dX4_fire_173 (by decide) ?_
        refine q_iload_n (pc := 75) C dX4_fire_75 rfl rfl ?_
        refine q_if_lt (pc := 76) (tgt := 176) C (by first | exact hR _ _ | exact hRo _ _ | assumption | exact ⟨by omega, by omega⟩) dX4_fire_76 (by decide) (fun h1 => ?_) (fun h1 => ?_)
        · exact q_vret (pc := 176) C hret ⟨rfl, hfin⟩ (by decide) (by decide) dX4_fire_176
        · exact absurd h1 (by decide)
      · omega
    | succ d ih =>
      intro k σ hk hd hσ e1 e7 hfin
      refine MAIN k σ hk e1 e7 ?_
      rcases hch k hk with ⟨z1, z2, z3⟩ | ⟨j, hj, z2, z3⟩
      · omega
      · refine q_aload_n (pc := 166) C dX4_fire_166 rfl rfl ?_
        refine q_getR (pc := 167) (ci := 4) (k := 9) (r := 222) C rfl fiX4_fire_X4 (by decide) k216 (by decide) rfl (by decide) flX4_fire_29 rfl rfl dX4_fire_167 ?_
        refine q_iload_n (pc := 170) C dX4_fire_170 rfl rfl ?_
        refine q_iaload (pc := 171) C k222 n222 (by decide) (by decide) (by omega) (by omega) dX4_fire_171 ?_
        rw [hitM_ne _ _ _ (by decide) (by decide), hσ _ _ (by decide) (by decide), z2]
        refine q_istore_n (pc := 172) (lv2 := [_, _, _, _, _]) C dX4_fire_172 rfl (by decide) rfl ?_
        refine q_goto (pc := 173) (tgt := 75) C dX4_fire_173 (by decide) ?_
        refine ih j (hitM σ P k) (by omega) (by omega) (fun x y h1 h2 => by rw [hitM_ne _ _ _ h1 h2]; exact hσ x y h1 h2) (by rw [hitM_nk _ _ _ (by decide) (by decide)]; exact e1) (by rw [hitM_nk _ _ _ (by decide) (by decide)]; exact e7) ?_
        rw [← hfin, repM_succ, hσ _ _ (by decide) (by decide), z2]
        rfl
  have L1 : ∀ i : Nat, i ≤ P → PW p l e (r0 1) s m args below meth c D cy B 5 0 0 (vx_MQ below (Qp D cy B (ret0 (repM (dp u) (fmW μ P u t) P u))) (Xp D cy B noX) args s (r0 1).cells (r0 1).slots (fun q => B ≤ q)) 2 [some (.ref (B + 216)), some (iN u), some (iN t), some (iN i), none] [] (preS μ 231 i (fireM μ u t)) := by
    refine up_to P _ (fun i hi ih => ?_)
    have w1 : preS μ 231 i (fireM μ u t) 216 1 = P := by rw [preS_ne _ _ _ _ (by decide), hP]
    have J : ∀ b : Int, b = fireM μ u t i → i < P → PW p l e (r0 1) s m args below meth c D cy B 5 0 0 (vx_MQ below (Qp D cy B (ret0 (repM (dp u) (fmW μ P u t) P u))) (Xp D cy B noX) args s (r0 1).cells (r0 1).slots (fun q => B ≤ q)) 66 [some (.ref (B + 216)), some (iN u), some (iN t), some (iN i), some (iN (μ 221 (6 * (u : Int) + (i : Int))))] [iN b, iN i, .ref (B + 231)] (preS μ 231 i (fireM μ u t)) := by
      intro b hb hiP
      have hbr : InR b := by rw [hb]; exact hv i hiP
      refine q_iastore (pc := 66) C k231 n231 (by decide) (by decide) (by omega) (by omega) (by first | exact hR _ _ | exact hRo _ _ | assumption | exact ⟨by omega, by omega⟩) dX4_fire_66 ?_
      refine q_mu (preS_step _ 231 i (fireM μ u t) hb) ?_
      refine q_drop 4 (lv2 := [_, _, _, _, none]) rfl ?_
      refine q_iinc (pc := 67) (lv2 := [_, _, _, _, _]) C dX4_fire_67 (by decide) rfl rfl ?_
      refine q_goto (pc := 70) (tgt := 2) C dX4_fire_70 (by decide) ?_
      exact ih hiP
    refine q_rng (fun hR => ?_)
    refine q_iload_n (pc := 2) C dX4_fire_2 rfl rfl ?_
    refine q_aload_n (pc := 3) C dX4_fire_3 rfl rfl ?_
    refine q_getI (pc := 4) (ci := 4) (k := 1) (ki := 1) C rfl rfl fiX4_fire_X4 (by decide) k216 (by decide) rfl (by decide) flX4_fire_66 rfl rfl dX4_fire_4 ?_
    refine q_icmp_ge (pc := 7) (tgt := 73) C (by first | exact hR _ _ | exact hRo _ _ | assumption | exact ⟨by omega, by omega⟩) (by first | exact hR _ _ | exact hRo _ _ | assumption | exact ⟨by omega, by omega⟩) dX4_fire_7 (by decide) (fun hc => ?_) (fun hc => ?_)
    · have e : i = P := by omega
      subst e
      refine q_iload_n (pc := 73) C dX4_fire_73 rfl rfl ?_
      refine q_istore_n (pc := 74) (lv2 := [_, _, _, _, _]) C dX4_fire_74 rfl (by decide) rfl ?_
      exact L2 (dp u) u (fmW μ i u t) hu rfl (fun x j h1 h2 => by unfold fmW; rw [preS_ne _ _ _ _ h2]) (by unfold fmW; exact w1) (by unfold fmW; rw [preS_ne _ _ _ _ (by decide), hs]) rfl
    · refine q_aload_n (pc := 10) C dX4_fire_10 rfl rfl ?_
      refine q_getR (pc := 11) (ci := 4) (k := 8) (r := 221) C rfl fiX4_fire_X4 (by decide) k216 (by decide) rfl (by decide) flX4_fire_26 rfl rfl dX4_fire_11 ?_
      refine q_bipush (pc := 14) C (by decide +kernel) dX4_fire_14 ?_
      refine q_iload_n (pc := 16) C dX4_fire_16 rfl rfl ?_
      refine q_imul (pc := 17) C dX4_fire_17 ?_
      refine q_iload_n (pc := 18) C dX4_fire_18 rfl rfl ?_
      refine q_iadd (pc := 19) C dX4_fire_19 ?_
      refine q_iaload (pc := 20) C k221 n221 (by decide) (by decide) (by omega) (by omega) dX4_fire_20 ?_
      rw [preS_ne _ _ _ _ (by decide)]
      refine q_istore (pc := 21) (lv2 := [_, _, _, _, _]) C dX4_fire_21 (by decide) rfl ?_
      refine q_aload_n (pc := 23) C dX4_fire_23 rfl rfl ?_
      refine q_getR (pc := 24) (ci := 4) (k := 21) (r := 231) C rfl fiX4_fire_X4 (by decide) k216 (by decide) rfl (by decide) flX4_fire_60 rfl rfl dX4_fire_24 ?_
      refine q_iload_n (pc := 27) C dX4_fire_27 rfl rfl ?_
      refine q_iload (pc := 28) C dX4_fire_28 rfl ?_
      refine q_ldc (pc := 30) (n := 1000000000) (x := (1000000000 : Int32)) C (by decide +kernel) (by decide +kernel) dX4_fire_30 ?_
      refine q_icmp_ne (pc := 32) (tgt := 40) C (by first | exact hR _ _ | exact hRo _ _ | assumption | exact ⟨by omega, by omega⟩) (by first | exact hR _ _ | exact hRo _ _ | assumption | exact ⟨by omega, by omega⟩) dX4_fire_32 (by decide) (fun hd => ?_) (fun hd => ?_)
      · refine q_iload (pc := 40) C dX4_fire_40 rfl ?_
        refine q_aload_n (pc := 42) C dX4_fire_42 rfl rfl ?_
        refine q_getR (pc := 43) (ci := 4) (k := 5) (r := 219) C rfl fiX4_fire_X4 (by decide) k216 (by decide) rfl (by decide) flX4_fire_16 rfl rfl dX4_fire_43 ?_
        refine q_bipush (pc := 46) C (by decide +kernel) dX4_fire_46 ?_
        refine q_iload_n (pc := 48) C dX4_fire_48 rfl rfl ?_
        refine q_imul (pc := 49) C dX4_fire_49 ?_
        refine q_iload_n (pc := 50) C dX4_fire_50 rfl rfl ?_
        refine q_iadd (pc := 51) C dX4_fire_51 ?_
        refine q_iaload (pc := 52) C k219 n219 (by decide) (by decide) (by omega) (by omega) dX4_fire_52 ?_
        rw [preS_ne _ _ _ _ (by decide)]
        refine q_isub (pc := 53) C dX4_fire_53 ?_
        refine q_aload_n (pc := 54) C dX4_fire_54 rfl rfl ?_
        refine q_getR (pc := 55) (ci := 4) (k := 6) (r := 220) C rfl fiX4_fire_X4 (by decide) k216 (by decide) rfl (by decide) flX4_fire_19 rfl rfl dX4_fire_55 ?_
        refine q_bipush (pc := 58) C (by decide +kernel) dX4_fire_58 ?_
        refine q_iload_n (pc := 60) C dX4_fire_60 rfl rfl ?_
        refine q_imul (pc := 61) C dX4_fire_61 ?_
        refine q_iload_n (pc := 62) C dX4_fire_62 rfl rfl ?_
        refine q_iadd (pc := 63) C dX4_fire_63 ?_
        refine q_iaload (pc := 64) C k220 n220 (by decide) (by decide) (by omega) (by omega) dX4_fire_64 ?_
        rw [preS_ne _ _ _ _ (by decide)]
        refine q_iadd (pc := 65) C dX4_fire_65 ?_
        refine J _ ?_ (by omega)
        unfold fireM
        rw [if_neg hd]
      · refine q_ldc (pc := 35) (n := 1000000000) (x := (1000000000 : Int32)) C (by decide +kernel) (by decide +kernel) dX4_fire_35 ?_
        refine q_goto (pc := 37) (tgt := 66) C dX4_fire_37 (by decide) ?_
        refine J _ ?_ (by omega)
        unfold fireM
        rw [if_pos hd]
  refine q_iconst (pc := 0) C dX4_fire_0 ?_
  refine q_istore_n (pc := 1) (lv2 := [_, _, _, _, _]) C dX4_fire_1 rfl (by decide) rfl ?_
  refine q_mu (preS_0 μ 231 (fireM μ u t)).symm ?_
  exact L1 0 (by omega)

