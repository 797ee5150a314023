section
variable {p : Program} {l : Launch} {e : Env} {R : Room} {s : State} {m : MethodId} {args : Array Value} {below : List Frame} {meth : Method} {c : Code} {D : va_G} {cy : Nat → ClassId} {B nL cells slots : Nat} {Q : State → Prop}
variable {cc : ByteArray} {own : String} {Ts : List Cond} {pc : Nat} {lv : List (Option Value)} {st : List Value} {μ : St}
def sv (xs : Nat → Int32) (j : Int) : Int := (xs j.toNat).toInt
theorem sv_r (xs : Nat → Int32) (j : Int) : InR (sv xs j) := r_of _
theorem lg_same (x : Int64) : lg_cmp x x = Int32.ofInt 0 := by
  have h : ¬ x > x := by
    rw [gt_iff_lt, Int64.lt_iff_toInt_lt]
    omega
  unfold lg_cmp
  rw [if_neg h, if_pos rfl]
  rfl
theorem q_sld (C : Cx p l s m args meth c cc nL own Ts D cy B) {b L : Nat} {xs : Nat → Int32} (hX : va_X b L xs s s.heap) (hbs : b < s.heap.size) (hBs : B = s.heap.size) {j : Int} (h0 : 0 ≤ j) (h1 : j < L ∧ L ≤ 100000) (hd : decode cc pc = .ok (.iaload, 1)) (kk : PW p l e R s m args below meth c D cy B nL cells slots Q (pc + 1) lv (iN (sv xs j) :: st) μ) : PW p l e R s m args below meth c D cy B nL cells slots Q pc lv (iN j :: .ref b :: st) μ := by
  intro hR H locs ls hP hS hl
  refine va_sld C.1 C.2.1 hX hbs (by rw [hBs]; omega) hS (x_in h0 h1.1 h1.2) hd ?_
  have e9 : Int32.ofInt (sv xs j) = xs (Int32.ofInt j).toNatClampNeg := by
    rw [x_clamp h0 (by omega)]
    unfold sv
    rw [Int32.ofInt_toInt]
  rw [← e9]
  exact kk hR H locs ls hP hS hl
theorem q_slen (C : Cx p l s m args meth c cc nL own Ts D cy B) {b L : Nat} {xs : Nat → Int32} (hX : va_X b L xs s s.heap) (hbs : b < s.heap.size) (hBs : B = s.heap.size) (hd : decode cc pc = .ok (.arraylength, 1)) (kk : PW p l e R s m args below meth c D cy B nL cells slots Q (pc + 1) lv (iN L :: st) μ) : PW p l e R s m args below meth c D cy B nL cells slots Q pc lv (.ref b :: st) μ := by
  intro hR H locs ls hP hS hl
  refine va_slen C.1 C.2.1 hX hbs (by rw [hBs]; omega) hS hd ?_
  rw [← Int32.ofInt_eq_ofNat]
  exact kk hR H locs ls hP hS hl
end
theorem zz_place {μ σ : St} {P T : Nat} (hG : GG μ P T) (hσ : ∀ x, 216 ≤ x → x ≠ 232 → σ x = μ x) : P < 6 → σ 218 P = 0 ∧ ∀ u : Nat, u < 8 → σ 219 (6 * (u : Int) + (P : Int)) = 0 ∧ σ 220 (6 * (u : Int) + (P : Int)) = 0 := by
  intro h6
  obtain ⟨-, hZ, -, hM, -, -⟩ := hG
  obtain ⟨-, z2, z3⟩ := hZ P h6 (Nat.le_refl _)
  refine ⟨by rw [hσ 218 (by decide) (by decide), hM.2.2.2.1 P h6]; exact z2, fun u hu => ?_⟩
  obtain ⟨y1, y2⟩ := hM.2.2.2.2 u P hu h6
  rw [hσ 219 (by decide) (by decide), hσ 220 (by decide) (by decide)]
  exact ⟨y1.trans (z3 u hu).1, y2.trans (z3 u hu).2⟩
theorem zz_growth {μ σ : St} {P T : Nat} (hG : GG μ P T) (hσ : ∀ x, 216 ≤ x → x ≠ 232 → σ x = μ x) : chM σ (σ 216 7).toNat (fun i => (μ 126 i).toNat) ∧ (¬ σ 216 7 < 0 → σ 216 13 = -1 ∨ ∃ f s9 : Nat, f < (σ 216 7).toNat ∧ s9 < (σ 216 7).toNat ∧ σ 216 13 = f ∧ σ 216 14 = s9) := by
  unfold chM
  rw [hσ 216 (by decide) (by decide), hσ 222 (by decide) (by decide)]
  rcases hG.2.2.2.2.1 with ⟨z1, z2⟩ | ⟨n, hT, hM, h7⟩
  · rw [z2]
    exact ⟨fun i hi => absurd hi (by show ¬ i < 0; omega), fun h => absurd h (by decide)⟩
  · rw [h7, show ((n : Nat) : Int).toNat = n from rfl]
    refine ⟨chM_of hT.2.2.2.1 hM.2.1, fun _ => ?_⟩
    rcases hM.2.2.2.2 with ⟨g1, g2⟩ | ⟨f, s9, g1, g2, g3, g4, g5, g6⟩
    · exact Or.inl g2
    · exact Or.inr ⟨f, s9, g1, g2, g4, g5⟩
theorem zz_distance {μ σ : St} {P T : Nat} (hG : GG μ P T) (hσ : ∀ x, 216 ≤ x → x ≠ 232 → σ x = μ x) : chG σ (σ 216 15).toNat (fun i => (μ 213 i).toNat) := by
  unfold chG
  rw [hσ 216 (by decide) (by decide), hσ 228 (by decide) (by decide)]
  rcases hG.2.2.2.2.2 with ⟨z1, z2⟩ | ⟨g, hI, hnx, hah, hC, h15⟩
  · rw [z2]
    exact fun i hi => absurd hi (by show ¬ i < 0; omega)
  · rw [h15, show ((g : Nat) : Int).toNat = g from rfl]
    intro i hi
    by_cases h0 : i = 0
    · subst h0
      refine Or.inl ⟨rfl, ?_⟩
      have z : μ 213 ((0 : Nat) : Int) = 0 := hI.2.2.2.2.2.2.1
      show (μ 213 ((0 : Nat) : Int)).toNat = 0
      rw [z]
      rfl
    · obtain ⟨j, d, b, y1, y2, y3, y4, y5, y6, y7⟩ := hI.2.2.2.2.2.2.2 i (by omega) hi
      refine Or.inr ⟨j, y1, by rw [(hC.2.1 i hi).1, y2], ?_⟩
      show (μ 213 (i : Int)).toNat = (μ 213 (j : Int)).toNat + 1
      rw [y5, y6]
      rfl
theorem zz_live {μ σ : St} {P T : Nat} (hG : GG μ P T) (hσ : ∀ x, 216 ≤ x → x ≠ 232 → σ x = μ x) : nxM σ (σ 216 15).toNat T := by
  unfold nxM
  rw [hσ 216 (by decide) (by decide), hσ 227 (by decide) (by decide)]
  rcases hG.2.2.2.2.2 with ⟨z1, z2⟩ | ⟨g, hI, hnx, hah, hC, h15⟩
  · rw [z2]
    exact fun k u hk => absurd hk (by show ¬ k < 0; omega)
  · rw [h15, show ((g : Nat) : Int).toNat = g from rfl]
    intro k u hk hu
    rw [hC.2.2 k u (Or.inl ⟨hk, hu⟩)]
    unfold lk
    rcases hnx k hk u hu with z | ⟨j, hj, z⟩
    · rw [z, if_pos rfl]
      exact Or.inl rfl
    · rw [z, if_neg (by omega)]
      exact Or.inr ⟨j, hj, rfl⟩
theorem zz_ah {μ : St} {P T g : Nat} (hG : GG μ P T) (hg : μ 128 1 = g) : ahP μ g := by
  rcases hG.2.2.2.2.2 with ⟨z1, z2⟩ | ⟨g2, hI, hnx, hah, hC, h15⟩
  · exact fun i hi => absurd hi (by omega)
  · have : g = g2 := by have := hI.2.2.1; omega
    subst this
    exact hah.1
theorem zz_ti {μ : St} {P T n : Nat} (hG : GG μ P T) (hn : μ 22 1 = n) : n = 0 ∨ TI μ T n := by
  rcases hG.2.2.2.2.1 with ⟨z1, z2⟩ | ⟨n2, hT, hM, h7⟩
  · exact Or.inl (by omega)
  · have : n = n2 := by have := hT.2.2.1; omega
    subst this
    exact Or.inr hT
set_option maxHeartbeats 4000000 in
set_option maxRecDepth 100000 in
theorem lc_place {p : Program} {l : Launch} {e : Env} {s : State} {m : MethodId} {below : List Frame} {meth : Method} {c : Code} {D : va_G} {cy : Nat → ClassId} {B b L : Nat} {xs : Nat → Int32} (hlf : l.stackTraces = false) (C : Cx p l s m #[Value.ref b] meth c cL_law 7 RL wsL_law D cy B) (hX : va_X b L xs s s.heap) (hbs : b < s.heap.size) (hBs : B = s.heap.size) (hL : L ≤ 2560) {cells slots : Nat} {Q : State → Prop} {i : Nat} (hi : i + 5 ≤ L) {P T : Nat} {μ : St} (hG : GG μ P T) (hc : cells + 3 ≤ 601024) (hs : slots + 18 ≤ 7293033)
    (K : ∀ (σ : St) (P2 T2 : Nat), GG σ P2 T2 → PW p l e room_1 s m #[Value.ref b] below meth c D cy B 7 (cells + 3) (slots + 18) Q 1169 [some (.ref b), some (.ref (B + 0)), some (.ref (B + 216)), some (.ref (B + 232)), some (iN i), none, none] [] σ) : PW p l e room_1 s m #[Value.ref b] below meth c D cy B 7 cells slots Q 124 [some (.ref b), some (.ref (B + 0)), some (.ref (B + 216)), some (.ref (B + 232)), some (iN i), none, none] [] μ := by
  have hN := hG.1
  have hM := hG.2.2.2.1
  have h6 := hN.1
  have h8 := hN.2.1
  have hP := hN.2.2.1
  have hT := hN.2.2.2.1
  have hrt := rel_tree hG
  have hrg := rel_graph hG
  refine q_rng (fun hR => ?_)
  have hRo := hR
  refine q_aload_n (pc := 124) C dL_law_124 rfl rfl ?_
  refine q_aload_n (pc := 125) C dL_law_125 rfl rfl ?_
  refine q_iload (pc := 126) C dL_law_126 rfl ?_
  refine q_iconst (pc := 128) C dL_law_128 ?_
  refine q_iadd (pc := 129) C dL_law_129 ?_
  refine q_sld (pc := 130) C hX hbs hBs (by omega) (by omega) dL_law_130 ?_
  refine q_aload_n (pc := 131) C dL_law_131 rfl rfl ?_
  refine q_callSX (pc := 132) (As := [_, _, _]) (rest := []) C (w_place hlf D cy B (sv_r xs _) (c_place hlf D cy B (P := P) (t := (sv xs ((i : Int) + 1))) (sv_r xs _) hP h6)) (vx_cwSW 3 C.2.2.2.2.1 gL_law_L_place rfl rfl rfl (by decide +kernel) ⟨Nat.le_of_ble_eq_true rfl, Nat.le_of_ble_eq_true rfl⟩) rfl rfl (by first | decide | simp [Value.category]) dL_law_132 ⟨hc, hs⟩ (fun _ _ h => h.elim) (fun v σ1 hv => ?_)
  obtain ⟨k, hk, hkr, hσ, hfin⟩ := fin_place hG hv
  subst hk
  dsimp only [Option.toList, List.cons_append, List.nil_append]
  have e16 : σ1 216 = μ 216 := hσ 216 (by decide) (by decide)
  refine q_istore (pc := 135) (lv2 := [_, _, _, _, _, _, _]) C dL_law_135 (by decide) rfl ?_
  refine q_aload_n (pc := 137) C dL_law_137 rfl rfl ?_
  refine q_aload_n (pc := 138) C dL_law_138 rfl rfl ?_
  refine q_iload (pc := 139) C dL_law_139 rfl ?_
  refine q_iconst (pc := 141) C dL_law_141 ?_
  refine q_iadd (pc := 142) C dL_law_142 ?_
  refine q_sld (pc := 143) C hX hbs hBs (by omega) (by omega) dL_law_143 ?_
  refine q_callV (pc := 144) (As := [_]) (rest := []) C (m_place hlf D cy B (P := P) (t := (sv xs ((i : Int) + 1))) (sv_r xs _) (by rw [e16]; exact hM.1) h6 (zz_place hG hσ)) (cwV 1 C.2.2.2.2.1 gL_law_X4_place rfl rfl rfl (by decide +kernel) ⟨Nat.le_of_ble_eq_true rfl, Nat.le_of_ble_eq_true rfl⟩) (ci := 4) rfl k216 (by decide) (by decide) rfl rfl (by first | decide | simp [Value.category]) dL_law_144 ⟨hc, hs⟩ (fun _ _ h => h.elim) (fun v σ2 hv => ?_)
  obtain ⟨v2, hv2, hv1, hmp⟩ := hv
  subst hv1
  dsimp only [Option.toList, List.cons_append, List.nil_append]
  obtain ⟨f1, f2, P2, T2, f3⟩ := hfin v2 σ2 hmp
  refine q_istore (pc := 147) (lv2 := [_, _, _, _, _, _, _]) C dL_law_147 (by decide) rfl ?_
  refine q_aload_n (pc := 149) C dL_law_149 rfl rfl ?_
  refine q_callV (pc := 150) (As := []) (rest := []) C (m_thrown hlf D cy B) (cwV 0 C.2.2.2.2.1 gL_law_X4_thrown rfl rfl rfl (by decide +kernel) ⟨Nat.le_of_ble_eq_true rfl, Nat.le_of_ble_eq_true rfl⟩) (ci := 4) rfl k216 (by decide) (by decide) rfl rfl (by first | decide | simp [Value.category]) dL_law_150 ⟨hc, hs⟩ (fun _ _ h => h.elim) (fun v μ9 hv => ?_)
  have e8 := hv.1
  have e9 := hv.2.symm
  clear hv
  subst e8
  subst e9
  dsimp only [Option.toList, List.cons_append, List.nil_append]
  rw [f1]
  refine q_iload (pc := 153) C dL_law_153 rfl ?_
  refine q_icmp_eq (pc := 155) (tgt := 160) C (by first | exact hR _ _ | exact hRo _ _ | assumption | exact r_bI _ | exact sv_r _ _ | exact ⟨by omega, by omega⟩) (by first | exact hR _ _ | exact hRo _ _ | assumption | exact r_bI _ | exact sv_r _ _ | exact ⟨by omega, by omega⟩) dL_law_155 (by decide) (fun h1 => ?_) (fun h1 => ?_)
  · refine q_iload (pc := 160) C dL_law_160 rfl ?_
    refine q_if_ne (pc := 162) (tgt := 177) C (by first | exact hR _ _ | exact hRo _ _ | assumption | exact r_bI _ | exact sv_r _ _ | exact ⟨by omega, by omega⟩) dL_law_162 (by decide) (fun h2 => ?_) (fun h2 => ?_)
    · refine q_goto (pc := 177) (tgt := 1169) C dL_law_177 (by decide) ?_
      refine q_drop 5 (lv2 := [_, _, _, _, _, none, _]) rfl ?_
      refine q_drop 6 (lv2 := [_, _, _, _, _, _, none]) rfl ?_
      exact K σ2 P2 T2 f3
    · have h20 : k = 0 := h2
      refine q_aload_n (pc := 165) C dL_law_165 rfl rfl ?_
      refine q_iconst (pc := 166) C dL_law_166 ?_
      refine q_laload (pc := 167) C k232 n232 (by decide) (by decide) (by omega) (by omega) dL_law_167 ?_
      rw [f2 h20]
      refine q_iload (pc := 168) C dL_law_168 rfl ?_
      refine q_i2l (pc := 170) C (by first | exact hR _ _ | exact hRo _ _ | assumption | exact r_bI _ | exact sv_r _ _ | exact ⟨by omega, by omega⟩) dL_law_170 ?_
      refine q_lcmp (pc := 171) (z := 0) C (lg_same _) dL_law_171 ?_
      refine q_if_eq (pc := 172) (tgt := 177) C (by first | exact hR _ _ | exact hRo _ _ | assumption | exact r_bI _ | exact sv_r _ _ | exact ⟨by omega, by omega⟩) dL_law_172 (by decide) (fun h3 => ?_) (fun h3 => ?_)
      · refine q_goto (pc := 177) (tgt := 1169) C dL_law_177 (by decide) ?_
        refine q_drop 5 (lv2 := [_, _, _, _, _, none, _]) rfl ?_
        refine q_drop 6 (lv2 := [_, _, _, _, _, _, none]) rfl ?_
        exact K σ2 P2 T2 f3
      · exact absurd rfl h3
  · exact absurd rfl h1
set_option maxHeartbeats 4000000 in
set_option maxRecDepth 100000 in
theorem lc_transition {p : Program} {l : Launch} {e : Env} {s : State} {m : MethodId} {below : List Frame} {meth : Method} {c : Code} {D : va_G} {cy : Nat → ClassId} {B b L : Nat} {xs : Nat → Int32} (hlf : l.stackTraces = false) (C : Cx p l s m #[Value.ref b] meth c cL_law 7 RL wsL_law D cy B) (hX : va_X b L xs s s.heap) (hbs : b < s.heap.size) (hBs : B = s.heap.size) (hL : L ≤ 2560) {cells slots : Nat} {Q : State → Prop} {i : Nat} (hi : i + 5 ≤ L) {P T : Nat} {μ : St} (hG : GG μ P T) (hc : cells + 3 ≤ 601024) (hs : slots + 18 ≤ 7293033)
    (K : ∀ (σ : St) (P2 T2 : Nat), GG σ P2 T2 → PW p l e room_1 s m #[Value.ref b] below meth c D cy B 7 (cells + 3) (slots + 18) Q 1169 [some (.ref b), some (.ref (B + 0)), some (.ref (B + 216)), some (.ref (B + 232)), some (iN i), none, none] [] σ) : PW p l e room_1 s m #[Value.ref b] below meth c D cy B 7 cells slots Q 180 [some (.ref b), some (.ref (B + 0)), some (.ref (B + 216)), some (.ref (B + 232)), some (iN i), none, none] [] μ := by
  have hN := hG.1
  have hM := hG.2.2.2.1
  have h6 := hN.1
  have h8 := hN.2.1
  have hP := hN.2.2.1
  have hT := hN.2.2.2.1
  have hrt := rel_tree hG
  have hrg := rel_graph hG
  refine q_rng (fun hR => ?_)
  have hRo := hR
  refine q_aload_n (pc := 180) C dL_law_180 rfl rfl ?_
  refine q_aload_n (pc := 181) C dL_law_181 rfl rfl ?_
  refine q_callSX (pc := 182) (As := [_, _]) (rest := []) C (w_transition hlf D cy B  (c_transition hlf D cy B (T := T) hT h8)) (vx_cwSW 2 C.2.2.2.2.1 gL_law_L_transition rfl rfl rfl (by decide +kernel) ⟨Nat.le_of_ble_eq_true rfl, Nat.le_of_ble_eq_true rfl⟩) rfl rfl (by first | decide | simp [Value.category]) dL_law_182 ⟨hc, hs⟩ (fun _ _ h => h.elim) (fun v σ1 hv => ?_)
  obtain ⟨k, hk, hkr, hσ, hfin⟩ := fin_transition hG hv
  subst hk
  dsimp only [Option.toList, List.cons_append, List.nil_append]
  have e16 : σ1 216 = μ 216 := hσ 216 (by decide) (by decide)
  refine q_istore (pc := 185) (lv2 := [_, _, _, _, _, _, _]) C dL_law_185 (by decide) rfl ?_
  refine q_aload_n (pc := 187) C dL_law_187 rfl rfl ?_
  refine q_callV (pc := 188) (As := []) (rest := []) C (m_transition hlf D cy B (T := T) (by rw [e16]; exact hM.2.1) h8) (cwV 0 C.2.2.2.2.1 gL_law_X4_transition rfl rfl rfl (by decide +kernel) ⟨Nat.le_of_ble_eq_true rfl, Nat.le_of_ble_eq_true rfl⟩) (ci := 4) rfl k216 (by decide) (by decide) rfl rfl (by first | decide | simp [Value.category]) dL_law_188 ⟨hc, hs⟩ (fun _ _ h => h.elim) (fun v σ2 hv => ?_)
  obtain ⟨v2, hv2, hv1, hmp⟩ := hv
  subst hv1
  dsimp only [Option.toList, List.cons_append, List.nil_append]
  obtain ⟨f1, f2, P2, T2, f3⟩ := hfin v2 σ2 hmp
  refine q_istore (pc := 191) (lv2 := [_, _, _, _, _, _, _]) C dL_law_191 (by decide) rfl ?_
  refine q_aload_n (pc := 193) C dL_law_193 rfl rfl ?_
  refine q_callV (pc := 194) (As := []) (rest := []) C (m_thrown hlf D cy B) (cwV 0 C.2.2.2.2.1 gL_law_X4_thrown rfl rfl rfl (by decide +kernel) ⟨Nat.le_of_ble_eq_true rfl, Nat.le_of_ble_eq_true rfl⟩) (ci := 4) rfl k216 (by decide) (by decide) rfl rfl (by first | decide | simp [Value.category]) dL_law_194 ⟨hc, hs⟩ (fun _ _ h => h.elim) (fun v μ9 hv => ?_)
  have e8 := hv.1
  have e9 := hv.2.symm
  clear hv
  subst e8
  subst e9
  dsimp only [Option.toList, List.cons_append, List.nil_append]
  rw [f1]
  refine q_iload (pc := 197) C dL_law_197 rfl ?_
  refine q_icmp_eq (pc := 199) (tgt := 204) C (by first | exact hR _ _ | exact hRo _ _ | assumption | exact r_bI _ | exact sv_r _ _ | exact ⟨by omega, by omega⟩) (by first | exact hR _ _ | exact hRo _ _ | assumption | exact r_bI _ | exact sv_r _ _ | exact ⟨by omega, by omega⟩) dL_law_199 (by decide) (fun h1 => ?_) (fun h1 => ?_)
  · refine q_iload (pc := 204) C dL_law_204 rfl ?_
    refine q_if_ne (pc := 206) (tgt := 221) C (by first | exact hR _ _ | exact hRo _ _ | assumption | exact r_bI _ | exact sv_r _ _ | exact ⟨by omega, by omega⟩) dL_law_206 (by decide) (fun h2 => ?_) (fun h2 => ?_)
    · refine q_goto (pc := 221) (tgt := 1169) C dL_law_221 (by decide) ?_
      refine q_drop 5 (lv2 := [_, _, _, _, _, none, _]) rfl ?_
      refine q_drop 6 (lv2 := [_, _, _, _, _, _, none]) rfl ?_
      exact K σ2 P2 T2 f3
    · have h20 : k = 0 := h2
      refine q_aload_n (pc := 209) C dL_law_209 rfl rfl ?_
      refine q_iconst (pc := 210) C dL_law_210 ?_
      refine q_laload (pc := 211) C k232 n232 (by decide) (by decide) (by omega) (by omega) dL_law_211 ?_
      rw [f2 h20]
      refine q_iload (pc := 212) C dL_law_212 rfl ?_
      refine q_i2l (pc := 214) C (by first | exact hR _ _ | exact hRo _ _ | assumption | exact r_bI _ | exact sv_r _ _ | exact ⟨by omega, by omega⟩) dL_law_214 ?_
      refine q_lcmp (pc := 215) (z := 0) C (lg_same _) dL_law_215 ?_
      refine q_if_eq (pc := 216) (tgt := 221) C (by first | exact hR _ _ | exact hRo _ _ | assumption | exact r_bI _ | exact sv_r _ _ | exact ⟨by omega, by omega⟩) dL_law_216 (by decide) (fun h3 => ?_) (fun h3 => ?_)
      · refine q_goto (pc := 221) (tgt := 1169) C dL_law_221 (by decide) ?_
        refine q_drop 5 (lv2 := [_, _, _, _, _, none, _]) rfl ?_
        refine q_drop 6 (lv2 := [_, _, _, _, _, _, none]) rfl ?_
        exact K σ2 P2 T2 f3
      · exact absurd rfl h3
  · exact absurd rfl h1
set_option maxHeartbeats 4000000 in
set_option maxRecDepth 100000 in
theorem lc_arc {p : Program} {l : Launch} {e : Env} {s : State} {m : MethodId} {below : List Frame} {meth : Method} {c : Code} {D : va_G} {cy : Nat → ClassId} {B b L : Nat} {xs : Nat → Int32} (hlf : l.stackTraces = false) (C : Cx p l s m #[Value.ref b] meth c cL_law 7 RL wsL_law D cy B) (hX : va_X b L xs s s.heap) (hbs : b < s.heap.size) (hBs : B = s.heap.size) (hL : L ≤ 2560) {cells slots : Nat} {Q : State → Prop} {i : Nat} (hi : i + 5 ≤ L) {P T : Nat} {μ : St} (hG : GG μ P T) (hc : cells + 3 ≤ 601024) (hs : slots + 18 ≤ 7293033)
    (K : ∀ (σ : St) (P2 T2 : Nat), GG σ P2 T2 → PW p l e room_1 s m #[Value.ref b] below meth c D cy B 7 (cells + 3) (slots + 18) Q 1169 [some (.ref b), some (.ref (B + 0)), some (.ref (B + 216)), some (.ref (B + 232)), some (iN i), none, none] [] σ) : PW p l e room_1 s m #[Value.ref b] below meth c D cy B 7 cells slots Q 224 [some (.ref b), some (.ref (B + 0)), some (.ref (B + 216)), some (.ref (B + 232)), some (iN i), none, none] [] μ := by
  have hN := hG.1
  have hM := hG.2.2.2.1
  have h6 := hN.1
  have h8 := hN.2.1
  have hP := hN.2.2.1
  have hT := hN.2.2.2.1
  have hrt := rel_tree hG
  have hrg := rel_graph hG
  refine q_rng (fun hR => ?_)
  have hRo := hR
  have MID : ∀ z9 : Int, InR z9 → (((sv xs ((i : Int) + 4)) = 0 ∧ z9 = 0) ∨ (¬ (sv xs ((i : Int) + 4)) = 0 ∧ z9 = 1)) → PW p l e room_1 s m #[Value.ref b] below meth c D cy B 7 cells slots Q 257 [some (.ref b), some (.ref (B + 0)), some (.ref (B + 216)), some (.ref (B + 232)), some (iN i), none, none] [iN z9, iN (sv xs ((i : Int) + 3)), iN (sv xs ((i : Int) + 2)), iN (sv xs ((i : Int) + 1)), .ref (B + 0)] μ := by
    intro z9 hz9 hzz
    refine q_aload_n (pc := 257) C dL_law_257 rfl rfl ?_
    refine q_callSX (pc := 258) (As := [_, _, _, _, _, _]) (rest := []) C (w_arc hlf D cy B (sv_r xs _) (sv_r xs _) (sv_r xs _) hz9 (c_arc hlf D cy B (P := P) (T := T) (a := (sv xs ((i : Int) + 1))) (t := (sv xs ((i : Int) + 2))) (n := (sv xs ((i : Int) + 3))) (z := z9) (sv_r xs _) (sv_r xs _) (sv_r xs _) hz9 hP hT h6 h8)) (vx_cwSW 6 C.2.2.2.2.1 gL_law_L_arc rfl rfl rfl (by decide +kernel) ⟨Nat.le_of_ble_eq_true rfl, Nat.le_of_ble_eq_true rfl⟩) rfl rfl (by first | decide | simp [Value.category]) dL_law_258 ⟨hc, hs⟩ (fun _ _ h => h.elim) (fun v σ1 hv => ?_)
    obtain ⟨k, hk, hkr, hσ, hfin⟩ := fin_arc hG hv
    subst hk
    dsimp only [Option.toList, List.cons_append, List.nil_append]
    have e16 : σ1 216 = μ 216 := hσ 216 (by decide) (by decide)
    refine q_istore (pc := 261) (lv2 := [_, _, _, _, _, _, _]) C dL_law_261 (by decide) rfl ?_
    refine q_aload_n (pc := 263) C dL_law_263 rfl rfl ?_
    refine q_aload_n (pc := 264) C dL_law_264 rfl rfl ?_
    refine q_iload (pc := 265) C dL_law_265 rfl ?_
    refine q_iconst (pc := 267) C dL_law_267 ?_
    refine q_iadd (pc := 268) C dL_law_268 ?_
    refine q_sld (pc := 269) C hX hbs hBs (by omega) (by omega) dL_law_269 ?_
    refine q_aload_n (pc := 270) C dL_law_270 rfl rfl ?_
    refine q_iload (pc := 271) C dL_law_271 rfl ?_
    refine q_iconst (pc := 273) C dL_law_273 ?_
    refine q_iadd (pc := 274) C dL_law_274 ?_
    refine q_sld (pc := 275) C hX hbs hBs (by omega) (by omega) dL_law_275 ?_
    refine q_aload_n (pc := 276) C dL_law_276 rfl rfl ?_
    refine q_iload (pc := 277) C dL_law_277 rfl ?_
    refine q_iconst (pc := 279) C dL_law_279 ?_
    refine q_iadd (pc := 280) C dL_law_280 ?_
    refine q_sld (pc := 281) C hX hbs hBs (by omega) (by omega) dL_law_281 ?_
    refine q_aload_n (pc := 282) C dL_law_282 rfl rfl ?_
    refine q_iload (pc := 283) C dL_law_283 rfl ?_
    refine q_iconst (pc := 285) C dL_law_285 ?_
    refine q_iadd (pc := 286) C dL_law_286 ?_
    refine q_sld (pc := 287) C hX hbs hBs (by omega) (by omega) dL_law_287 ?_
    refine q_if_eq (pc := 288) (tgt := 295) C (by first | exact hR _ _ | exact hRo _ _ | assumption | exact r_bI _ | exact sv_r _ _ | exact ⟨by omega, by omega⟩) dL_law_288 (by decide) (fun h9 => ?_) (fun h9 => ?_)
    · have hz0 : z9 = 0 := by omega
      refine q_iconst (pc := 295) C dL_law_295 ?_
      rw [show iN 0 = iN z9 by rw [hz0]]
      refine q_callV (pc := 296) (As := [_, _, _, _]) (rest := []) C (m_arc hlf D cy B (P := P) (T := T) (a := (sv xs ((i : Int) + 1))) (t := (sv xs ((i : Int) + 2))) (n := (sv xs ((i : Int) + 3))) (z := z9) (sv_r xs _) (sv_r xs _) (sv_r xs _) hz9 (by rw [e16]; exact hM.1) (by rw [e16]; exact hM.2.1) h6 h8) (cwV 4 C.2.2.2.2.1 gL_law_X4_arc rfl rfl rfl (by decide +kernel) ⟨Nat.le_of_ble_eq_true rfl, Nat.le_of_ble_eq_true rfl⟩) (ci := 4) rfl k216 (by decide) (by decide) rfl rfl (by first | decide | simp [Value.category]) dL_law_296 ⟨hc, hs⟩ (fun _ _ h => h.elim) (fun v σ2 hv => ?_)
      obtain ⟨v2, hv2, hv1, hmp⟩ := hv
      subst hv1
      dsimp only [Option.toList, List.cons_append, List.nil_append]
      obtain ⟨f1, f2, P2, T2, f3⟩ := hfin v2 σ2 hmp
      refine q_istore (pc := 299) (lv2 := [_, _, _, _, _, _, _]) C dL_law_299 (by decide) rfl ?_
      refine q_aload_n (pc := 301) C dL_law_301 rfl rfl ?_
      refine q_callV (pc := 302) (As := []) (rest := []) C (m_thrown hlf D cy B) (cwV 0 C.2.2.2.2.1 gL_law_X4_thrown rfl rfl rfl (by decide +kernel) ⟨Nat.le_of_ble_eq_true rfl, Nat.le_of_ble_eq_true rfl⟩) (ci := 4) rfl k216 (by decide) (by decide) rfl rfl (by first | decide | simp [Value.category]) dL_law_302 ⟨hc, hs⟩ (fun _ _ h => h.elim) (fun v μ9 hv => ?_)
      have e8 := hv.1
      have e9 := hv.2.symm
      clear hv
      subst e8
      subst e9
      dsimp only [Option.toList, List.cons_append, List.nil_append]
      rw [f1]
      refine q_iload (pc := 305) C dL_law_305 rfl ?_
      refine q_icmp_eq (pc := 307) (tgt := 312) C (by first | exact hR _ _ | exact hRo _ _ | assumption | exact r_bI _ | exact sv_r _ _ | exact ⟨by omega, by omega⟩) (by first | exact hR _ _ | exact hRo _ _ | assumption | exact r_bI _ | exact sv_r _ _ | exact ⟨by omega, by omega⟩) dL_law_307 (by decide) (fun h1 => ?_) (fun h1 => ?_)
      · refine q_iload (pc := 312) C dL_law_312 rfl ?_
        refine q_if_ne (pc := 314) (tgt := 329) C (by first | exact hR _ _ | exact hRo _ _ | assumption | exact r_bI _ | exact sv_r _ _ | exact ⟨by omega, by omega⟩) dL_law_314 (by decide) (fun h2 => ?_) (fun h2 => ?_)
        · refine q_goto (pc := 329) (tgt := 1169) C dL_law_329 (by decide) ?_
          refine q_drop 5 (lv2 := [_, _, _, _, _, none, _]) rfl ?_
          refine q_drop 6 (lv2 := [_, _, _, _, _, _, none]) rfl ?_
          exact K σ2 P2 T2 f3
        · have h20 : k = 0 := h2
          refine q_aload_n (pc := 317) C dL_law_317 rfl rfl ?_
          refine q_iconst (pc := 318) C dL_law_318 ?_
          refine q_laload (pc := 319) C k232 n232 (by decide) (by decide) (by omega) (by omega) dL_law_319 ?_
          rw [f2 h20]
          refine q_iload (pc := 320) C dL_law_320 rfl ?_
          refine q_i2l (pc := 322) C (by first | exact hR _ _ | exact hRo _ _ | assumption | exact r_bI _ | exact sv_r _ _ | exact ⟨by omega, by omega⟩) dL_law_322 ?_
          refine q_lcmp (pc := 323) (z := 0) C (lg_same _) dL_law_323 ?_
          refine q_if_eq (pc := 324) (tgt := 329) C (by first | exact hR _ _ | exact hRo _ _ | assumption | exact r_bI _ | exact sv_r _ _ | exact ⟨by omega, by omega⟩) dL_law_324 (by decide) (fun h3 => ?_) (fun h3 => ?_)
          · refine q_goto (pc := 329) (tgt := 1169) C dL_law_329 (by decide) ?_
            refine q_drop 5 (lv2 := [_, _, _, _, _, none, _]) rfl ?_
            refine q_drop 6 (lv2 := [_, _, _, _, _, _, none]) rfl ?_
            exact K σ2 P2 T2 f3
          · exact absurd rfl h3
      · exact absurd rfl h1
    · have hz1 : z9 = 1 := by omega
      refine q_iconst (pc := 291) C dL_law_291 ?_
      refine q_goto (pc := 292) (tgt := 296) C dL_law_292 (by decide) ?_
      rw [show iN 1 = iN z9 by rw [hz1]]
      refine q_callV (pc := 296) (As := [_, _, _, _]) (rest := []) C (m_arc hlf D cy B (P := P) (T := T) (a := (sv xs ((i : Int) + 1))) (t := (sv xs ((i : Int) + 2))) (n := (sv xs ((i : Int) + 3))) (z := z9) (sv_r xs _) (sv_r xs _) (sv_r xs _) hz9 (by rw [e16]; exact hM.1) (by rw [e16]; exact hM.2.1) h6 h8) (cwV 4 C.2.2.2.2.1 gL_law_X4_arc rfl rfl rfl (by decide +kernel) ⟨Nat.le_of_ble_eq_true rfl, Nat.le_of_ble_eq_true rfl⟩) (ci := 4) rfl k216 (by decide) (by decide) rfl rfl (by first | decide | simp [Value.category]) dL_law_296 ⟨hc, hs⟩ (fun _ _ h => h.elim) (fun v σ2 hv => ?_)
      obtain ⟨v2, hv2, hv1, hmp⟩ := hv
      subst hv1
      dsimp only [Option.toList, List.cons_append, List.nil_append]
      obtain ⟨f1, f2, P2, T2, f3⟩ := hfin v2 σ2 hmp
      refine q_istore (pc := 299) (lv2 := [_, _, _, _, _, _, _]) C dL_law_299 (by decide) rfl ?_
      refine q_aload_n (pc := 301) C dL_law_301 rfl rfl ?_
      refine q_callV (pc := 302) (As := []) (rest := []) C (m_thrown hlf D cy B) (cwV 0 C.2.2.2.2.1 gL_law_X4_thrown rfl rfl rfl (by decide +kernel) ⟨Nat.le_of_ble_eq_true rfl, Nat.le_of_ble_eq_true rfl⟩) (ci := 4) rfl k216 (by decide) (by decide) rfl rfl (by first | decide | simp [Value.category]) dL_law_302 ⟨hc, hs⟩ (fun _ _ h => h.elim) (fun v μ9 hv => ?_)
      have e8 := hv.1
      have e9 := hv.2.symm
      clear hv
      subst e8
      subst e9
      dsimp only [Option.toList, List.cons_append, List.nil_append]
      rw [f1]
      refine q_iload (pc := 305) C dL_law_305 rfl ?_
      refine q_icmp_eq (pc := 307) (tgt := 312) C (by first | exact hR _ _ | exact hRo _ _ | assumption | exact r_bI _ | exact sv_r _ _ | exact ⟨by omega, by omega⟩) (by first | exact hR _ _ | exact hRo _ _ | assumption | exact r_bI _ | exact sv_r _ _ | exact ⟨by omega, by omega⟩) dL_law_307 (by decide) (fun h1 => ?_) (fun h1 => ?_)
      · refine q_iload (pc := 312) C dL_law_312 rfl ?_
        refine q_if_ne (pc := 314) (tgt := 329) C (by first | exact hR _ _ | exact hRo _ _ | assumption | exact r_bI _ | exact sv_r _ _ | exact ⟨by omega, by omega⟩) dL_law_314 (by decide) (fun h2 => ?_) (fun h2 => ?_)
        · refine q_goto (pc := 329) (tgt := 1169) C dL_law_329 (by decide) ?_
          refine q_drop 5 (lv2 := [_, _, _, _, _, none, _]) rfl ?_
          refine q_drop 6 (lv2 := [_, _, _, _, _, _, none]) rfl ?_
          exact K σ2 P2 T2 f3
        · have h20 : k = 0 := h2
          refine q_aload_n (pc := 317) C dL_law_317 rfl rfl ?_
          refine q_iconst (pc := 318) C dL_law_318 ?_
          refine q_laload (pc := 319) C k232 n232 (by decide) (by decide) (by omega) (by omega) dL_law_319 ?_
          rw [f2 h20]
          refine q_iload (pc := 320) C dL_law_320 rfl ?_
          refine q_i2l (pc := 322) C (by first | exact hR _ _ | exact hRo _ _ | assumption | exact r_bI _ | exact sv_r _ _ | exact ⟨by omega, by omega⟩) dL_law_322 ?_
          refine q_lcmp (pc := 323) (z := 0) C (lg_same _) dL_law_323 ?_
          refine q_if_eq (pc := 324) (tgt := 329) C (by first | exact hR _ _ | exact hRo _ _ | assumption | exact r_bI _ | exact sv_r _ _ | exact ⟨by omega, by omega⟩) dL_law_324 (by decide) (fun h3 => ?_) (fun h3 => ?_)
          · refine q_goto (pc := 329) (tgt := 1169) C dL_law_329 (by decide) ?_
            refine q_drop 5 (lv2 := [_, _, _, _, _, none, _]) rfl ?_
            refine q_drop 6 (lv2 := [_, _, _, _, _, _, none]) rfl ?_
            exact K σ2 P2 T2 f3
          · exact absurd rfl h3
      · exact absurd rfl h1
  refine q_aload_n (pc := 224) C dL_law_224 rfl rfl ?_
  refine q_aload_n (pc := 225) C dL_law_225 rfl rfl ?_
  refine q_iload (pc := 226) C dL_law_226 rfl ?_
  refine q_iconst (pc := 228) C dL_law_228 ?_
  refine q_iadd (pc := 229) C dL_law_229 ?_
  refine q_sld (pc := 230) C hX hbs hBs (by omega) (by omega) dL_law_230 ?_
  refine q_aload_n (pc := 231) C dL_law_231 rfl rfl ?_
  refine q_iload (pc := 232) C dL_law_232 rfl ?_
  refine q_iconst (pc := 234) C dL_law_234 ?_
  refine q_iadd (pc := 235) C dL_law_235 ?_
  refine q_sld (pc := 236) C hX hbs hBs (by omega) (by omega) dL_law_236 ?_
  refine q_aload_n (pc := 237) C dL_law_237 rfl rfl ?_
  refine q_iload (pc := 238) C dL_law_238 rfl ?_
  refine q_iconst (pc := 240) C dL_law_240 ?_
  refine q_iadd (pc := 241) C dL_law_241 ?_
  refine q_sld (pc := 242) C hX hbs hBs (by omega) (by omega) dL_law_242 ?_
  refine q_aload_n (pc := 243) C dL_law_243 rfl rfl ?_
  refine q_iload (pc := 244) C dL_law_244 rfl ?_
  refine q_iconst (pc := 246) C dL_law_246 ?_
  refine q_iadd (pc := 247) C dL_law_247 ?_
  refine q_sld (pc := 248) C hX hbs hBs (by omega) (by omega) dL_law_248 ?_
  refine q_if_eq (pc := 249) (tgt := 256) C (by first | exact hR _ _ | exact hRo _ _ | assumption | exact r_bI _ | exact sv_r _ _ | exact ⟨by omega, by omega⟩) dL_law_249 (by decide) (fun h9 => ?_) (fun h9 => ?_)
  · refine q_iconst (pc := 256) C dL_law_256 ?_
    exact MID 0 r_0 (Or.inl ⟨h9, rfl⟩)
  · refine q_iconst (pc := 252) C dL_law_252 ?_
    refine q_goto (pc := 253) (tgt := 257) C dL_law_253 (by decide) ?_
    exact MID 1 ⟨by decide, by decide⟩ (Or.inr ⟨h9, rfl⟩)

