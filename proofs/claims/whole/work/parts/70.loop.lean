set_option maxHeartbeats 4000000 in
set_option maxRecDepth 100000 in
theorem law_loop {p : Program} {l : Launch} {e : Env} {s : State} {m : MethodId} {below : List Frame} {meth : Method} {c : Code} {D : va_G} {cy : Nat → ClassId} {B b L : Nat} {xs : Nat → Int32} (hlf : l.stackTraces = false) (C : Cx p l s m #[Value.ref b] meth c cL_law 7 RL wsL_law D cy B) (hret : meth.sig.returnType = ret) (hX : va_X b L xs s s.heap) (hbs : b < s.heap.size) (hBs : B = s.heap.size) (hL : L ≤ 2560) : ∀ (k i : Nat) (μ : St) (P T cells slots : Nat), GG μ P T → cells + 3 * k ≤ 601024 → slots + 18 * k ≤ 7293033 → L ≤ i + 5 * k + 4 → i ≤ L → PW p l e room_1 s m #[Value.ref b] below meth c D cy B 7 cells slots (lw_Z below #[Value.ref b] s) 23 [some (.ref b), some (.ref (B + 0)), some (.ref (B + 216)), some (.ref (B + 232)), some (iN i), none, none] [] μ := by
  intro k
  induction k with
  | zero =>
    intro i μ P T cells slots hG hc hs h1 h2
    refine q_iload (pc := 23) C dL_law_23 rfl ?_
    refine q_aload_n (pc := 25) C dL_law_25 rfl rfl ?_
    refine q_slen (pc := 26) C hX hbs hBs dL_law_26 ?_
    refine q_iconst (pc := 27) C dL_law_27 ?_
    refine q_isub (pc := 28) C dL_law_28 ?_
    refine q_icmp_gt (pc := 29) (tgt := 1175) C ⟨by omega, by omega⟩ ⟨by omega, by omega⟩ dL_law_29 (by decide) (fun _ => ?_) (fun h => absurd h (by omega))
    refine q_iconst (pc := 1175) C dL_law_1175 ?_
    intro hR H locs ls hP hS hl
    exact va_forget (fun q hq => by rw [← hBs]; exact hS.2.2 q hq) (W.widen (by omega) (by omega) (lw_ret C.1 C.2.1 hret C.2.2.2.2.2.2.1 dL_law_1176))
  | succ k ih =>
    intro i μ P T cells slots hG hc hs h1 h2
    refine q_iload (pc := 23) C dL_law_23 rfl ?_
    refine q_aload_n (pc := 25) C dL_law_25 rfl rfl ?_
    refine q_slen (pc := 26) C hX hbs hBs dL_law_26 ?_
    refine q_iconst (pc := 27) C dL_law_27 ?_
    refine q_isub (pc := 28) C dL_law_28 ?_
    refine q_icmp_gt (pc := 29) (tgt := 1175) C ⟨by omega, by omega⟩ ⟨by omega, by omega⟩ dL_law_29 (by decide) (fun _ => ?_) (fun h => ?_)
    · refine q_iconst (pc := 1175) C dL_law_1175 ?_
      intro hR H locs ls hP hS hl
      exact va_forget (fun q hq => by rw [← hBs]; exact hS.2.2 q hq) (W.widen (by omega) (by omega) (lw_ret C.1 C.2.1 hret C.2.2.2.2.2.2.1 dL_law_1176))
    have hi : i + 5 ≤ L := by omega
    have K : ∀ (σ : St) (P2 T2 : Nat), GG σ P2 T2 → PW p l e room_1 s m #[Value.ref b] below meth c D cy B 7 (cells + 3) (slots + 18) (lw_Z below #[Value.ref b] s) 1169 [some (.ref b), some (.ref (B + 0)), some (.ref (B + 216)), some (.ref (B + 232)), some (iN i), none, none] [] σ := by
      intro σ P2 T2 hG2
      refine q_iinc (pc := 1169) (lv2 := [some (.ref b), some (.ref (B + 0)), some (.ref (B + 216)), some (.ref (B + 232)), some (iN ((i + 5 : Nat) : Int)), none, none]) C dL_law_1169 (by decide) rfl rfl ?_
      refine q_goto (pc := 1172) (tgt := 23) C dL_law_1172 (by decide) ?_
      exact ih (i + 5) σ P2 T2 (cells + 3) (slots + 18) hG2 (by omega) (by omega) (by omega) hi
    refine q_aload_n (pc := 32) C dL_law_32 rfl rfl ?_
    refine q_iload (pc := 33) C dL_law_33 rfl ?_
    refine q_sld (pc := 35) C hX hbs hBs (by omega) (by omega) dL_law_35 ?_
    refine q_bipush (pc := 36) C (by decide +kernel) dL_law_36 ?_
    obtain ⟨z, hzr, hz9⟩ : ∃ z : Int, InR z ∧ Int32.ofInt (sv xs i) &&& Int32.ofInt 31 = Int32.ofInt z := ⟨(Int32.ofInt (sv xs i) &&& Int32.ofInt 31).toInt, r_of _, (Int32.ofInt_toInt _).symm⟩
    refine q_iand (pc := 38) C hz9 dL_law_38 ?_
    by_cases h9 : z < 0 ∨ 17 < z
    · refine q_tableOut (pc := 39) (tgt := 1169) C hzr dL_law_39 h9 (by decide) ?_
      exact fun hR H locs ls hP hS hl => W.widen (by omega) (by omega) (K μ P T hG hR H locs ls hP hS hl)
    rcases (show z = 0 ∨ z = 1 ∨ z = 2 ∨ z = 3 ∨ z = 4 ∨ z = 5 ∨ z = 6 ∨ z = 7 ∨ z = 8 ∨ z = 9 ∨ z = 10 ∨ z = 11 ∨ z = 12 ∨ z = 13 ∨ z = 14 ∨ z = 15 ∨ z = 16 ∨ z = 17 by omega) with rfl | rfl | rfl | rfl | rfl | rfl | rfl | rfl | rfl | rfl | rfl | rfl | rfl | rfl | rfl | rfl | rfl | rfl
    · exact q_tableIn (pc := 39) (tgt := 124) C hzr dL_law_39 (by decide) (by decide) rfl (by decide) (lc_place hlf C hX hbs hBs hL hi hG (by omega) (by omega) K)
    · exact q_tableIn (pc := 39) (tgt := 180) C hzr dL_law_39 (by decide) (by decide) rfl (by decide) (lc_transition hlf C hX hbs hBs hL hi hG (by omega) (by omega) K)
    · exact q_tableIn (pc := 39) (tgt := 224) C hzr dL_law_39 (by decide) (by decide) rfl (by decide) (lc_arc hlf C hX hbs hBs hL hi hG (by omega) (by omega) K)
    · exact q_tableIn (pc := 39) (tgt := 332) C hzr dL_law_39 (by decide) (by decide) rfl (by decide) (lc_tokens hlf C hX hbs hBs hL hi hG (by omega) (by omega) K)
    · exact q_tableIn (pc := 39) (tgt := 380) C hzr dL_law_39 (by decide) (by decide) rfl (by decide) (lc_explore hlf C hX hbs hBs hL hi hG (by omega) (by omega) K)
    · exact q_tableIn (pc := 39) (tgt := 424) C hzr dL_law_39 (by decide) (by decide) rfl (by decide) (lc_count hlf C hX hbs hBs hL hi hG (by omega) (by omega) K)
    · exact q_tableIn (pc := 39) (tgt := 492) C hzr dL_law_39 (by decide) (by decide) rfl (by decide) (lc_node hlf C hX hbs hBs hL hi hG (by omega) (by omega) K)
    · exact q_tableIn (pc := 39) (tgt := 560) C hzr dL_law_39 (by decide) (by decide) rfl (by decide) (lc_bound hlf C hX hbs hBs hL hi hG (by omega) (by omega) K)
    · exact q_tableIn (pc := 39) (tgt := 616) C hzr dL_law_39 (by decide) (by decide) rfl (by decide) (lc_want hlf C hX hbs hBs hL hi hG (by omega) (by omega) K)
    · exact q_tableIn (pc := 39) (tgt := 664) C hzr dL_law_39 (by decide) (by decide) rfl (by decide) (lc_covered hlf C hX hbs hBs hL hi hG (by omega) (by omega) K)
    · exact q_tableIn (pc := 39) (tgt := 715) C hzr dL_law_39 (by decide) (by decide) rfl (by decide) (lc_possible hlf C hX hbs hBs hL hi hG (by omega) (by omega) K)
    · exact q_tableIn (pc := 39) (tgt := 778) C hzr dL_law_39 (by decide) (by decide) rfl (by decide) (lc_growth hlf C hX hbs hBs hL hi hG (by omega) (by omega) K)
    · exact q_tableIn (pc := 39) (tgt := 834) C hzr dL_law_39 (by decide) (by decide) rfl (by decide) (lc_graph hlf C hX hbs hBs hL hi hG (by omega) (by omega) K)
    · exact q_tableIn (pc := 39) (tgt := 878) C hzr dL_law_39 (by decide) (by decide) rfl (by decide) (lc_reached hlf C hX hbs hBs hL hi hG (by omega) (by omega) K)
    · exact q_tableIn (pc := 39) (tgt := 922) C hzr dL_law_39 (by decide) (by decide) rfl (by decide) (lc_distance hlf C hX hbs hBs hL hi hG (by omega) (by omega) K)
    · exact q_tableIn (pc := 39) (tgt := 978) C hzr dL_law_39 (by decide) (by decide) rfl (by decide) (lc_found hlf C hX hbs hBs hL hi hG (by omega) (by omega) K)
    · exact q_tableIn (pc := 39) (tgt := 1062) C hzr dL_law_39 (by decide) (by decide) rfl (by decide) (lc_stops hlf C hX hbs hBs hL hi hG (by omega) (by omega) K)
    · exact q_tableIn (pc := 39) (tgt := 1106) C hzr dL_law_39 (by decide) (by decide) rfl (by decide) (lc_live hlf C hX hbs hBs hL hi hG (by omega) (by omega) K)

