set_option maxHeartbeats 4000000 in
set_option maxRecDepth 100000 in
theorem lc_tokens {p : Program} {l : Launch} {e : Env} {s : State} {m : MethodId} {below : List Frame} {meth : Method} {c : Code} {D : va_G} {cy : Nat → ClassId} {B b L : Nat} {xs : Nat → Int32} (hlf : l.stackTraces = false) (C : Cx p l s m #[Value.ref b] meth c cL_law 7 RL wsL_law D cy B) (hX : va_X b L xs s s.heap) (hbs : b < s.heap.size) (hBs : B = s.heap.size) (hL : L ≤ 2560) {cells slots : Nat} {Q : State → Prop} {i : Nat} (hi : i + 5 ≤ L) {P T : Nat} {μ : St} (hG : GG μ P T) (hc : cells + 3 ≤ 601024) (hs : slots + 18 ≤ 7293033)
    (K : ∀ (σ : St) (P2 T2 : Nat), GG σ P2 T2 → PW p l e room_1 s m #[Value.ref b] below meth c D cy B 7 (cells + 3) (slots + 18) Q 1169 [some (.ref b), some (.ref (B + 0)), some (.ref (B + 216)), some (.ref (B + 232)), some (iN i), none, none] [] σ) : PW p l e room_1 s m #[Value.ref b] below meth c D cy B 7 cells slots Q 332 [some (.ref b), some (.ref (B + 0)), some (.ref (B + 216)), some (.ref (B + 232)), some (iN i), none, none] [] μ := by
  have hN := hG.1
  have hM := hG.2.2.2.1
  have h6 := hN.1
  have h8 := hN.2.1
  have hP := hN.2.2.1
  have hT := hN.2.2.2.1
  have hrt := rel_tree hG
  have hrg := rel_graph hG
  refine q_rng (fun hR => ?_)
  have hRo := hR
  refine q_aload_n (pc := 332) C dL_law_332 rfl rfl ?_
  refine q_aload_n (pc := 333) C dL_law_333 rfl rfl ?_
  refine q_iload (pc := 334) C dL_law_334 rfl ?_
  refine q_iconst (pc := 336) C dL_law_336 ?_
  refine q_iadd (pc := 337) C dL_law_337 ?_
  refine q_sld (pc := 338) C hX hbs hBs (by omega) (by omega) dL_law_338 ?_
  refine q_aload_n (pc := 339) C dL_law_339 rfl rfl ?_
  refine q_iload (pc := 340) C dL_law_340 rfl ?_
  refine q_iconst (pc := 342) C dL_law_342 ?_
  refine q_iadd (pc := 343) C dL_law_343 ?_
  refine q_sld (pc := 344) C hX hbs hBs (by omega) (by omega) dL_law_344 ?_
  refine q_callSX (pc := 345) (As := [_, _, _]) (rest := []) C (w_tokens hlf D cy B (sv_r xs _) (sv_r xs _) (c_tokens hlf D cy B (P := P) (a := (sv xs ((i : Int) + 1))) (n := (sv xs ((i : Int) + 2))) (sv_r xs _) (sv_r xs _) hP h6)) (vx_cwSW 3 C.2.2.2.2.1 gL_law_L_tokens rfl rfl rfl (by decide +kernel) ⟨Nat.le_of_ble_eq_true rfl, Nat.le_of_ble_eq_true rfl⟩) rfl rfl (by first | decide | simp [Value.category]) dL_law_345 ⟨hc, hs⟩ (fun _ _ h => h.elim) (fun v σ1 hv => ?_)
  obtain ⟨k, hk, hkr, hσ, hfin⟩ := fin_tokens hG hv
  subst hk
  dsimp only [Option.toList, List.cons_append, List.nil_append]
  have e16 : σ1 216 = μ 216 := hσ 216 (by decide) (by decide)
  refine q_istore (pc := 348) (lv2 := [_, _, _, _, _, _, _]) C dL_law_348 (by decide) rfl ?_
  refine q_aload_n (pc := 350) C dL_law_350 rfl rfl ?_
  refine q_aload_n (pc := 351) C dL_law_351 rfl rfl ?_
  refine q_iload (pc := 352) C dL_law_352 rfl ?_
  refine q_iconst (pc := 354) C dL_law_354 ?_
  refine q_iadd (pc := 355) C dL_law_355 ?_
  refine q_sld (pc := 356) C hX hbs hBs (by omega) (by omega) dL_law_356 ?_
  refine q_aload_n (pc := 357) C dL_law_357 rfl rfl ?_
  refine q_iload (pc := 358) C dL_law_358 rfl ?_
  refine q_iconst (pc := 360) C dL_law_360 ?_
  refine q_iadd (pc := 361) C dL_law_361 ?_
  refine q_sld (pc := 362) C hX hbs hBs (by omega) (by omega) dL_law_362 ?_
  refine q_callV (pc := 363) (As := [_, _]) (rest := []) C (m_tokens hlf D cy B (P := P) (a := (sv xs ((i : Int) + 1))) (n := (sv xs ((i : Int) + 2))) (sv_r xs _) (sv_r xs _) (by rw [e16]; exact hM.1) h6) (cwV 2 C.2.2.2.2.1 gL_law_X4_tokens rfl rfl rfl (by decide +kernel) ⟨Nat.le_of_ble_eq_true rfl, Nat.le_of_ble_eq_true rfl⟩) (ci := 4) rfl k216 (by decide) (by decide) rfl rfl (by first | decide | simp [Value.category]) dL_law_363 ⟨hc, hs⟩ (fun _ _ h => h.elim) (fun v σ2 hv => ?_)
  obtain ⟨hv1, hmp⟩ := hv
  subst hv1
  dsimp only [Option.toList, List.cons_append, List.nil_append]
  obtain ⟨f1, P2, T2, f3⟩ := hfin σ2 hmp
  refine q_aload_n (pc := 366) C dL_law_366 rfl rfl ?_
  refine q_callV (pc := 367) (As := []) (rest := []) C (m_thrown hlf D cy B) (cwV 0 C.2.2.2.2.1 gL_law_X4_thrown rfl rfl rfl (by decide +kernel) ⟨Nat.le_of_ble_eq_true rfl, Nat.le_of_ble_eq_true rfl⟩) (ci := 4) rfl k216 (by decide) (by decide) rfl rfl (by first | decide | simp [Value.category]) dL_law_367 ⟨hc, hs⟩ (fun _ _ h => h.elim) (fun v μ9 hv => ?_)
  have e8 := hv.1
  have e9 := hv.2.symm
  clear hv
  subst e8
  subst e9
  dsimp only [Option.toList, List.cons_append, List.nil_append]
  rw [f1]
  refine q_iload (pc := 370) C dL_law_370 rfl ?_
  refine q_icmp_eq (pc := 372) (tgt := 377) C (by first | exact hR _ _ | exact hRo _ _ | assumption | exact r_bI _ | exact sv_r _ _ | exact ⟨by omega, by omega⟩) (by first | exact hR _ _ | exact hRo _ _ | assumption | exact r_bI _ | exact sv_r _ _ | exact ⟨by omega, by omega⟩) dL_law_372 (by decide) (fun h1 => ?_) (fun h1 => ?_)
  · refine q_goto (pc := 377) (tgt := 1169) C dL_law_377 (by decide) ?_
    refine q_drop 5 (lv2 := [_, _, _, _, _, none, _]) rfl ?_
    exact K σ2 P2 T2 f3
  · exact absurd rfl h1
set_option maxHeartbeats 4000000 in
set_option maxRecDepth 100000 in
theorem lc_explore {p : Program} {l : Launch} {e : Env} {s : State} {m : MethodId} {below : List Frame} {meth : Method} {c : Code} {D : va_G} {cy : Nat → ClassId} {B b L : Nat} {xs : Nat → Int32} (hlf : l.stackTraces = false) (C : Cx p l s m #[Value.ref b] meth c cL_law 7 RL wsL_law D cy B) (hX : va_X b L xs s s.heap) (hbs : b < s.heap.size) (hBs : B = s.heap.size) (hL : L ≤ 2560) {cells slots : Nat} {Q : State → Prop} {i : Nat} (hi : i + 5 ≤ L) {P T : Nat} {μ : St} (hG : GG μ P T) (hc : cells + 3 ≤ 601024) (hs : slots + 18 ≤ 7293033)
    (K : ∀ (σ : St) (P2 T2 : Nat), GG σ P2 T2 → PW p l e room_1 s m #[Value.ref b] below meth c D cy B 7 (cells + 3) (slots + 18) Q 1169 [some (.ref b), some (.ref (B + 0)), some (.ref (B + 216)), some (.ref (B + 232)), some (iN i), none, none] [] σ) : PW p l e room_1 s m #[Value.ref b] below meth c D cy B 7 cells slots Q 380 [some (.ref b), some (.ref (B + 0)), some (.ref (B + 216)), some (.ref (B + 232)), some (iN i), none, none] [] μ := by
  have hN := hG.1
  have hM := hG.2.2.2.1
  have h6 := hN.1
  have h8 := hN.2.1
  have hP := hN.2.2.1
  have hT := hN.2.2.2.1
  have hrt := rel_tree hG
  have hrg := rel_graph hG
  refine q_rng (fun hR => ?_)
  have hRo := hR
  refine q_aload_n (pc := 380) C dL_law_380 rfl rfl ?_
  refine q_aload_n (pc := 381) C dL_law_381 rfl rfl ?_
  refine q_callSX (pc := 382) (As := [_, _]) (rest := []) C (w_explore hlf D cy B  (c_explore hlf D cy B (P := P) (T := T) hN)) (vx_cwSW 2 C.2.2.2.2.1 gL_law_L_explore rfl rfl rfl (by decide +kernel) ⟨Nat.le_of_ble_eq_true rfl, Nat.le_of_ble_eq_true rfl⟩) rfl rfl (by first | decide | simp [Value.category]) dL_law_382 ⟨hc, hs⟩ (fun _ _ h => h.elim) (fun v σ1 hv => ?_)
  obtain ⟨hN1, hM1, hZ1, σf, nf, k9, hk9, hrun, k, hk, hkr, hσ, hfin⟩ := fin_explore hG hv
  subst hk
  dsimp only [Option.toList, List.cons_append, List.nil_append]
  have e16 : σ1 216 = μ 216 := hσ 216 (by decide) (by decide)
  refine q_istore (pc := 385) (lv2 := [_, _, _, _, _, _, _]) C dL_law_385 (by decide) rfl ?_
  refine q_aload_n (pc := 387) C dL_law_387 rfl rfl ?_
  refine q_callV (pc := 388) (As := []) (rest := []) C (m_explore hlf D cy B (ν := disS μ) (σf := σf) (P := P) (T := T) (nf := nf) (k9 := k9) hN1 hM1 hZ1 hk9 hrun) (cwV 0 C.2.2.2.2.1 gL_law_X4_explore rfl rfl rfl (by decide +kernel) ⟨Nat.le_of_ble_eq_true rfl, Nat.le_of_ble_eq_true rfl⟩) (ci := 4) rfl k216 (by decide) (by decide) rfl rfl (by first | decide | simp [Value.category]) dL_law_388 ⟨hc, hs⟩ (fun _ _ h => h.elim) (fun v σ2 hv => ?_)
  obtain ⟨v2, hv2, hv1, hmp⟩ := hv
  subst hv1
  dsimp only [Option.toList, List.cons_append, List.nil_append]
  obtain ⟨f1, f2, P2, T2, f3⟩ := hfin v2 σ2 hmp
  refine q_istore (pc := 391) (lv2 := [_, _, _, _, _, _, _]) C dL_law_391 (by decide) rfl ?_
  refine q_aload_n (pc := 393) C dL_law_393 rfl rfl ?_
  refine q_callV (pc := 394) (As := []) (rest := []) C (m_thrown hlf D cy B) (cwV 0 C.2.2.2.2.1 gL_law_X4_thrown rfl rfl rfl (by decide +kernel) ⟨Nat.le_of_ble_eq_true rfl, Nat.le_of_ble_eq_true rfl⟩) (ci := 4) rfl k216 (by decide) (by decide) rfl rfl (by first | decide | simp [Value.category]) dL_law_394 ⟨hc, hs⟩ (fun _ _ h => h.elim) (fun v μ9 hv => ?_)
  have e8 := hv.1
  have e9 := hv.2.symm
  clear hv
  subst e8
  subst e9
  dsimp only [Option.toList, List.cons_append, List.nil_append]
  rw [f1]
  refine q_iload (pc := 397) C dL_law_397 rfl ?_
  refine q_icmp_eq (pc := 399) (tgt := 404) C (by first | exact hR _ _ | exact hRo _ _ | assumption | exact r_bI _ | exact sv_r _ _ | exact ⟨by omega, by omega⟩) (by first | exact hR _ _ | exact hRo _ _ | assumption | exact r_bI _ | exact sv_r _ _ | exact ⟨by omega, by omega⟩) dL_law_399 (by decide) (fun h1 => ?_) (fun h1 => ?_)
  · refine q_iload (pc := 404) C dL_law_404 rfl ?_
    refine q_if_ne (pc := 406) (tgt := 421) C (by first | exact hR _ _ | exact hRo _ _ | assumption | exact r_bI _ | exact sv_r _ _ | exact ⟨by omega, by omega⟩) dL_law_406 (by decide) (fun h2 => ?_) (fun h2 => ?_)
    · refine q_goto (pc := 421) (tgt := 1169) C dL_law_421 (by decide) ?_
      refine q_drop 5 (lv2 := [_, _, _, _, _, none, _]) rfl ?_
      refine q_drop 6 (lv2 := [_, _, _, _, _, _, none]) rfl ?_
      exact K σ2 P2 T2 f3
    · have h20 : k = 0 := h2
      refine q_aload_n (pc := 409) C dL_law_409 rfl rfl ?_
      refine q_iconst (pc := 410) C dL_law_410 ?_
      refine q_laload (pc := 411) C k232 n232 (by decide) (by decide) (by omega) (by omega) dL_law_411 ?_
      rw [f2 h20]
      refine q_iload (pc := 412) C dL_law_412 rfl ?_
      refine q_i2l (pc := 414) C (by first | exact hR _ _ | exact hRo _ _ | assumption | exact r_bI _ | exact sv_r _ _ | exact ⟨by omega, by omega⟩) dL_law_414 ?_
      refine q_lcmp (pc := 415) (z := 0) C (lg_same _) dL_law_415 ?_
      refine q_if_eq (pc := 416) (tgt := 421) C (by first | exact hR _ _ | exact hRo _ _ | assumption | exact r_bI _ | exact sv_r _ _ | exact ⟨by omega, by omega⟩) dL_law_416 (by decide) (fun h3 => ?_) (fun h3 => ?_)
      · refine q_goto (pc := 421) (tgt := 1169) C dL_law_421 (by decide) ?_
        refine q_drop 5 (lv2 := [_, _, _, _, _, none, _]) rfl ?_
        refine q_drop 6 (lv2 := [_, _, _, _, _, _, none]) rfl ?_
        exact K σ2 P2 T2 f3
      · exact absurd rfl h3
  · exact absurd rfl h1
set_option maxHeartbeats 4000000 in
set_option maxRecDepth 100000 in
theorem lc_count {p : Program} {l : Launch} {e : Env} {s : State} {m : MethodId} {below : List Frame} {meth : Method} {c : Code} {D : va_G} {cy : Nat → ClassId} {B b L : Nat} {xs : Nat → Int32} (hlf : l.stackTraces = false) (C : Cx p l s m #[Value.ref b] meth c cL_law 7 RL wsL_law D cy B) (hX : va_X b L xs s s.heap) (hbs : b < s.heap.size) (hBs : B = s.heap.size) (hL : L ≤ 2560) {cells slots : Nat} {Q : State → Prop} {i : Nat} (hi : i + 5 ≤ L) {P T : Nat} {μ : St} (hG : GG μ P T) (hc : cells + 3 ≤ 601024) (hs : slots + 18 ≤ 7293033)
    (K : ∀ (σ : St) (P2 T2 : Nat), GG σ P2 T2 → PW p l e room_1 s m #[Value.ref b] below meth c D cy B 7 (cells + 3) (slots + 18) Q 1169 [some (.ref b), some (.ref (B + 0)), some (.ref (B + 216)), some (.ref (B + 232)), some (iN i), none, none] [] σ) : PW p l e room_1 s m #[Value.ref b] below meth c D cy B 7 cells slots Q 424 [some (.ref b), some (.ref (B + 0)), some (.ref (B + 216)), some (.ref (B + 232)), some (iN i), none, none] [] μ := by
  have hN := hG.1
  have hM := hG.2.2.2.1
  have h6 := hN.1
  have h8 := hN.2.1
  have hP := hN.2.2.1
  have hT := hN.2.2.2.1
  have hrt := rel_tree hG
  have hrg := rel_graph hG
  refine q_rng (fun hR => ?_)
  have hRo := hR
  refine q_aload_n (pc := 424) C dL_law_424 rfl rfl ?_
  refine q_aload_n (pc := 425) C dL_law_425 rfl rfl ?_
  refine q_iload (pc := 426) C dL_law_426 rfl ?_
  refine q_iconst (pc := 428) C dL_law_428 ?_
  refine q_iadd (pc := 429) C dL_law_429 ?_
  refine q_sld (pc := 430) C hX hbs hBs (by omega) (by omega) dL_law_430 ?_
  refine q_aload_n (pc := 431) C dL_law_431 rfl rfl ?_
  refine q_iload (pc := 432) C dL_law_432 rfl ?_
  refine q_iconst (pc := 434) C dL_law_434 ?_
  refine q_iadd (pc := 435) C dL_law_435 ?_
  refine q_sld (pc := 436) C hX hbs hBs (by omega) (by omega) dL_law_436 ?_
  refine q_aload_n (pc := 437) C dL_law_437 rfl rfl ?_
  refine q_callSX (pc := 438) (As := [_, _, _, _]) (rest := []) C (w_count hlf D cy B (sv_r xs _) (sv_r xs _) (c_count hlf D cy B (P := P) (n := (sv xs ((i : Int) + 1))) (a := (sv xs ((i : Int) + 2))) (sv_r xs _) (sv_r xs _) hP h6 (by omega))) (vx_cwSW 4 C.2.2.2.2.1 gL_law_L_count rfl rfl rfl (by decide +kernel) ⟨Nat.le_of_ble_eq_true rfl, Nat.le_of_ble_eq_true rfl⟩) rfl rfl (by first | decide | simp [Value.category]) dL_law_438 ⟨hc, hs⟩ (fun _ _ h => h.elim) (fun v σ1 hv => ?_)
  obtain ⟨k, hk, hkr, hσ, hfin⟩ := fin_count hG hv
  subst hk
  dsimp only [Option.toList, List.cons_append, List.nil_append]
  have e16 : σ1 216 = μ 216 := hσ 216 (by decide) (by decide)
  refine q_istore (pc := 441) (lv2 := [_, _, _, _, _, _, _]) C dL_law_441 (by decide) rfl ?_
  refine q_aload_n (pc := 443) C dL_law_443 rfl rfl ?_
  refine q_aload_n (pc := 444) C dL_law_444 rfl rfl ?_
  refine q_iload (pc := 445) C dL_law_445 rfl ?_
  refine q_iconst (pc := 447) C dL_law_447 ?_
  refine q_iadd (pc := 448) C dL_law_448 ?_
  refine q_sld (pc := 449) C hX hbs hBs (by omega) (by omega) dL_law_449 ?_
  refine q_aload_n (pc := 450) C dL_law_450 rfl rfl ?_
  refine q_iload (pc := 451) C dL_law_451 rfl ?_
  refine q_iconst (pc := 453) C dL_law_453 ?_
  refine q_iadd (pc := 454) C dL_law_454 ?_
  refine q_sld (pc := 455) C hX hbs hBs (by omega) (by omega) dL_law_455 ?_
  refine q_callV (pc := 456) (As := [_, _]) (rest := []) C (m_count hlf D cy B (P := P) (n := (sv xs ((i : Int) + 1))) (a := (sv xs ((i : Int) + 2))) (sv_r xs _) (sv_r xs _) (by rw [e16]; exact hM.1) h6 (by rw [e16]; omega)) (cwV 2 C.2.2.2.2.1 gL_law_X4_count rfl rfl rfl (by decide +kernel) ⟨Nat.le_of_ble_eq_true rfl, Nat.le_of_ble_eq_true rfl⟩) (ci := 4) rfl k216 (by decide) (by decide) rfl rfl (by first | decide | simp [Value.category]) dL_law_456 ⟨hc, hs⟩ (fun _ _ h => h.elim) (fun v σ2 hv => ?_)
  obtain ⟨v2, hv2, hv1, hmp⟩ := hv
  subst hv1
  dsimp only [Option.toList, List.cons_append, List.nil_append]
  obtain ⟨f1, f2, P2, T2, f3⟩ := hfin v2 σ2 hmp
  refine q_istore (pc := 459) (lv2 := [_, _, _, _, _, _, _]) C dL_law_459 (by decide) rfl ?_
  refine q_aload_n (pc := 461) C dL_law_461 rfl rfl ?_
  refine q_callV (pc := 462) (As := []) (rest := []) C (m_thrown hlf D cy B) (cwV 0 C.2.2.2.2.1 gL_law_X4_thrown rfl rfl rfl (by decide +kernel) ⟨Nat.le_of_ble_eq_true rfl, Nat.le_of_ble_eq_true rfl⟩) (ci := 4) rfl k216 (by decide) (by decide) rfl rfl (by first | decide | simp [Value.category]) dL_law_462 ⟨hc, hs⟩ (fun _ _ h => h.elim) (fun v μ9 hv => ?_)
  have e8 := hv.1
  have e9 := hv.2.symm
  clear hv
  subst e8
  subst e9
  dsimp only [Option.toList, List.cons_append, List.nil_append]
  rw [f1]
  refine q_iload (pc := 465) C dL_law_465 rfl ?_
  refine q_icmp_eq (pc := 467) (tgt := 472) C (by first | exact hR _ _ | exact hRo _ _ | assumption | exact r_bI _ | exact sv_r _ _ | exact ⟨by omega, by omega⟩) (by first | exact hR _ _ | exact hRo _ _ | assumption | exact r_bI _ | exact sv_r _ _ | exact ⟨by omega, by omega⟩) dL_law_467 (by decide) (fun h1 => ?_) (fun h1 => ?_)
  · refine q_iload (pc := 472) C dL_law_472 rfl ?_
    refine q_if_ne (pc := 474) (tgt := 489) C (by first | exact hR _ _ | exact hRo _ _ | assumption | exact r_bI _ | exact sv_r _ _ | exact ⟨by omega, by omega⟩) dL_law_474 (by decide) (fun h2 => ?_) (fun h2 => ?_)
    · refine q_goto (pc := 489) (tgt := 1169) C dL_law_489 (by decide) ?_
      refine q_drop 5 (lv2 := [_, _, _, _, _, none, _]) rfl ?_
      refine q_drop 6 (lv2 := [_, _, _, _, _, _, none]) rfl ?_
      exact K σ2 P2 T2 f3
    · have h20 : k = 0 := h2
      refine q_aload_n (pc := 477) C dL_law_477 rfl rfl ?_
      refine q_iconst (pc := 478) C dL_law_478 ?_
      refine q_laload (pc := 479) C k232 n232 (by decide) (by decide) (by omega) (by omega) dL_law_479 ?_
      rw [f2 h20]
      refine q_iload (pc := 480) C dL_law_480 rfl ?_
      refine q_i2l (pc := 482) C (by first | exact hR _ _ | exact hRo _ _ | assumption | exact r_bI _ | exact sv_r _ _ | exact ⟨by omega, by omega⟩) dL_law_482 ?_
      refine q_lcmp (pc := 483) (z := 0) C (lg_same _) dL_law_483 ?_
      refine q_if_eq (pc := 484) (tgt := 489) C (by first | exact hR _ _ | exact hRo _ _ | assumption | exact r_bI _ | exact sv_r _ _ | exact ⟨by omega, by omega⟩) dL_law_484 (by decide) (fun h3 => ?_) (fun h3 => ?_)
      · refine q_goto (pc := 489) (tgt := 1169) C dL_law_489 (by decide) ?_
        refine q_drop 5 (lv2 := [_, _, _, _, _, none, _]) rfl ?_
        refine q_drop 6 (lv2 := [_, _, _, _, _, _, none]) rfl ?_
        exact K σ2 P2 T2 f3
      · exact absurd rfl h3
  · exact absurd rfl h1
set_option maxHeartbeats 4000000 in
set_option maxRecDepth 100000 in
theorem lc_node {p : Program} {l : Launch} {e : Env} {s : State} {m : MethodId} {below : List Frame} {meth : Method} {c : Code} {D : va_G} {cy : Nat → ClassId} {B b L : Nat} {xs : Nat → Int32} (hlf : l.stackTraces = false) (C : Cx p l s m #[Value.ref b] meth c cL_law 7 RL wsL_law D cy B) (hX : va_X b L xs s s.heap) (hbs : b < s.heap.size) (hBs : B = s.heap.size) (hL : L ≤ 2560) {cells slots : Nat} {Q : State → Prop} {i : Nat} (hi : i + 5 ≤ L) {P T : Nat} {μ : St} (hG : GG μ P T) (hc : cells + 3 ≤ 601024) (hs : slots + 18 ≤ 7293033)
    (K : ∀ (σ : St) (P2 T2 : Nat), GG σ P2 T2 → PW p l e room_1 s m #[Value.ref b] below meth c D cy B 7 (cells + 3) (slots + 18) Q 1169 [some (.ref b), some (.ref (B + 0)), some (.ref (B + 216)), some (.ref (B + 232)), some (iN i), none, none] [] σ) : PW p l e room_1 s m #[Value.ref b] below meth c D cy B 7 cells slots Q 492 [some (.ref b), some (.ref (B + 0)), some (.ref (B + 216)), some (.ref (B + 232)), some (iN i), none, none] [] μ := by
  have hN := hG.1
  have hM := hG.2.2.2.1
  have h6 := hN.1
  have h8 := hN.2.1
  have hP := hN.2.2.1
  have hT := hN.2.2.2.1
  have hrt := rel_tree hG
  have hrg := rel_graph hG
  refine q_rng (fun hR => ?_)
  have hRo := hR
  refine q_aload_n (pc := 492) C dL_law_492 rfl rfl ?_
  refine q_aload_n (pc := 493) C dL_law_493 rfl rfl ?_
  refine q_iload (pc := 494) C dL_law_494 rfl ?_
  refine q_iconst (pc := 496) C dL_law_496 ?_
  refine q_iadd (pc := 497) C dL_law_497 ?_
  refine q_sld (pc := 498) C hX hbs hBs (by omega) (by omega) dL_law_498 ?_
  refine q_aload_n (pc := 499) C dL_law_499 rfl rfl ?_
  refine q_iload (pc := 500) C dL_law_500 rfl ?_
  refine q_iconst (pc := 502) C dL_law_502 ?_
  refine q_iadd (pc := 503) C dL_law_503 ?_
  refine q_sld (pc := 504) C hX hbs hBs (by omega) (by omega) dL_law_504 ?_
  refine q_aload_n (pc := 505) C dL_law_505 rfl rfl ?_
  refine q_callSX (pc := 506) (As := [_, _, _, _]) (rest := []) C (w_node hlf D cy B (sv_r xs _) (sv_r xs _) (c_node hlf D cy B (n := (sv xs ((i : Int) + 1))) (i := (sv xs ((i : Int) + 2))) (sv_r xs _) (sv_r xs _) (by omega))) (vx_cwSW 4 C.2.2.2.2.1 gL_law_L_node rfl rfl rfl (by decide +kernel) ⟨Nat.le_of_ble_eq_true rfl, Nat.le_of_ble_eq_true rfl⟩) rfl rfl (by first | decide | simp [Value.category]) dL_law_506 ⟨hc, hs⟩ (fun _ _ h => h.elim) (fun v σ1 hv => ?_)
  obtain ⟨k, hk, hkr, hσ, hfin⟩ := fin_node hG hv
  subst hk
  dsimp only [Option.toList, List.cons_append, List.nil_append]
  have e16 : σ1 216 = μ 216 := hσ 216 (by decide) (by decide)
  refine q_istore (pc := 509) (lv2 := [_, _, _, _, _, _, _]) C dL_law_509 (by decide) rfl ?_
  refine q_aload_n (pc := 511) C dL_law_511 rfl rfl ?_
  refine q_aload_n (pc := 512) C dL_law_512 rfl rfl ?_
  refine q_iload (pc := 513) C dL_law_513 rfl ?_
  refine q_iconst (pc := 515) C dL_law_515 ?_
  refine q_iadd (pc := 516) C dL_law_516 ?_
  refine q_sld (pc := 517) C hX hbs hBs (by omega) (by omega) dL_law_517 ?_
  refine q_aload_n (pc := 518) C dL_law_518 rfl rfl ?_
  refine q_iload (pc := 519) C dL_law_519 rfl ?_
  refine q_iconst (pc := 521) C dL_law_521 ?_
  refine q_iadd (pc := 522) C dL_law_522 ?_
  refine q_sld (pc := 523) C hX hbs hBs (by omega) (by omega) dL_law_523 ?_
  refine q_callV (pc := 524) (As := [_, _]) (rest := []) C (m_node hlf D cy B (n := (sv xs ((i : Int) + 1))) (i := (sv xs ((i : Int) + 2))) (sv_r xs _) (sv_r xs _) (by rw [e16]; omega)) (cwV 2 C.2.2.2.2.1 gL_law_X4_node rfl rfl rfl (by decide +kernel) ⟨Nat.le_of_ble_eq_true rfl, Nat.le_of_ble_eq_true rfl⟩) (ci := 4) rfl k216 (by decide) (by decide) rfl rfl (by first | decide | simp [Value.category]) dL_law_524 ⟨hc, hs⟩ (fun _ _ h => h.elim) (fun v σ2 hv => ?_)
  obtain ⟨v2, hv2, hv1, hmp⟩ := hv
  subst hv1
  dsimp only [Option.toList, List.cons_append, List.nil_append]
  obtain ⟨f1, f2, P2, T2, f3⟩ := hfin v2 σ2 hmp
  refine q_istore (pc := 527) (lv2 := [_, _, _, _, _, _, _]) C dL_law_527 (by decide) rfl ?_
  refine q_aload_n (pc := 529) C dL_law_529 rfl rfl ?_
  refine q_callV (pc := 530) (As := []) (rest := []) C (m_thrown hlf D cy B) (cwV 0 C.2.2.2.2.1 gL_law_X4_thrown rfl rfl rfl (by decide +kernel) ⟨Nat.le_of_ble_eq_true rfl, Nat.le_of_ble_eq_true rfl⟩) (ci := 4) rfl k216 (by decide) (by decide) rfl rfl (by first | decide | simp [Value.category]) dL_law_530 ⟨hc, hs⟩ (fun _ _ h => h.elim) (fun v μ9 hv => ?_)
  have e8 := hv.1
  have e9 := hv.2.symm
  clear hv
  subst e8
  subst e9
  dsimp only [Option.toList, List.cons_append, List.nil_append]
  rw [f1]
  refine q_iload (pc := 533) C dL_law_533 rfl ?_
  refine q_icmp_eq (pc := 535) (tgt := 540) C (by first | exact hR _ _ | exact hRo _ _ | assumption | exact r_bI _ | exact sv_r _ _ | exact ⟨by omega, by omega⟩) (by first | exact hR _ _ | exact hRo _ _ | assumption | exact r_bI _ | exact sv_r _ _ | exact ⟨by omega, by omega⟩) dL_law_535 (by decide) (fun h1 => ?_) (fun h1 => ?_)
  · refine q_iload (pc := 540) C dL_law_540 rfl ?_
    refine q_if_ne (pc := 542) (tgt := 557) C (by first | exact hR _ _ | exact hRo _ _ | assumption | exact r_bI _ | exact sv_r _ _ | exact ⟨by omega, by omega⟩) dL_law_542 (by decide) (fun h2 => ?_) (fun h2 => ?_)
    · refine q_goto (pc := 557) (tgt := 1169) C dL_law_557 (by decide) ?_
      refine q_drop 5 (lv2 := [_, _, _, _, _, none, _]) rfl ?_
      refine q_drop 6 (lv2 := [_, _, _, _, _, _, none]) rfl ?_
      exact K σ2 P2 T2 f3
    · have h20 : k = 0 := h2
      refine q_aload_n (pc := 545) C dL_law_545 rfl rfl ?_
      refine q_iconst (pc := 546) C dL_law_546 ?_
      refine q_laload (pc := 547) C k232 n232 (by decide) (by decide) (by omega) (by omega) dL_law_547 ?_
      rw [f2 h20]
      refine q_iload (pc := 548) C dL_law_548 rfl ?_
      refine q_i2l (pc := 550) C (by first | exact hR _ _ | exact hRo _ _ | assumption | exact r_bI _ | exact sv_r _ _ | exact ⟨by omega, by omega⟩) dL_law_550 ?_
      refine q_lcmp (pc := 551) (z := 0) C (lg_same _) dL_law_551 ?_
      refine q_if_eq (pc := 552) (tgt := 557) C (by first | exact hR _ _ | exact hRo _ _ | assumption | exact r_bI _ | exact sv_r _ _ | exact ⟨by omega, by omega⟩) dL_law_552 (by decide) (fun h3 => ?_) (fun h3 => ?_)
      · refine q_goto (pc := 557) (tgt := 1169) C dL_law_557 (by decide) ?_
        refine q_drop 5 (lv2 := [_, _, _, _, _, none, _]) rfl ?_
        refine q_drop 6 (lv2 := [_, _, _, _, _, _, none]) rfl ?_
        exact K σ2 P2 T2 f3
      · exact absurd rfl h3
  · exact absurd rfl h1
set_option maxHeartbeats 4000000 in
set_option maxRecDepth 100000 in
theorem lc_bound {p : Program} {l : Launch} {e : Env} {s : State} {m : MethodId} {below : List Frame} {meth : Method} {c : Code} {D : va_G} {cy : Nat → ClassId} {B b L : Nat} {xs : Nat → Int32} (hlf : l.stackTraces = false) (C : Cx p l s m #[Value.ref b] meth c cL_law 7 RL wsL_law D cy B) (hX : va_X b L xs s s.heap) (hbs : b < s.heap.size) (hBs : B = s.heap.size) (hL : L ≤ 2560) {cells slots : Nat} {Q : State → Prop} {i : Nat} (hi : i + 5 ≤ L) {P T : Nat} {μ : St} (hG : GG μ P T) (hc : cells + 3 ≤ 601024) (hs : slots + 18 ≤ 7293033)
    (K : ∀ (σ : St) (P2 T2 : Nat), GG σ P2 T2 → PW p l e room_1 s m #[Value.ref b] below meth c D cy B 7 (cells + 3) (slots + 18) Q 1169 [some (.ref b), some (.ref (B + 0)), some (.ref (B + 216)), some (.ref (B + 232)), some (iN i), none, none] [] σ) : PW p l e room_1 s m #[Value.ref b] below meth c D cy B 7 cells slots Q 560 [some (.ref b), some (.ref (B + 0)), some (.ref (B + 216)), some (.ref (B + 232)), some (iN i), none, none] [] μ := by
  have hN := hG.1
  have hM := hG.2.2.2.1
  have h6 := hN.1
  have h8 := hN.2.1
  have hP := hN.2.2.1
  have hT := hN.2.2.2.1
  have hrt := rel_tree hG
  have hrg := rel_graph hG
  obtain ⟨nn, hnn⟩ : ∃ nn : Nat, μ 22 1 = nn := ⟨(μ 22 1).toNat, by omega⟩
  refine q_rng (fun hR => ?_)
  have hRo := hR
  refine q_aload_n (pc := 560) C dL_law_560 rfl rfl ?_
  refine q_aload_n (pc := 561) C dL_law_561 rfl rfl ?_
  refine q_iload (pc := 562) C dL_law_562 rfl ?_
  refine q_iconst (pc := 564) C dL_law_564 ?_
  refine q_iadd (pc := 565) C dL_law_565 ?_
  refine q_sld (pc := 566) C hX hbs hBs (by omega) (by omega) dL_law_566 ?_
  refine q_aload_n (pc := 567) C dL_law_567 rfl rfl ?_
  refine q_callSX (pc := 568) (As := [_, _, _]) (rest := []) C (w_bound hlf D cy B (sv_r xs _) (c_bound hlf D cy B (P := P) (n := nn) (a := (sv xs ((i : Int) + 1))) (sv_r xs _) hP h6 hnn (by omega))) (vx_cwSW 3 C.2.2.2.2.1 gL_law_L_bound rfl rfl rfl (by decide +kernel) ⟨Nat.le_of_ble_eq_true rfl, Nat.le_of_ble_eq_true rfl⟩) rfl rfl (by first | decide | simp [Value.category]) dL_law_568 ⟨hc, hs⟩ (fun _ _ h => h.elim) (fun v σ1 hv => ?_)
  obtain ⟨k, hk, hkr, hσ, hfin⟩ := fin_bound hG hnn hv
  subst hk
  dsimp only [Option.toList, List.cons_append, List.nil_append]
  have e16 : σ1 216 = μ 216 := hσ 216 (by decide) (by decide)
  refine q_istore (pc := 571) (lv2 := [_, _, _, _, _, _, _]) C dL_law_571 (by decide) rfl ?_
  refine q_aload_n (pc := 573) C dL_law_573 rfl rfl ?_
  refine q_aload_n (pc := 574) C dL_law_574 rfl rfl ?_
  refine q_iload (pc := 575) C dL_law_575 rfl ?_
  refine q_iconst (pc := 577) C dL_law_577 ?_
  refine q_iadd (pc := 578) C dL_law_578 ?_
  refine q_sld (pc := 579) C hX hbs hBs (by omega) (by omega) dL_law_579 ?_
  refine q_callV (pc := 580) (As := [_]) (rest := []) C (m_bound hlf D cy B (P := P) (a := (sv xs ((i : Int) + 1))) (sv_r xs _) (by rw [e16]; exact hM.1) h6 (by rw [e16]; omega)) (cwV 1 C.2.2.2.2.1 gL_law_X4_bound rfl rfl rfl (by decide +kernel) ⟨Nat.le_of_ble_eq_true rfl, Nat.le_of_ble_eq_true rfl⟩) (ci := 4) rfl k216 (by decide) (by decide) rfl rfl (by first | decide | simp [Value.category]) dL_law_580 ⟨hc, hs⟩ (fun _ _ h => h.elim) (fun v σ2 hv => ?_)
  obtain ⟨v2, hv2, hv1, hmp⟩ := hv
  subst hv1
  dsimp only [Option.toList, List.cons_append, List.nil_append]
  obtain ⟨f1, f2, P2, T2, f3⟩ := hfin v2 σ2 hmp
  refine q_istore (pc := 583) (lv2 := [_, _, _, _, _, _, _]) C dL_law_583 (by decide) rfl ?_
  refine q_aload_n (pc := 585) C dL_law_585 rfl rfl ?_
  refine q_callV (pc := 586) (As := []) (rest := []) C (m_thrown hlf D cy B) (cwV 0 C.2.2.2.2.1 gL_law_X4_thrown rfl rfl rfl (by decide +kernel) ⟨Nat.le_of_ble_eq_true rfl, Nat.le_of_ble_eq_true rfl⟩) (ci := 4) rfl k216 (by decide) (by decide) rfl rfl (by first | decide | simp [Value.category]) dL_law_586 ⟨hc, hs⟩ (fun _ _ h => h.elim) (fun v μ9 hv => ?_)
  have e8 := hv.1
  have e9 := hv.2.symm
  clear hv
  subst e8
  subst e9
  dsimp only [Option.toList, List.cons_append, List.nil_append]
  rw [f1]
  refine q_iload (pc := 589) C dL_law_589 rfl ?_
  refine q_icmp_eq (pc := 591) (tgt := 596) C (by first | exact hR _ _ | exact hRo _ _ | assumption | exact r_bI _ | exact sv_r _ _ | exact ⟨by omega, by omega⟩) (by first | exact hR _ _ | exact hRo _ _ | assumption | exact r_bI _ | exact sv_r _ _ | exact ⟨by omega, by omega⟩) dL_law_591 (by decide) (fun h1 => ?_) (fun h1 => ?_)
  · refine q_iload (pc := 596) C dL_law_596 rfl ?_
    refine q_if_ne (pc := 598) (tgt := 613) C (by first | exact hR _ _ | exact hRo _ _ | assumption | exact r_bI _ | exact sv_r _ _ | exact ⟨by omega, by omega⟩) dL_law_598 (by decide) (fun h2 => ?_) (fun h2 => ?_)
    · refine q_goto (pc := 613) (tgt := 1169) C dL_law_613 (by decide) ?_
      refine q_drop 5 (lv2 := [_, _, _, _, _, none, _]) rfl ?_
      refine q_drop 6 (lv2 := [_, _, _, _, _, _, none]) rfl ?_
      exact K σ2 P2 T2 f3
    · have h20 : k = 0 := h2
      refine q_aload_n (pc := 601) C dL_law_601 rfl rfl ?_
      refine q_iconst (pc := 602) C dL_law_602 ?_
      refine q_laload (pc := 603) C k232 n232 (by decide) (by decide) (by omega) (by omega) dL_law_603 ?_
      rw [f2 h20]
      refine q_iload (pc := 604) C dL_law_604 rfl ?_
      refine q_i2l (pc := 606) C (by first | exact hR _ _ | exact hRo _ _ | assumption | exact r_bI _ | exact sv_r _ _ | exact ⟨by omega, by omega⟩) dL_law_606 ?_
      refine q_lcmp (pc := 607) (z := 0) C (lg_same _) dL_law_607 ?_
      refine q_if_eq (pc := 608) (tgt := 613) C (by first | exact hR _ _ | exact hRo _ _ | assumption | exact r_bI _ | exact sv_r _ _ | exact ⟨by omega, by omega⟩) dL_law_608 (by decide) (fun h3 => ?_) (fun h3 => ?_)
      · refine q_goto (pc := 613) (tgt := 1169) C dL_law_613 (by decide) ?_
        refine q_drop 5 (lv2 := [_, _, _, _, _, none, _]) rfl ?_
        refine q_drop 6 (lv2 := [_, _, _, _, _, _, none]) rfl ?_
        exact K σ2 P2 T2 f3
      · exact absurd rfl h3
  · exact absurd rfl h1

