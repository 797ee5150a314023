set_option maxHeartbeats 4000000 in
set_option maxRecDepth 100000 in
theorem lc_want {p : Program} {l : Launch} {e : Env} {s : State} {m : MethodId} {below : List Frame} {meth : Method} {c : Code} {D : va_G} {cy : Nat → ClassId} {B b L : Nat} {xs : Nat → Int32} (hlf : l.stackTraces = false) (C : Cx p l s m #[Value.ref b] meth c cL_law 7 RL wsL_law D cy B) (hX : va_X b L xs s s.heap) (hbs : b < s.heap.size) (hBs : B = s.heap.size) (hL : L ≤ 2560) {cells slots : Nat} {Q : State → Prop} {i : Nat} (hi : i + 5 ≤ L) {P T : Nat} {μ : St} (hG : GG μ P T) (hc : cells + 3 ≤ 601024) (hs : slots + 18 ≤ 7293033)
    (K : ∀ (σ : St) (P2 T2 : Nat), GG σ P2 T2 → PW p l e room_1 s m #[Value.ref b] below meth c D cy B 7 (cells + 3) (slots + 18) Q 1169 [some (.ref b), some (.ref (B + 0)), some (.ref (B + 216)), some (.ref (B + 232)), some (iN i), none, none] [] σ) : PW p l e room_1 s m #[Value.ref b] below meth c D cy B 7 cells slots Q 616 [some (.ref b), some (.ref (B + 0)), some (.ref (B + 216)), some (.ref (B + 232)), some (iN i), none, none] [] μ := by
  have hN := hG.1
  have hM := hG.2.2.2.1
  have h6 := hN.1
  have h8 := hN.2.1
  have hP := hN.2.2.1
  have hT := hN.2.2.2.1
  have hrt := rel_tree hG
  have hrg := rel_graph hG
  refine q_rng (fun hR => ?_)
  have hRo := hR
  refine q_aload_n (pc := 616) C dL_law_616 rfl rfl ?_
  refine q_aload_n (pc := 617) C dL_law_617 rfl rfl ?_
  refine q_iload (pc := 618) C dL_law_618 rfl ?_
  refine q_iconst (pc := 620) C dL_law_620 ?_
  refine q_iadd (pc := 621) C dL_law_621 ?_
  refine q_sld (pc := 622) C hX hbs hBs (by omega) (by omega) dL_law_622 ?_
  refine q_aload_n (pc := 623) C dL_law_623 rfl rfl ?_
  refine q_iload (pc := 624) C dL_law_624 rfl ?_
  refine q_iconst (pc := 626) C dL_law_626 ?_
  refine q_iadd (pc := 627) C dL_law_627 ?_
  refine q_sld (pc := 628) C hX hbs hBs (by omega) (by omega) dL_law_628 ?_
  refine q_callSX (pc := 629) (As := [_, _, _]) (rest := []) C (w_want hlf D cy B (sv_r xs _) (sv_r xs _) (c_want hlf D cy B (P := P) (a := (sv xs ((i : Int) + 1))) (n := (sv xs ((i : Int) + 2))) (sv_r xs _) (sv_r xs _) hP h6)) (vx_cwSW 3 C.2.2.2.2.1 gL_law_L_want rfl rfl rfl (by decide +kernel) ⟨Nat.le_of_ble_eq_true rfl, Nat.le_of_ble_eq_true rfl⟩) rfl rfl (by first | decide | simp [Value.category]) dL_law_629 ⟨hc, hs⟩ (fun _ _ h => h.elim) (fun v σ1 hv => ?_)
  obtain ⟨k, hk, hkr, hσ, hfin⟩ := fin_want hG hv
  subst hk
  dsimp only [Option.toList, List.cons_append, List.nil_append]
  have e16 : σ1 216 = μ 216 := hσ 216 (by decide) (by decide)
  refine q_istore (pc := 632) (lv2 := [_, _, _, _, _, _, _]) C dL_law_632 (by decide) rfl ?_
  refine q_aload_n (pc := 634) C dL_law_634 rfl rfl ?_
  refine q_aload_n (pc := 635) C dL_law_635 rfl rfl ?_
  refine q_iload (pc := 636) C dL_law_636 rfl ?_
  refine q_iconst (pc := 638) C dL_law_638 ?_
  refine q_iadd (pc := 639) C dL_law_639 ?_
  refine q_sld (pc := 640) C hX hbs hBs (by omega) (by omega) dL_law_640 ?_
  refine q_aload_n (pc := 641) C dL_law_641 rfl rfl ?_
  refine q_iload (pc := 642) C dL_law_642 rfl ?_
  refine q_iconst (pc := 644) C dL_law_644 ?_
  refine q_iadd (pc := 645) C dL_law_645 ?_
  refine q_sld (pc := 646) C hX hbs hBs (by omega) (by omega) dL_law_646 ?_
  refine q_callV (pc := 647) (As := [_, _]) (rest := []) C (m_want hlf D cy B (P := P) (a := (sv xs ((i : Int) + 1))) (n := (sv xs ((i : Int) + 2))) (sv_r xs _) (sv_r xs _) (by rw [e16]; exact hM.1) h6) (cwV 2 C.2.2.2.2.1 gL_law_X4_want rfl rfl rfl (by decide +kernel) ⟨Nat.le_of_ble_eq_true rfl, Nat.le_of_ble_eq_true rfl⟩) (ci := 4) rfl k216 (by decide) (by decide) rfl rfl (by first | decide | simp [Value.category]) dL_law_647 ⟨hc, hs⟩ (fun _ _ h => h.elim) (fun v σ2 hv => ?_)
  obtain ⟨hv1, hmp⟩ := hv
  subst hv1
  dsimp only [Option.toList, List.cons_append, List.nil_append]
  obtain ⟨f1, P2, T2, f3⟩ := hfin σ2 hmp
  refine q_aload_n (pc := 650) C dL_law_650 rfl rfl ?_
  refine q_callV (pc := 651) (As := []) (rest := []) C (m_thrown hlf D cy B) (cwV 0 C.2.2.2.2.1 gL_law_X4_thrown rfl rfl rfl (by decide +kernel) ⟨Nat.le_of_ble_eq_true rfl, Nat.le_of_ble_eq_true rfl⟩) (ci := 4) rfl k216 (by decide) (by decide) rfl rfl (by first | decide | simp [Value.category]) dL_law_651 ⟨hc, hs⟩ (fun _ _ h => h.elim) (fun v μ9 hv => ?_)
  have e8 := hv.1
  have e9 := hv.2.symm
  clear hv
  subst e8
  subst e9
  dsimp only [Option.toList, List.cons_append, List.nil_append]
  rw [f1]
  refine q_iload (pc := 654) C dL_law_654 rfl ?_
  refine q_icmp_eq (pc := 656) (tgt := 661) C (by first | exact hR _ _ | exact hRo _ _ | assumption | exact r_bI _ | exact sv_r _ _ | exact ⟨by omega, by omega⟩) (by first | exact hR _ _ | exact hRo _ _ | assumption | exact r_bI _ | exact sv_r _ _ | exact ⟨by omega, by omega⟩) dL_law_656 (by decide) (fun h1 => ?_) (fun h1 => ?_)
  · refine q_goto (pc := 661) (tgt := 1169) C dL_law_661 (by decide) ?_
    refine q_drop 5 (lv2 := [_, _, _, _, _, none, _]) rfl ?_
    exact K σ2 P2 T2 f3
  · exact absurd rfl h1
set_option maxHeartbeats 4000000 in
set_option maxRecDepth 100000 in
theorem lc_covered {p : Program} {l : Launch} {e : Env} {s : State} {m : MethodId} {below : List Frame} {meth : Method} {c : Code} {D : va_G} {cy : Nat → ClassId} {B b L : Nat} {xs : Nat → Int32} (hlf : l.stackTraces = false) (C : Cx p l s m #[Value.ref b] meth c cL_law 7 RL wsL_law D cy B) (hX : va_X b L xs s s.heap) (hbs : b < s.heap.size) (hBs : B = s.heap.size) (hL : L ≤ 2560) {cells slots : Nat} {Q : State → Prop} {i : Nat} (hi : i + 5 ≤ L) {P T : Nat} {μ : St} (hG : GG μ P T) (hc : cells + 3 ≤ 601024) (hs : slots + 18 ≤ 7293033)
    (K : ∀ (σ : St) (P2 T2 : Nat), GG σ P2 T2 → PW p l e room_1 s m #[Value.ref b] below meth c D cy B 7 (cells + 3) (slots + 18) Q 1169 [some (.ref b), some (.ref (B + 0)), some (.ref (B + 216)), some (.ref (B + 232)), some (iN i), none, none] [] σ) : PW p l e room_1 s m #[Value.ref b] below meth c D cy B 7 cells slots Q 664 [some (.ref b), some (.ref (B + 0)), some (.ref (B + 216)), some (.ref (B + 232)), some (iN i), none, none] [] μ := by
  have hN := hG.1
  have hM := hG.2.2.2.1
  have h6 := hN.1
  have h8 := hN.2.1
  have hP := hN.2.2.1
  have hT := hN.2.2.2.1
  have hrt := rel_tree hG
  have hrg := rel_graph hG
  obtain ⟨nn, hnn⟩ : ∃ nn : Nat, μ 22 1 = nn := ⟨(μ 22 1).toNat, by omega⟩
  refine q_rng (fun hR => ?_)
  have hRo := hR
  refine q_aload_n (pc := 664) C dL_law_664 rfl rfl ?_
  refine q_aload_n (pc := 665) C dL_law_665 rfl rfl ?_
  refine q_callSX (pc := 666) (As := [_, _]) (rest := []) C (w_covered hlf D cy B  (c_covered hlf D cy B (n := nn) hnn (by omega))) (vx_cwSW 2 C.2.2.2.2.1 gL_law_L_covered rfl rfl rfl (by decide +kernel) ⟨Nat.le_of_ble_eq_true rfl, Nat.le_of_ble_eq_true rfl⟩) rfl rfl (by first | decide | simp [Value.category]) dL_law_666 ⟨hc, hs⟩ (fun _ _ h => h.elim) (fun v σ1 hv => ?_)
  obtain ⟨k, hk, hkr, hσ, hfin⟩ := fin_covered hG hnn hv
  subst hk
  dsimp only [Option.toList, List.cons_append, List.nil_append]
  have e16 : σ1 216 = μ 216 := hσ 216 (by decide) (by decide)
  refine q_istore (pc := 669) (lv2 := [_, _, _, _, _, _, _]) C dL_law_669 (by decide) rfl ?_
  refine q_aload_n (pc := 671) C dL_law_671 rfl rfl ?_
  refine q_callV (pc := 672) (As := []) (rest := []) C (m_covered hlf D cy B (P := P) (by rw [e16]; exact hM.1) h6 (by rw [e16]; omega)) (cwV 0 C.2.2.2.2.1 gL_law_X4_covered rfl rfl rfl (by decide +kernel) ⟨Nat.le_of_ble_eq_true rfl, Nat.le_of_ble_eq_true rfl⟩) (ci := 4) rfl k216 (by decide) (by decide) rfl rfl (by first | decide | simp [Value.category]) dL_law_672 ⟨hc, hs⟩ (fun _ _ h => h.elim) (fun v σ2 hv => ?_)
  obtain ⟨v2, hv2, hv1, hmp⟩ := hv
  subst hv1
  dsimp only [Option.toList, List.cons_append, List.nil_append]
  obtain ⟨f1, f2, P2, T2, f3⟩ := hfin v2 σ2 hmp
  refine q_istore (pc := 675) (lv2 := [_, _, _, _, _, _, _]) C dL_law_675 (by decide) rfl ?_
  refine q_aload_n (pc := 677) C dL_law_677 rfl rfl ?_
  refine q_callV (pc := 678) (As := []) (rest := []) C (m_thrown hlf D cy B) (cwV 0 C.2.2.2.2.1 gL_law_X4_thrown rfl rfl rfl (by decide +kernel) ⟨Nat.le_of_ble_eq_true rfl, Nat.le_of_ble_eq_true rfl⟩) (ci := 4) rfl k216 (by decide) (by decide) rfl rfl (by first | decide | simp [Value.category]) dL_law_678 ⟨hc, hs⟩ (fun _ _ h => h.elim) (fun v μ9 hv => ?_)
  have e8 := hv.1
  have e9 := hv.2.symm
  clear hv
  subst e8
  subst e9
  dsimp only [Option.toList, List.cons_append, List.nil_append]
  rw [f1]
  refine q_iload (pc := 681) C dL_law_681 rfl ?_
  refine q_icmp_eq (pc := 683) (tgt := 688) C (by first | exact hR _ _ | exact hRo _ _ | assumption | exact r_bI _ | exact sv_r _ _ | exact ⟨by omega, by omega⟩) (by first | exact hR _ _ | exact hRo _ _ | assumption | exact r_bI _ | exact sv_r _ _ | exact ⟨by omega, by omega⟩) dL_law_683 (by decide) (fun h1 => ?_) (fun h1 => ?_)
  · refine q_iload (pc := 688) C dL_law_688 rfl ?_
    refine q_if_ne (pc := 690) (tgt := 712) C (by first | exact hR _ _ | exact hRo _ _ | assumption | exact r_bI _ | exact sv_r _ _ | exact ⟨by omega, by omega⟩) dL_law_690 (by decide) (fun h2 => ?_) (fun h2 => ?_)
    · refine q_goto (pc := 712) (tgt := 1169) C dL_law_712 (by decide) ?_
      refine q_drop 5 (lv2 := [_, _, _, _, _, none, _]) rfl ?_
      refine q_drop 6 (lv2 := [_, _, _, _, _, _, none]) rfl ?_
      exact K σ2 P2 T2 f3
    · have h20 : k = 0 := h2
      refine q_aload_n (pc := 693) C dL_law_693 rfl rfl ?_
      refine q_iconst (pc := 694) C dL_law_694 ?_
      refine q_laload (pc := 695) C k232 n232 (by decide) (by decide) (by omega) (by omega) dL_law_695 ?_
      rw [f2 h20]
      have hv01 : v2 = 0 ∨ v2 = 1 := by
        rcases hmp with ⟨d1, hτ⟩ | ⟨d1, dv, hτ⟩
        · rw [hτ, updS_self] at f1; omega
        · rw [dv]; exact bI_01 _
      refine q_iload (pc := 696) C dL_law_696 rfl ?_
      refine q_if_eq (pc := 698) (tgt := 705) C (by first | exact hR _ _ | exact hRo _ _ | assumption | exact r_bI _ | exact sv_r _ _ | exact ⟨by omega, by omega⟩) dL_law_698 (by decide) (fun h4 => ?_) (fun h4 => ?_)
      · subst h4
        refine q_lconst (pc := 705) (k := 0) C (by decide +kernel) dL_law_705 ?_
        refine q_lcmp (pc := 706) (z := 0) C (lg_same _) dL_law_706 ?_
        refine q_if_eq (pc := 707) (tgt := 712) C (by first | exact hR _ _ | exact hRo _ _ | assumption | exact r_bI _ | exact sv_r _ _ | exact ⟨by omega, by omega⟩) dL_law_707 (by decide) (fun h3 => ?_) (fun h3 => ?_)
        · refine q_goto (pc := 712) (tgt := 1169) C dL_law_712 (by decide) ?_
          refine q_drop 5 (lv2 := [_, _, _, _, _, none, _]) rfl ?_
          refine q_drop 6 (lv2 := [_, _, _, _, _, _, none]) rfl ?_
          exact K σ2 P2 T2 f3
        · exact absurd rfl h3
      · have h41 : v2 = 1 := by omega
        subst h41
        refine q_lconst (pc := 701) (k := 1) C (by decide +kernel) dL_law_701 ?_
        refine q_goto (pc := 702) (tgt := 706) C dL_law_702 (by decide) ?_
        refine q_lcmp (pc := 706) (z := 0) C (lg_same _) dL_law_706 ?_
        refine q_if_eq (pc := 707) (tgt := 712) C (by first | exact hR _ _ | exact hRo _ _ | assumption | exact r_bI _ | exact sv_r _ _ | exact ⟨by omega, by omega⟩) dL_law_707 (by decide) (fun h3 => ?_) (fun h3 => ?_)
        · refine q_goto (pc := 712) (tgt := 1169) C dL_law_712 (by decide) ?_
          refine q_drop 5 (lv2 := [_, _, _, _, _, none, _]) rfl ?_
          refine q_drop 6 (lv2 := [_, _, _, _, _, _, none]) rfl ?_
          exact K σ2 P2 T2 f3
        · exact absurd rfl h3
  · exact absurd rfl h1
set_option maxHeartbeats 4000000 in
set_option maxRecDepth 100000 in
theorem lc_possible {p : Program} {l : Launch} {e : Env} {s : State} {m : MethodId} {below : List Frame} {meth : Method} {c : Code} {D : va_G} {cy : Nat → ClassId} {B b L : Nat} {xs : Nat → Int32} (hlf : l.stackTraces = false) (C : Cx p l s m #[Value.ref b] meth c cL_law 7 RL wsL_law D cy B) (hX : va_X b L xs s s.heap) (hbs : b < s.heap.size) (hBs : B = s.heap.size) (hL : L ≤ 2560) {cells slots : Nat} {Q : State → Prop} {i : Nat} (hi : i + 5 ≤ L) {P T : Nat} {μ : St} (hG : GG μ P T) (hc : cells + 3 ≤ 601024) (hs : slots + 18 ≤ 7293033)
    (K : ∀ (σ : St) (P2 T2 : Nat), GG σ P2 T2 → PW p l e room_1 s m #[Value.ref b] below meth c D cy B 7 (cells + 3) (slots + 18) Q 1169 [some (.ref b), some (.ref (B + 0)), some (.ref (B + 216)), some (.ref (B + 232)), some (iN i), none, none] [] σ) : PW p l e room_1 s m #[Value.ref b] below meth c D cy B 7 cells slots Q 715 [some (.ref b), some (.ref (B + 0)), some (.ref (B + 216)), some (.ref (B + 232)), some (iN i), none, none] [] μ := by
  have hN := hG.1
  have hM := hG.2.2.2.1
  have h6 := hN.1
  have h8 := hN.2.1
  have hP := hN.2.2.1
  have hT := hN.2.2.2.1
  have hrt := rel_tree hG
  have hrg := rel_graph hG
  obtain ⟨nn, hnn⟩ : ∃ nn : Nat, μ 22 1 = nn := ⟨(μ 22 1).toNat, by omega⟩
  refine q_rng (fun hR => ?_)
  have hRo := hR
  refine q_aload_n (pc := 715) C dL_law_715 rfl rfl ?_
  refine q_aload_n (pc := 716) C dL_law_716 rfl rfl ?_
  refine q_iload (pc := 717) C dL_law_717 rfl ?_
  refine q_iconst (pc := 719) C dL_law_719 ?_
  refine q_iadd (pc := 720) C dL_law_720 ?_
  refine q_sld (pc := 721) C hX hbs hBs (by omega) (by omega) dL_law_721 ?_
  refine q_aload_n (pc := 722) C dL_law_722 rfl rfl ?_
  refine q_callSX (pc := 723) (As := [_, _, _]) (rest := []) C (w_possible hlf D cy B (sv_r xs _) (c_possible hlf D cy B (T := T) (n := nn) (t := (sv xs ((i : Int) + 1))) (sv_r xs _) hT h8 hnn (by omega))) (vx_cwSW 3 C.2.2.2.2.1 gL_law_L_possible rfl rfl rfl (by decide +kernel) ⟨Nat.le_of_ble_eq_true rfl, Nat.le_of_ble_eq_true rfl⟩) rfl rfl (by first | decide | simp [Value.category]) dL_law_723 ⟨hc, hs⟩ (fun _ _ h => h.elim) (fun v σ1 hv => ?_)
  obtain ⟨k, hk, hkr, hσ, hfin⟩ := fin_possible hG hnn hv
  subst hk
  dsimp only [Option.toList, List.cons_append, List.nil_append]
  have e16 : σ1 216 = μ 216 := hσ 216 (by decide) (by decide)
  refine q_istore (pc := 726) (lv2 := [_, _, _, _, _, _, _]) C dL_law_726 (by decide) rfl ?_
  refine q_aload_n (pc := 728) C dL_law_728 rfl rfl ?_
  refine q_aload_n (pc := 729) C dL_law_729 rfl rfl ?_
  refine q_iload (pc := 730) C dL_law_730 rfl ?_
  refine q_iconst (pc := 732) C dL_law_732 ?_
  refine q_iadd (pc := 733) C dL_law_733 ?_
  refine q_sld (pc := 734) C hX hbs hBs (by omega) (by omega) dL_law_734 ?_
  refine q_callV (pc := 735) (As := [_]) (rest := []) C (m_possible hlf D cy B (P := P) (T := T) (t := (sv xs ((i : Int) + 1))) (sv_r xs _) (by rw [e16]; exact hM.1) h6 (by rw [e16]; exact hM.2.1) h8 (by rw [e16]; omega)) (cwV 1 C.2.2.2.2.1 gL_law_X4_possible rfl rfl rfl (by decide +kernel) ⟨Nat.le_of_ble_eq_true rfl, Nat.le_of_ble_eq_true rfl⟩) (ci := 4) rfl k216 (by decide) (by decide) rfl rfl (by first | decide | simp [Value.category]) dL_law_735 ⟨hc, hs⟩ (fun _ _ h => h.elim) (fun v σ2 hv => ?_)
  obtain ⟨v2, hv2, hv1, hmp⟩ := hv
  subst hv1
  dsimp only [Option.toList, List.cons_append, List.nil_append]
  obtain ⟨f1, f2, P2, T2, f3⟩ := hfin v2 σ2 hmp
  refine q_istore (pc := 738) (lv2 := [_, _, _, _, _, _, _]) C dL_law_738 (by decide) rfl ?_
  refine q_aload_n (pc := 740) C dL_law_740 rfl rfl ?_
  refine q_callV (pc := 741) (As := []) (rest := []) C (m_thrown hlf D cy B) (cwV 0 C.2.2.2.2.1 gL_law_X4_thrown rfl rfl rfl (by decide +kernel) ⟨Nat.le_of_ble_eq_true rfl, Nat.le_of_ble_eq_true rfl⟩) (ci := 4) rfl k216 (by decide) (by decide) rfl rfl (by first | decide | simp [Value.category]) dL_law_741 ⟨hc, hs⟩ (fun _ _ h => h.elim) (fun v μ9 hv => ?_)
  have e8 := hv.1
  have e9 := hv.2.symm
  clear hv
  subst e8
  subst e9
  dsimp only [Option.toList, List.cons_append, List.nil_append]
  rw [f1]
  refine q_iload (pc := 744) C dL_law_744 rfl ?_
  refine q_icmp_eq (pc := 746) (tgt := 751) C (by first | exact hR _ _ | exact hRo _ _ | assumption | exact r_bI _ | exact sv_r _ _ | exact ⟨by omega, by omega⟩) (by first | exact hR _ _ | exact hRo _ _ | assumption | exact r_bI _ | exact sv_r _ _ | exact ⟨by omega, by omega⟩) dL_law_746 (by decide) (fun h1 => ?_) (fun h1 => ?_)
  · refine q_iload (pc := 751) C dL_law_751 rfl ?_
    refine q_if_ne (pc := 753) (tgt := 775) C (by first | exact hR _ _ | exact hRo _ _ | assumption | exact r_bI _ | exact sv_r _ _ | exact ⟨by omega, by omega⟩) dL_law_753 (by decide) (fun h2 => ?_) (fun h2 => ?_)
    · refine q_goto (pc := 775) (tgt := 1169) C dL_law_775 (by decide) ?_
      refine q_drop 5 (lv2 := [_, _, _, _, _, none, _]) rfl ?_
      refine q_drop 6 (lv2 := [_, _, _, _, _, _, none]) rfl ?_
      exact K σ2 P2 T2 f3
    · have h20 : k = 0 := h2
      refine q_aload_n (pc := 756) C dL_law_756 rfl rfl ?_
      refine q_iconst (pc := 757) C dL_law_757 ?_
      refine q_laload (pc := 758) C k232 n232 (by decide) (by decide) (by omega) (by omega) dL_law_758 ?_
      rw [f2 h20]
      have hv01 : v2 = 0 ∨ v2 = 1 := by
        rcases hmp with ⟨d1, hτ⟩ | ⟨d1, d2, hτ⟩ | ⟨d1, d2, dv, hτ⟩
        · rw [hτ, updS_self] at f1; omega
        · rw [hτ, updS_self] at f1; omega
        · rw [dv]; exact bI_01 _
      refine q_iload (pc := 759) C dL_law_759 rfl ?_
      refine q_if_eq (pc := 761) (tgt := 768) C (by first | exact hR _ _ | exact hRo _ _ | assumption | exact r_bI _ | exact sv_r _ _ | exact ⟨by omega, by omega⟩) dL_law_761 (by decide) (fun h4 => ?_) (fun h4 => ?_)
      · subst h4
        refine q_lconst (pc := 768) (k := 0) C (by decide +kernel) dL_law_768 ?_
        refine q_lcmp (pc := 769) (z := 0) C (lg_same _) dL_law_769 ?_
        refine q_if_eq (pc := 770) (tgt := 775) C (by first | exact hR _ _ | exact hRo _ _ | assumption | exact r_bI _ | exact sv_r _ _ | exact ⟨by omega, by omega⟩) dL_law_770 (by decide) (fun h3 => ?_) (fun h3 => ?_)
        · refine q_goto (pc := 775) (tgt := 1169) C dL_law_775 (by decide) ?_
          refine q_drop 5 (lv2 := [_, _, _, _, _, none, _]) rfl ?_
          refine q_drop 6 (lv2 := [_, _, _, _, _, _, none]) rfl ?_
          exact K σ2 P2 T2 f3
        · exact absurd rfl h3
      · have h41 : v2 = 1 := by omega
        subst h41
        refine q_lconst (pc := 764) (k := 1) C (by decide +kernel) dL_law_764 ?_
        refine q_goto (pc := 765) (tgt := 769) C dL_law_765 (by decide) ?_
        refine q_lcmp (pc := 769) (z := 0) C (lg_same _) dL_law_769 ?_
        refine q_if_eq (pc := 770) (tgt := 775) C (by first | exact hR _ _ | exact hRo _ _ | assumption | exact r_bI _ | exact sv_r _ _ | exact ⟨by omega, by omega⟩) dL_law_770 (by decide) (fun h3 => ?_) (fun h3 => ?_)
        · refine q_goto (pc := 775) (tgt := 1169) C dL_law_775 (by decide) ?_
          refine q_drop 5 (lv2 := [_, _, _, _, _, none, _]) rfl ?_
          refine q_drop 6 (lv2 := [_, _, _, _, _, _, none]) rfl ?_
          exact K σ2 P2 T2 f3
        · exact absurd rfl h3
  · exact absurd rfl h1
set_option maxHeartbeats 4000000 in
set_option maxRecDepth 100000 in
theorem lc_growth {p : Program} {l : Launch} {e : Env} {s : State} {m : MethodId} {below : List Frame} {meth : Method} {c : Code} {D : va_G} {cy : Nat → ClassId} {B b L : Nat} {xs : Nat → Int32} (hlf : l.stackTraces = false) (C : Cx p l s m #[Value.ref b] meth c cL_law 7 RL wsL_law D cy B) (hX : va_X b L xs s s.heap) (hbs : b < s.heap.size) (hBs : B = s.heap.size) (hL : L ≤ 2560) {cells slots : Nat} {Q : State → Prop} {i : Nat} (hi : i + 5 ≤ L) {P T : Nat} {μ : St} (hG : GG μ P T) (hc : cells + 3 ≤ 601024) (hs : slots + 18 ≤ 7293033)
    (K : ∀ (σ : St) (P2 T2 : Nat), GG σ P2 T2 → PW p l e room_1 s m #[Value.ref b] below meth c D cy B 7 (cells + 3) (slots + 18) Q 1169 [some (.ref b), some (.ref (B + 0)), some (.ref (B + 216)), some (.ref (B + 232)), some (iN i), none, none] [] σ) : PW p l e room_1 s m #[Value.ref b] below meth c D cy B 7 cells slots Q 778 [some (.ref b), some (.ref (B + 0)), some (.ref (B + 216)), some (.ref (B + 232)), some (iN i), none, none] [] μ := by
  have hN := hG.1
  have hM := hG.2.2.2.1
  have h6 := hN.1
  have h8 := hN.2.1
  have hP := hN.2.2.1
  have hT := hN.2.2.2.1
  have hrt := rel_tree hG
  have hrg := rel_graph hG
  obtain ⟨nn, hnn⟩ : ∃ nn : Nat, μ 22 1 = nn := ⟨(μ 22 1).toNat, by omega⟩
  refine q_rng (fun hR => ?_)
  have hRo := hR
  refine q_aload_n (pc := 778) C dL_law_778 rfl rfl ?_
  refine q_aload_n (pc := 779) C dL_law_779 rfl rfl ?_
  refine q_iload (pc := 780) C dL_law_780 rfl ?_
  refine q_iconst (pc := 782) C dL_law_782 ?_
  refine q_iadd (pc := 783) C dL_law_783 ?_
  refine q_sld (pc := 784) C hX hbs hBs (by omega) (by omega) dL_law_784 ?_
  refine q_aload_n (pc := 785) C dL_law_785 rfl rfl ?_
  refine q_callSX (pc := 786) (As := [_, _, _]) (rest := []) C (w_growth hlf D cy B (sv_r xs _) (c_growth hlf D cy B (T := T) (n := nn) (i := (sv xs ((i : Int) + 1))) (sv_r xs _) hnn (zz_ti hG hnn))) (vx_cwSW 3 C.2.2.2.2.1 gL_law_L_growth rfl rfl rfl (by decide +kernel) ⟨Nat.le_of_ble_eq_true rfl, Nat.le_of_ble_eq_true rfl⟩) rfl rfl (by first | decide | simp [Value.category]) dL_law_786 ⟨hc, hs⟩ (fun _ _ h => h.elim) (fun v σ1 hv => ?_)
  obtain ⟨k, hk, hkr, hσ, hfin⟩ := fin_growth hG hnn hv
  subst hk
  dsimp only [Option.toList, List.cons_append, List.nil_append]
  have e16 : σ1 216 = μ 216 := hσ 216 (by decide) (by decide)
  refine q_istore (pc := 789) (lv2 := [_, _, _, _, _, _, _]) C dL_law_789 (by decide) rfl ?_
  refine q_aload_n (pc := 791) C dL_law_791 rfl rfl ?_
  refine q_aload_n (pc := 792) C dL_law_792 rfl rfl ?_
  refine q_iload (pc := 793) C dL_law_793 rfl ?_
  refine q_iconst (pc := 795) C dL_law_795 ?_
  refine q_iadd (pc := 796) C dL_law_796 ?_
  refine q_sld (pc := 797) C hX hbs hBs (by omega) (by omega) dL_law_797 ?_
  refine q_callV (pc := 798) (As := [_]) (rest := []) C (m_growth hlf D cy B (i := (sv xs ((i : Int) + 1))) (dp := fun i => (μ 126 i).toNat) (sv_r xs _) (by rw [e16]; omega) (zz_growth hG hσ).1 (zz_growth hG hσ).2) (cwV 1 C.2.2.2.2.1 gL_law_X4_growth rfl rfl rfl (by decide +kernel) ⟨Nat.le_of_ble_eq_true rfl, Nat.le_of_ble_eq_true rfl⟩) (ci := 4) rfl k216 (by decide) (by decide) rfl rfl (by first | decide | simp [Value.category]) dL_law_798 ⟨hc, hs⟩ (fun _ _ h => h.elim) (fun v σ2 hv => ?_)
  obtain ⟨v2, hv2, hv1, hmp⟩ := hv
  subst hv1
  dsimp only [Option.toList, List.cons_append, List.nil_append]
  obtain ⟨f1, f2, P2, T2, f3⟩ := hfin v2 σ2 hmp
  refine q_istore (pc := 801) (lv2 := [_, _, _, _, _, _, _]) C dL_law_801 (by decide) rfl ?_
  refine q_aload_n (pc := 803) C dL_law_803 rfl rfl ?_
  refine q_callV (pc := 804) (As := []) (rest := []) C (m_thrown hlf D cy B) (cwV 0 C.2.2.2.2.1 gL_law_X4_thrown rfl rfl rfl (by decide +kernel) ⟨Nat.le_of_ble_eq_true rfl, Nat.le_of_ble_eq_true rfl⟩) (ci := 4) rfl k216 (by decide) (by decide) rfl rfl (by first | decide | simp [Value.category]) dL_law_804 ⟨hc, hs⟩ (fun _ _ h => h.elim) (fun v μ9 hv => ?_)
  have e8 := hv.1
  have e9 := hv.2.symm
  clear hv
  subst e8
  subst e9
  dsimp only [Option.toList, List.cons_append, List.nil_append]
  rw [f1]
  refine q_iload (pc := 807) C dL_law_807 rfl ?_
  refine q_icmp_eq (pc := 809) (tgt := 814) C (by first | exact hR _ _ | exact hRo _ _ | assumption | exact r_bI _ | exact sv_r _ _ | exact ⟨by omega, by omega⟩) (by first | exact hR _ _ | exact hRo _ _ | assumption | exact r_bI _ | exact sv_r _ _ | exact ⟨by omega, by omega⟩) dL_law_809 (by decide) (fun h1 => ?_) (fun h1 => ?_)
  · refine q_iload (pc := 814) C dL_law_814 rfl ?_
    refine q_if_ne (pc := 816) (tgt := 831) C (by first | exact hR _ _ | exact hRo _ _ | assumption | exact r_bI _ | exact sv_r _ _ | exact ⟨by omega, by omega⟩) dL_law_816 (by decide) (fun h2 => ?_) (fun h2 => ?_)
    · refine q_goto (pc := 831) (tgt := 1169) C dL_law_831 (by decide) ?_
      refine q_drop 5 (lv2 := [_, _, _, _, _, none, _]) rfl ?_
      refine q_drop 6 (lv2 := [_, _, _, _, _, _, none]) rfl ?_
      exact K σ2 P2 T2 f3
    · have h20 : k = 0 := h2
      refine q_aload_n (pc := 819) C dL_law_819 rfl rfl ?_
      refine q_iconst (pc := 820) C dL_law_820 ?_
      refine q_laload (pc := 821) C k232 n232 (by decide) (by decide) (by omega) (by omega) dL_law_821 ?_
      rw [f2 h20]
      refine q_iload (pc := 822) C dL_law_822 rfl ?_
      refine q_i2l (pc := 824) C (by first | exact hR _ _ | exact hRo _ _ | assumption | exact r_bI _ | exact sv_r _ _ | exact ⟨by omega, by omega⟩) dL_law_824 ?_
      refine q_lcmp (pc := 825) (z := 0) C (lg_same _) dL_law_825 ?_
      refine q_if_eq (pc := 826) (tgt := 831) C (by first | exact hR _ _ | exact hRo _ _ | assumption | exact r_bI _ | exact sv_r _ _ | exact ⟨by omega, by omega⟩) dL_law_826 (by decide) (fun h3 => ?_) (fun h3 => ?_)
      · refine q_goto (pc := 831) (tgt := 1169) C dL_law_831 (by decide) ?_
        refine q_drop 5 (lv2 := [_, _, _, _, _, none, _]) rfl ?_
        refine q_drop 6 (lv2 := [_, _, _, _, _, _, none]) rfl ?_
        exact K σ2 P2 T2 f3
      · exact absurd rfl h3
  · exact absurd rfl h1
set_option maxHeartbeats 4000000 in
set_option maxRecDepth 100000 in
theorem lc_graph {p : Program} {l : Launch} {e : Env} {s : State} {m : MethodId} {below : List Frame} {meth : Method} {c : Code} {D : va_G} {cy : Nat → ClassId} {B b L : Nat} {xs : Nat → Int32} (hlf : l.stackTraces = false) (C : Cx p l s m #[Value.ref b] meth c cL_law 7 RL wsL_law D cy B) (hX : va_X b L xs s s.heap) (hbs : b < s.heap.size) (hBs : B = s.heap.size) (hL : L ≤ 2560) {cells slots : Nat} {Q : State → Prop} {i : Nat} (hi : i + 5 ≤ L) {P T : Nat} {μ : St} (hG : GG μ P T) (hc : cells + 3 ≤ 601024) (hs : slots + 18 ≤ 7293033)
    (K : ∀ (σ : St) (P2 T2 : Nat), GG σ P2 T2 → PW p l e room_1 s m #[Value.ref b] below meth c D cy B 7 (cells + 3) (slots + 18) Q 1169 [some (.ref b), some (.ref (B + 0)), some (.ref (B + 216)), some (.ref (B + 232)), some (iN i), none, none] [] σ) : PW p l e room_1 s m #[Value.ref b] below meth c D cy B 7 cells slots Q 834 [some (.ref b), some (.ref (B + 0)), some (.ref (B + 216)), some (.ref (B + 232)), some (iN i), none, none] [] μ := by
  have hN := hG.1
  have hM := hG.2.2.2.1
  have h6 := hN.1
  have h8 := hN.2.1
  have hP := hN.2.2.1
  have hT := hN.2.2.2.1
  have hrt := rel_tree hG
  have hrg := rel_graph hG
  obtain ⟨nn, hnn⟩ : ∃ nn : Nat, μ 22 1 = nn := ⟨(μ 22 1).toNat, by omega⟩
  refine q_rng (fun hR => ?_)
  have hRo := hR
  refine q_aload_n (pc := 834) C dL_law_834 rfl rfl ?_
  refine q_aload_n (pc := 835) C dL_law_835 rfl rfl ?_
  refine q_callSX (pc := 836) (As := [_, _]) (rest := []) C (w_graph hlf D cy B  (c_graph hlf D cy B (P := P) (T := T) (n := nn) hN hnn)) (vx_cwSW 2 C.2.2.2.2.1 gL_law_L_graph rfl rfl rfl (by decide +kernel) ⟨Nat.le_of_ble_eq_true rfl, Nat.le_of_ble_eq_true rfl⟩) rfl rfl (by first | decide | simp [Value.category]) dL_law_836 ⟨hc, hs⟩ (fun _ _ h => h.elim) (fun v σ1 hv => ?_)
  obtain ⟨hN1, hM1, hZ1, hbad, σf, gf, okf, hrun, k, hk, hkr, hσ, hfin⟩ := fin_graph hG hnn hv
  subst hk
  dsimp only [Option.toList, List.cons_append, List.nil_append]
  have e16 : σ1 216 = μ 216 := hσ 216 (by decide) (by decide)
  refine q_istore (pc := 839) (lv2 := [_, _, _, _, _, _, _]) C dL_law_839 (by decide) rfl ?_
  refine q_aload_n (pc := 841) C dL_law_841 rfl rfl ?_
  refine q_callV (pc := 842) (As := []) (rest := []) C (m_graph hlf D cy B (ν := μ) (σf := σf) (P := P) (T := T) (gf := gf) (n9 := 0) (okf := okf) (bad := (nn = 0 ∨ ¬ μ 22 2 = -2)) hN1 hM1 hZ1 (by rw [e16]; clear hbad hrun hσ hfin; omega) hbad hrun) (cwV 0 C.2.2.2.2.1 gL_law_X4_graph rfl rfl rfl (by decide +kernel) ⟨Nat.le_of_ble_eq_true rfl, Nat.le_of_ble_eq_true rfl⟩) (ci := 4) rfl k216 (by decide) (by decide) rfl rfl (by first | decide | simp [Value.category]) dL_law_842 ⟨hc, hs⟩ (fun _ _ h => h.elim) (fun v σ2 hv => ?_)
  obtain ⟨v2, hv2, hv1, hmp⟩ := hv
  subst hv1
  dsimp only [Option.toList, List.cons_append, List.nil_append]
  obtain ⟨f1, f2, P2, T2, f3⟩ := hfin v2 σ2 hmp
  refine q_istore (pc := 845) (lv2 := [_, _, _, _, _, _, _]) C dL_law_845 (by decide) rfl ?_
  refine q_aload_n (pc := 847) C dL_law_847 rfl rfl ?_
  refine q_callV (pc := 848) (As := []) (rest := []) C (m_thrown hlf D cy B) (cwV 0 C.2.2.2.2.1 gL_law_X4_thrown rfl rfl rfl (by decide +kernel) ⟨Nat.le_of_ble_eq_true rfl, Nat.le_of_ble_eq_true rfl⟩) (ci := 4) rfl k216 (by decide) (by decide) rfl rfl (by first | decide | simp [Value.category]) dL_law_848 ⟨hc, hs⟩ (fun _ _ h => h.elim) (fun v μ9 hv => ?_)
  have e8 := hv.1
  have e9 := hv.2.symm
  clear hv
  subst e8
  subst e9
  dsimp only [Option.toList, List.cons_append, List.nil_append]
  rw [f1]
  refine q_iload (pc := 851) C dL_law_851 rfl ?_
  refine q_icmp_eq (pc := 853) (tgt := 858) C (by first | exact hR _ _ | exact hRo _ _ | assumption | exact r_bI _ | exact sv_r _ _ | exact ⟨by omega, by omega⟩) (by first | exact hR _ _ | exact hRo _ _ | assumption | exact r_bI _ | exact sv_r _ _ | exact ⟨by omega, by omega⟩) dL_law_853 (by decide) (fun h1 => ?_) (fun h1 => ?_)
  · refine q_iload (pc := 858) C dL_law_858 rfl ?_
    refine q_if_ne (pc := 860) (tgt := 875) C (by first | exact hR _ _ | exact hRo _ _ | assumption | exact r_bI _ | exact sv_r _ _ | exact ⟨by omega, by omega⟩) dL_law_860 (by decide) (fun h2 => ?_) (fun h2 => ?_)
    · refine q_goto (pc := 875) (tgt := 1169) C dL_law_875 (by decide) ?_
      refine q_drop 5 (lv2 := [_, _, _, _, _, none, _]) rfl ?_
      refine q_drop 6 (lv2 := [_, _, _, _, _, _, none]) rfl ?_
      exact K σ2 P2 T2 f3
    · have h20 : k = 0 := h2
      refine q_aload_n (pc := 863) C dL_law_863 rfl rfl ?_
      refine q_iconst (pc := 864) C dL_law_864 ?_
      refine q_laload (pc := 865) C k232 n232 (by decide) (by decide) (by omega) (by omega) dL_law_865 ?_
      rw [f2 h20]
      refine q_iload (pc := 866) C dL_law_866 rfl ?_
      refine q_i2l (pc := 868) C (by first | exact hR _ _ | exact hRo _ _ | assumption | exact r_bI _ | exact sv_r _ _ | exact ⟨by omega, by omega⟩) dL_law_868 ?_
      refine q_lcmp (pc := 869) (z := 0) C (lg_same _) dL_law_869 ?_
      refine q_if_eq (pc := 870) (tgt := 875) C (by first | exact hR _ _ | exact hRo _ _ | assumption | exact r_bI _ | exact sv_r _ _ | exact ⟨by omega, by omega⟩) dL_law_870 (by decide) (fun h3 => ?_) (fun h3 => ?_)
      · refine q_goto (pc := 875) (tgt := 1169) C dL_law_875 (by decide) ?_
        refine q_drop 5 (lv2 := [_, _, _, _, _, none, _]) rfl ?_
        refine q_drop 6 (lv2 := [_, _, _, _, _, _, none]) rfl ?_
        exact K σ2 P2 T2 f3
      · exact absurd rfl h3
  · exact absurd rfl h1

