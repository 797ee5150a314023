set_option maxHeartbeats 4000000 in
set_option maxRecDepth 100000 in
theorem lc_reached {p : Program} {l : Launch} {e : Env} {s : State} {m : MethodId} {below : List Frame} {meth : Method} {c : Code} {D : va_G} {cy : Nat → ClassId} {B b L : Nat} {xs : Nat → Int32} (hlf : l.stackTraces = false) (C : Cx p l s m #[Value.ref b] meth c cL_law 7 RL wsL_law D cy B) (hX : va_X b L xs s s.heap) (hbs : b < s.heap.size) (hBs : B = s.heap.size) (hL : L ≤ 2560) {cells slots : Nat} {Q : State → Prop} {i : Nat} (hi : i + 5 ≤ L) {P T : Nat} {μ : St} (hG : GG μ P T) (hc : cells + 3 ≤ 601024) (hs : slots + 18 ≤ 7293033)
    (K : ∀ (σ : St) (P2 T2 : Nat), GG σ P2 T2 → PW p l e room_1 s m #[Value.ref b] below meth c D cy B 7 (cells + 3) (slots + 18) Q 1169 [some (.ref b), some (.ref (B + 0)), some (.ref (B + 216)), some (.ref (B + 232)), some (iN i), none, none] [] σ) : PW p l e room_1 s m #[Value.ref b] below meth c D cy B 7 cells slots Q 878 [some (.ref b), some (.ref (B + 0)), some (.ref (B + 216)), some (.ref (B + 232)), some (iN i), none, none] [] μ := by
  have hN := hG.1
  have hM := hG.2.2.2.1
  have h6 := hN.1
  have h8 := hN.2.1
  have hP := hN.2.2.1
  have hT := hN.2.2.2.1
  have hrt := rel_tree hG
  have hrg := rel_graph hG
  obtain ⟨gg, hgg⟩ : ∃ gg : Nat, μ 128 1 = gg := ⟨(μ 128 1).toNat, by omega⟩
  refine q_rng (fun hR => ?_)
  have hRo := hR
  refine q_aload_n (pc := 878) C dL_law_878 rfl rfl ?_
  refine q_aload_n (pc := 879) C dL_law_879 rfl rfl ?_
  refine q_callSX (pc := 880) (As := [_, _]) (rest := []) C (w_reached hlf D cy B  (c_reached hlf D cy B (g := gg) hgg (by omega))) (vx_cwSW 2 C.2.2.2.2.1 gL_law_L_reached rfl rfl rfl (by decide +kernel) ⟨Nat.le_of_ble_eq_true rfl, Nat.le_of_ble_eq_true rfl⟩) rfl rfl (by first | decide | simp [Value.category]) dL_law_880 ⟨hc, hs⟩ (fun _ _ h => h.elim) (fun v σ1 hv => ?_)
  obtain ⟨k, hk, hkr, hσ, hfin⟩ := fin_reached hG hgg hv
  subst hk
  dsimp only [Option.toList, List.cons_append, List.nil_append]
  have e16 : σ1 216 = μ 216 := hσ 216 (by decide) (by decide)
  refine q_istore (pc := 883) (lv2 := [_, _, _, _, _, _, _]) C dL_law_883 (by decide) rfl ?_
  refine q_aload_n (pc := 885) C dL_law_885 rfl rfl ?_
  refine q_callV (pc := 886) (As := []) (rest := []) C (m_reached hlf D cy B (P := P) (by rw [e16]; exact hM.1) h6 (by rw [e16]; omega)) (cwV 0 C.2.2.2.2.1 gL_law_X4_reached rfl rfl rfl (by decide +kernel) ⟨Nat.le_of_ble_eq_true rfl, Nat.le_of_ble_eq_true rfl⟩) (ci := 4) rfl k216 (by decide) (by decide) rfl rfl (by first | decide | simp [Value.category]) dL_law_886 ⟨hc, hs⟩ (fun _ _ h => h.elim) (fun v σ2 hv => ?_)
  obtain ⟨v2, hv2, hv1, hmp⟩ := hv
  subst hv1
  dsimp only [Option.toList, List.cons_append, List.nil_append]
  obtain ⟨f1, f2, P2, T2, f3⟩ := hfin v2 σ2 hmp
  refine q_istore (pc := 889) (lv2 := [_, _, _, _, _, _, _]) C dL_law_889 (by decide) rfl ?_
  refine q_aload_n (pc := 891) C dL_law_891 rfl rfl ?_
  refine q_callV (pc := 892) (As := []) (rest := []) C (m_thrown hlf D cy B) (cwV 0 C.2.2.2.2.1 gL_law_X4_thrown rfl rfl rfl (by decide +kernel) ⟨Nat.le_of_ble_eq_true rfl, Nat.le_of_ble_eq_true rfl⟩) (ci := 4) rfl k216 (by decide) (by decide) rfl rfl (by first | decide | simp [Value.category]) dL_law_892 ⟨hc, hs⟩ (fun _ _ h => h.elim) (fun v μ9 hv => ?_)
  have e8 := hv.1
  have e9 := hv.2.symm
  clear hv
  subst e8
  subst e9
  dsimp only [Option.toList, List.cons_append, List.nil_append]
  rw [f1]
  refine q_iload (pc := 895) C dL_law_895 rfl ?_
  refine q_icmp_eq (pc := 897) (tgt := 902) C (by first | exact hR _ _ | exact hRo _ _ | assumption | exact r_bI _ | exact sv_r _ _ | exact ⟨by omega, by omega⟩) (by first | exact hR _ _ | exact hRo _ _ | assumption | exact r_bI _ | exact sv_r _ _ | exact ⟨by omega, by omega⟩) dL_law_897 (by decide) (fun h1 => ?_) (fun h1 => ?_)
  · refine q_iload (pc := 902) C dL_law_902 rfl ?_
    refine q_if_ne (pc := 904) (tgt := 919) C (by first | exact hR _ _ | exact hRo _ _ | assumption | exact r_bI _ | exact sv_r _ _ | exact ⟨by omega, by omega⟩) dL_law_904 (by decide) (fun h2 => ?_) (fun h2 => ?_)
    · refine q_goto (pc := 919) (tgt := 1169) C dL_law_919 (by decide) ?_
      refine q_drop 5 (lv2 := [_, _, _, _, _, none, _]) rfl ?_
      refine q_drop 6 (lv2 := [_, _, _, _, _, _, none]) rfl ?_
      exact K σ2 P2 T2 f3
    · have h20 : k = 0 := h2
      refine q_aload_n (pc := 907) C dL_law_907 rfl rfl ?_
      refine q_iconst (pc := 908) C dL_law_908 ?_
      refine q_laload (pc := 909) C k232 n232 (by decide) (by decide) (by omega) (by omega) dL_law_909 ?_
      rw [f2 h20]
      refine q_iload (pc := 910) C dL_law_910 rfl ?_
      refine q_i2l (pc := 912) C (by first | exact hR _ _ | exact hRo _ _ | assumption | exact r_bI _ | exact sv_r _ _ | exact ⟨by omega, by omega⟩) dL_law_912 ?_
      refine q_lcmp (pc := 913) (z := 0) C (lg_same _) dL_law_913 ?_
      refine q_if_eq (pc := 914) (tgt := 919) C (by first | exact hR _ _ | exact hRo _ _ | assumption | exact r_bI _ | exact sv_r _ _ | exact ⟨by omega, by omega⟩) dL_law_914 (by decide) (fun h3 => ?_) (fun h3 => ?_)
      · refine q_goto (pc := 919) (tgt := 1169) C dL_law_919 (by decide) ?_
        refine q_drop 5 (lv2 := [_, _, _, _, _, none, _]) rfl ?_
        refine q_drop 6 (lv2 := [_, _, _, _, _, _, none]) rfl ?_
        exact K σ2 P2 T2 f3
      · exact absurd rfl h3
  · exact absurd rfl h1
set_option maxHeartbeats 4000000 in
set_option maxRecDepth 100000 in
theorem lc_distance {p : Program} {l : Launch} {e : Env} {s : State} {m : MethodId} {below : List Frame} {meth : Method} {c : Code} {D : va_G} {cy : Nat → ClassId} {B b L : Nat} {xs : Nat → Int32} (hlf : l.stackTraces = false) (C : Cx p l s m #[Value.ref b] meth c cL_law 7 RL wsL_law D cy B) (hX : va_X b L xs s s.heap) (hbs : b < s.heap.size) (hBs : B = s.heap.size) (hL : L ≤ 2560) {cells slots : Nat} {Q : State → Prop} {i : Nat} (hi : i + 5 ≤ L) {P T : Nat} {μ : St} (hG : GG μ P T) (hc : cells + 3 ≤ 601024) (hs : slots + 18 ≤ 7293033)
    (K : ∀ (σ : St) (P2 T2 : Nat), GG σ P2 T2 → PW p l e room_1 s m #[Value.ref b] below meth c D cy B 7 (cells + 3) (slots + 18) Q 1169 [some (.ref b), some (.ref (B + 0)), some (.ref (B + 216)), some (.ref (B + 232)), some (iN i), none, none] [] σ) : PW p l e room_1 s m #[Value.ref b] below meth c D cy B 7 cells slots Q 922 [some (.ref b), some (.ref (B + 0)), some (.ref (B + 216)), some (.ref (B + 232)), some (iN i), none, none] [] μ := by
  have hN := hG.1
  have hM := hG.2.2.2.1
  have h6 := hN.1
  have h8 := hN.2.1
  have hP := hN.2.2.1
  have hT := hN.2.2.2.1
  have hrt := rel_tree hG
  have hrg := rel_graph hG
  obtain ⟨gg, hgg⟩ : ∃ gg : Nat, μ 128 1 = gg := ⟨(μ 128 1).toNat, by omega⟩
  refine q_rng (fun hR => ?_)
  have hRo := hR
  refine q_aload_n (pc := 922) C dL_law_922 rfl rfl ?_
  refine q_aload_n (pc := 923) C dL_law_923 rfl rfl ?_
  refine q_iload (pc := 924) C dL_law_924 rfl ?_
  refine q_iconst (pc := 926) C dL_law_926 ?_
  refine q_iadd (pc := 927) C dL_law_927 ?_
  refine q_sld (pc := 928) C hX hbs hBs (by omega) (by omega) dL_law_928 ?_
  refine q_aload_n (pc := 929) C dL_law_929 rfl rfl ?_
  refine q_callSX (pc := 930) (As := [_, _, _]) (rest := []) C (w_distance hlf D cy B (sv_r xs _) (c_distance hlf D cy B (g := gg) (i := (sv xs ((i : Int) + 1))) (sv_r xs _) hgg (by omega))) (vx_cwSW 3 C.2.2.2.2.1 gL_law_L_distance rfl rfl rfl (by decide +kernel) ⟨Nat.le_of_ble_eq_true rfl, Nat.le_of_ble_eq_true rfl⟩) rfl rfl (by first | decide | simp [Value.category]) dL_law_930 ⟨hc, hs⟩ (fun _ _ h => h.elim) (fun v σ1 hv => ?_)
  obtain ⟨k, hk, hkr, hσ, hfin⟩ := fin_distance hG hgg hv
  subst hk
  dsimp only [Option.toList, List.cons_append, List.nil_append]
  have e16 : σ1 216 = μ 216 := hσ 216 (by decide) (by decide)
  refine q_istore (pc := 933) (lv2 := [_, _, _, _, _, _, _]) C dL_law_933 (by decide) rfl ?_
  refine q_aload_n (pc := 935) C dL_law_935 rfl rfl ?_
  refine q_aload_n (pc := 936) C dL_law_936 rfl rfl ?_
  refine q_iload (pc := 937) C dL_law_937 rfl ?_
  refine q_iconst (pc := 939) C dL_law_939 ?_
  refine q_iadd (pc := 940) C dL_law_940 ?_
  refine q_sld (pc := 941) C hX hbs hBs (by omega) (by omega) dL_law_941 ?_
  refine q_callV (pc := 942) (As := [_]) (rest := []) C (m_distance hlf D cy B (i := (sv xs ((i : Int) + 1))) (dp := fun i => (μ 213 i).toNat) (sv_r xs _) (by rw [e16]; omega) (zz_distance hG hσ)) (cwV 1 C.2.2.2.2.1 gL_law_X4_distance rfl rfl rfl (by decide +kernel) ⟨Nat.le_of_ble_eq_true rfl, Nat.le_of_ble_eq_true rfl⟩) (ci := 4) rfl k216 (by decide) (by decide) rfl rfl (by first | decide | simp [Value.category]) dL_law_942 ⟨hc, hs⟩ (fun _ _ h => h.elim) (fun v σ2 hv => ?_)
  obtain ⟨v2, hv2, hv1, hmp⟩ := hv
  subst hv1
  dsimp only [Option.toList, List.cons_append, List.nil_append]
  obtain ⟨f1, f2, P2, T2, f3⟩ := hfin v2 σ2 hmp
  refine q_istore (pc := 945) (lv2 := [_, _, _, _, _, _, _]) C dL_law_945 (by decide) rfl ?_
  refine q_aload_n (pc := 947) C dL_law_947 rfl rfl ?_
  refine q_callV (pc := 948) (As := []) (rest := []) C (m_thrown hlf D cy B) (cwV 0 C.2.2.2.2.1 gL_law_X4_thrown rfl rfl rfl (by decide +kernel) ⟨Nat.le_of_ble_eq_true rfl, Nat.le_of_ble_eq_true rfl⟩) (ci := 4) rfl k216 (by decide) (by decide) rfl rfl (by first | decide | simp [Value.category]) dL_law_948 ⟨hc, hs⟩ (fun _ _ h => h.elim) (fun v μ9 hv => ?_)
  have e8 := hv.1
  have e9 := hv.2.symm
  clear hv
  subst e8
  subst e9
  dsimp only [Option.toList, List.cons_append, List.nil_append]
  rw [f1]
  refine q_iload (pc := 951) C dL_law_951 rfl ?_
  refine q_icmp_eq (pc := 953) (tgt := 958) C (by first | exact hR _ _ | exact hRo _ _ | assumption | exact r_bI _ | exact sv_r _ _ | exact ⟨by omega, by omega⟩) (by first | exact hR _ _ | exact hRo _ _ | assumption | exact r_bI _ | exact sv_r _ _ | exact ⟨by omega, by omega⟩) dL_law_953 (by decide) (fun h1 => ?_) (fun h1 => ?_)
  · refine q_iload (pc := 958) C dL_law_958 rfl ?_
    refine q_if_ne (pc := 960) (tgt := 975) C (by first | exact hR _ _ | exact hRo _ _ | assumption | exact r_bI _ | exact sv_r _ _ | exact ⟨by omega, by omega⟩) dL_law_960 (by decide) (fun h2 => ?_) (fun h2 => ?_)
    · refine q_goto (pc := 975) (tgt := 1169) C dL_law_975 (by decide) ?_
      refine q_drop 5 (lv2 := [_, _, _, _, _, none, _]) rfl ?_
      refine q_drop 6 (lv2 := [_, _, _, _, _, _, none]) rfl ?_
      exact K σ2 P2 T2 f3
    · have h20 : k = 0 := h2
      refine q_aload_n (pc := 963) C dL_law_963 rfl rfl ?_
      refine q_iconst (pc := 964) C dL_law_964 ?_
      refine q_laload (pc := 965) C k232 n232 (by decide) (by decide) (by omega) (by omega) dL_law_965 ?_
      rw [f2 h20]
      refine q_iload (pc := 966) C dL_law_966 rfl ?_
      refine q_i2l (pc := 968) C (by first | exact hR _ _ | exact hRo _ _ | assumption | exact r_bI _ | exact sv_r _ _ | exact ⟨by omega, by omega⟩) dL_law_968 ?_
      refine q_lcmp (pc := 969) (z := 0) C (lg_same _) dL_law_969 ?_
      refine q_if_eq (pc := 970) (tgt := 975) C (by first | exact hR _ _ | exact hRo _ _ | assumption | exact r_bI _ | exact sv_r _ _ | exact ⟨by omega, by omega⟩) dL_law_970 (by decide) (fun h3 => ?_) (fun h3 => ?_)
      · refine q_goto (pc := 975) (tgt := 1169) C dL_law_975 (by decide) ?_
        refine q_drop 5 (lv2 := [_, _, _, _, _, none, _]) rfl ?_
        refine q_drop 6 (lv2 := [_, _, _, _, _, _, none]) rfl ?_
        exact K σ2 P2 T2 f3
      · exact absurd rfl h3
  · exact absurd rfl h1
set_option maxHeartbeats 4000000 in
set_option maxRecDepth 100000 in
theorem lc_found {p : Program} {l : Launch} {e : Env} {s : State} {m : MethodId} {below : List Frame} {meth : Method} {c : Code} {D : va_G} {cy : Nat → ClassId} {B b L : Nat} {xs : Nat → Int32} (hlf : l.stackTraces = false) (C : Cx p l s m #[Value.ref b] meth c cL_law 7 RL wsL_law D cy B) (hX : va_X b L xs s s.heap) (hbs : b < s.heap.size) (hBs : B = s.heap.size) (hL : L ≤ 2560) {cells slots : Nat} {Q : State → Prop} {i : Nat} (hi : i + 5 ≤ L) {P T : Nat} {μ : St} (hG : GG μ P T) (hc : cells + 3 ≤ 601024) (hs : slots + 18 ≤ 7293033)
    (K : ∀ (σ : St) (P2 T2 : Nat), GG σ P2 T2 → PW p l e room_1 s m #[Value.ref b] below meth c D cy B 7 (cells + 3) (slots + 18) Q 1169 [some (.ref b), some (.ref (B + 0)), some (.ref (B + 216)), some (.ref (B + 232)), some (iN i), none, none] [] σ) : PW p l e room_1 s m #[Value.ref b] below meth c D cy B 7 cells slots Q 978 [some (.ref b), some (.ref (B + 0)), some (.ref (B + 216)), some (.ref (B + 232)), some (iN i), none, none] [] μ := by
  have hN := hG.1
  have hM := hG.2.2.2.1
  have h6 := hN.1
  have h8 := hN.2.1
  have hP := hN.2.2.1
  have hT := hN.2.2.2.1
  have hrt := rel_tree hG
  have hrg := rel_graph hG
  obtain ⟨gg, hgg⟩ : ∃ gg : Nat, μ 128 1 = gg := ⟨(μ 128 1).toNat, by omega⟩
  refine q_rng (fun hR => ?_)
  have hRo := hR
  have MID : ∀ z9 : Int, InR z9 → (((sv xs ((i : Int) + 2)) = 0 ∧ z9 = 0) ∨ (¬ (sv xs ((i : Int) + 2)) = 0 ∧ z9 = 1)) → PW p l e room_1 s m #[Value.ref b] below meth c D cy B 7 cells slots Q 999 [some (.ref b), some (.ref (B + 0)), some (.ref (B + 216)), some (.ref (B + 232)), some (iN i), none, none] [iN z9, iN (sv xs ((i : Int) + 1)), .ref (B + 0)] μ := by
    intro z9 hz9 hzz
    refine q_aload_n (pc := 999) C dL_law_999 rfl rfl ?_
    refine q_callSX (pc := 1000) (As := [_, _, _, _]) (rest := []) C (w_found hlf D cy B (sv_r xs _) hz9 (c_found hlf D cy B (g := gg) (i := (sv xs ((i : Int) + 1))) (z := z9) (sv_r xs _) hz9 hgg (by omega))) (vx_cwSW 4 C.2.2.2.2.1 gL_law_L_found rfl rfl rfl (by decide +kernel) ⟨Nat.le_of_ble_eq_true rfl, Nat.le_of_ble_eq_true rfl⟩) rfl rfl (by first | decide | simp [Value.category]) dL_law_1000 ⟨hc, hs⟩ (fun _ _ h => h.elim) (fun v σ1 hv => ?_)
    obtain ⟨k, hk, hkr, hσ, hfin⟩ := fin_found hG hgg hv
    subst hk
    dsimp only [Option.toList, List.cons_append, List.nil_append]
    have e16 : σ1 216 = μ 216 := hσ 216 (by decide) (by decide)
    refine q_istore (pc := 1003) (lv2 := [_, _, _, _, _, _, _]) C dL_law_1003 (by decide) rfl ?_
    refine q_aload_n (pc := 1005) C dL_law_1005 rfl rfl ?_
    refine q_aload_n (pc := 1006) C dL_law_1006 rfl rfl ?_
    refine q_iload (pc := 1007) C dL_law_1007 rfl ?_
    refine q_iconst (pc := 1009) C dL_law_1009 ?_
    refine q_iadd (pc := 1010) C dL_law_1010 ?_
    refine q_sld (pc := 1011) C hX hbs hBs (by omega) (by omega) dL_law_1011 ?_
    refine q_aload_n (pc := 1012) C dL_law_1012 rfl rfl ?_
    refine q_iload (pc := 1013) C dL_law_1013 rfl ?_
    refine q_iconst (pc := 1015) C dL_law_1015 ?_
    refine q_iadd (pc := 1016) C dL_law_1016 ?_
    refine q_sld (pc := 1017) C hX hbs hBs (by omega) (by omega) dL_law_1017 ?_
    refine q_if_eq (pc := 1018) (tgt := 1025) C (by first | exact hR _ _ | exact hRo _ _ | assumption | exact r_bI _ | exact sv_r _ _ | exact ⟨by omega, by omega⟩) dL_law_1018 (by decide) (fun h9 => ?_) (fun h9 => ?_)
    · have hz0 : z9 = 0 := by omega
      refine q_iconst (pc := 1025) C dL_law_1025 ?_
      rw [show iN 0 = iN z9 by rw [hz0]]
      refine q_callV (pc := 1026) (As := [_, _]) (rest := []) C (m_found hlf D cy B (i := (sv xs ((i : Int) + 1))) (z := z9) (sv_r xs _) hz9 (by rw [e16]; omega)) (cwV 2 C.2.2.2.2.1 gL_law_X4_found rfl rfl rfl (by decide +kernel) ⟨Nat.le_of_ble_eq_true rfl, Nat.le_of_ble_eq_true rfl⟩) (ci := 4) rfl k216 (by decide) (by decide) rfl rfl (by first | decide | simp [Value.category]) dL_law_1026 ⟨hc, hs⟩ (fun _ _ h => h.elim) (fun v σ2 hv => ?_)
      obtain ⟨v2, hv2, hv1, hmp⟩ := hv
      subst hv1
      dsimp only [Option.toList, List.cons_append, List.nil_append]
      obtain ⟨f1, f2, P2, T2, f3⟩ := hfin v2 σ2 hmp
      refine q_istore (pc := 1029) (lv2 := [_, _, _, _, _, _, _]) C dL_law_1029 (by decide) rfl ?_
      refine q_aload_n (pc := 1031) C dL_law_1031 rfl rfl ?_
      refine q_callV (pc := 1032) (As := []) (rest := []) C (m_thrown hlf D cy B) (cwV 0 C.2.2.2.2.1 gL_law_X4_thrown rfl rfl rfl (by decide +kernel) ⟨Nat.le_of_ble_eq_true rfl, Nat.le_of_ble_eq_true rfl⟩) (ci := 4) rfl k216 (by decide) (by decide) rfl rfl (by first | decide | simp [Value.category]) dL_law_1032 ⟨hc, hs⟩ (fun _ _ h => h.elim) (fun v μ9 hv => ?_)
      have e8 := hv.1
      have e9 := hv.2.symm
      clear hv
      subst e8
      subst e9
      dsimp only [Option.toList, List.cons_append, List.nil_append]
      rw [f1]
      refine q_iload (pc := 1035) C dL_law_1035 rfl ?_
      refine q_icmp_eq (pc := 1037) (tgt := 1042) C (by first | exact hR _ _ | exact hRo _ _ | assumption | exact r_bI _ | exact sv_r _ _ | exact ⟨by omega, by omega⟩) (by first | exact hR _ _ | exact hRo _ _ | assumption | exact r_bI _ | exact sv_r _ _ | exact ⟨by omega, by omega⟩) dL_law_1037 (by decide) (fun h1 => ?_) (fun h1 => ?_)
      · refine q_iload (pc := 1042) C dL_law_1042 rfl ?_
        refine q_if_ne (pc := 1044) (tgt := 1059) C (by first | exact hR _ _ | exact hRo _ _ | assumption | exact r_bI _ | exact sv_r _ _ | exact ⟨by omega, by omega⟩) dL_law_1044 (by decide) (fun h2 => ?_) (fun h2 => ?_)
        · refine q_goto (pc := 1059) (tgt := 1169) C dL_law_1059 (by decide) ?_
          refine q_drop 5 (lv2 := [_, _, _, _, _, none, _]) rfl ?_
          refine q_drop 6 (lv2 := [_, _, _, _, _, _, none]) rfl ?_
          exact K σ2 P2 T2 f3
        · have h20 : k = 0 := h2
          refine q_aload_n (pc := 1047) C dL_law_1047 rfl rfl ?_
          refine q_iconst (pc := 1048) C dL_law_1048 ?_
          refine q_laload (pc := 1049) C k232 n232 (by decide) (by decide) (by omega) (by omega) dL_law_1049 ?_
          rw [f2 h20]
          refine q_iload (pc := 1050) C dL_law_1050 rfl ?_
          refine q_i2l (pc := 1052) C (by first | exact hR _ _ | exact hRo _ _ | assumption | exact r_bI _ | exact sv_r _ _ | exact ⟨by omega, by omega⟩) dL_law_1052 ?_
          refine q_lcmp (pc := 1053) (z := 0) C (lg_same _) dL_law_1053 ?_
          refine q_if_eq (pc := 1054) (tgt := 1059) C (by first | exact hR _ _ | exact hRo _ _ | assumption | exact r_bI _ | exact sv_r _ _ | exact ⟨by omega, by omega⟩) dL_law_1054 (by decide) (fun h3 => ?_) (fun h3 => ?_)
          · refine q_goto (pc := 1059) (tgt := 1169) C dL_law_1059 (by decide) ?_
            refine q_drop 5 (lv2 := [_, _, _, _, _, none, _]) rfl ?_
            refine q_drop 6 (lv2 := [_, _, _, _, _, _, none]) rfl ?_
            exact K σ2 P2 T2 f3
          · exact absurd rfl h3
      · exact absurd rfl h1
    · have hz1 : z9 = 1 := by omega
      refine q_iconst (pc := 1021) C dL_law_1021 ?_
      refine q_goto (pc := 1022) (tgt := 1026) C dL_law_1022 (by decide) ?_
      rw [show iN 1 = iN z9 by rw [hz1]]
      refine q_callV (pc := 1026) (As := [_, _]) (rest := []) C (m_found hlf D cy B (i := (sv xs ((i : Int) + 1))) (z := z9) (sv_r xs _) hz9 (by rw [e16]; omega)) (cwV 2 C.2.2.2.2.1 gL_law_X4_found rfl rfl rfl (by decide +kernel) ⟨Nat.le_of_ble_eq_true rfl, Nat.le_of_ble_eq_true rfl⟩) (ci := 4) rfl k216 (by decide) (by decide) rfl rfl (by first | decide | simp [Value.category]) dL_law_1026 ⟨hc, hs⟩ (fun _ _ h => h.elim) (fun v σ2 hv => ?_)
      obtain ⟨v2, hv2, hv1, hmp⟩ := hv
      subst hv1
      dsimp only [Option.toList, List.cons_append, List.nil_append]
      obtain ⟨f1, f2, P2, T2, f3⟩ := hfin v2 σ2 hmp
      refine q_istore (pc := 1029) (lv2 := [_, _, _, _, _, _, _]) C dL_law_1029 (by decide) rfl ?_
      refine q_aload_n (pc := 1031) C dL_law_1031 rfl rfl ?_
      refine q_callV (pc := 1032) (As := []) (rest := []) C (m_thrown hlf D cy B) (cwV 0 C.2.2.2.2.1 gL_law_X4_thrown rfl rfl rfl (by decide +kernel) ⟨Nat.le_of_ble_eq_true rfl, Nat.le_of_ble_eq_true rfl⟩) (ci := 4) rfl k216 (by decide) (by decide) rfl rfl (by first | decide | simp [Value.category]) dL_law_1032 ⟨hc, hs⟩ (fun _ _ h => h.elim) (fun v μ9 hv => ?_)
      have e8 := hv.1
      have e9 := hv.2.symm
      clear hv
      subst e8
      subst e9
      dsimp only [Option.toList, List.cons_append, List.nil_append]
      rw [f1]
      refine q_iload (pc := 1035) C dL_law_1035 rfl ?_
      refine q_icmp_eq (pc := 1037) (tgt := 1042) C (by first | exact hR _ _ | exact hRo _ _ | assumption | exact r_bI _ | exact sv_r _ _ | exact ⟨by omega, by omega⟩) (by first | exact hR _ _ | exact hRo _ _ | assumption | exact r_bI _ | exact sv_r _ _ | exact ⟨by omega, by omega⟩) dL_law_1037 (by decide) (fun h1 => ?_) (fun h1 => ?_)
      · refine q_iload (pc := 1042) C dL_law_1042 rfl ?_
        refine q_if_ne (pc := 1044) (tgt := 1059) C (by first | exact hR _ _ | exact hRo _ _ | assumption | exact r_bI _ | exact sv_r _ _ | exact ⟨by omega, by omega⟩) dL_law_1044 (by decide) (fun h2 => ?_) (fun h2 => ?_)
        · refine q_goto (pc := 1059) (tgt := 1169) C dL_law_1059 (by decide) ?_
          refine q_drop 5 (lv2 := [_, _, _, _, _, none, _]) rfl ?_
          refine q_drop 6 (lv2 := [_, _, _, _, _, _, none]) rfl ?_
          exact K σ2 P2 T2 f3
        · have h20 : k = 0 := h2
          refine q_aload_n (pc := 1047) C dL_law_1047 rfl rfl ?_
          refine q_iconst (pc := 1048) C dL_law_1048 ?_
          refine q_laload (pc := 1049) C k232 n232 (by decide) (by decide) (by omega) (by omega) dL_law_1049 ?_
          rw [f2 h20]
          refine q_iload (pc := 1050) C dL_law_1050 rfl ?_
          refine q_i2l (pc := 1052) C (by first | exact hR _ _ | exact hRo _ _ | assumption | exact r_bI _ | exact sv_r _ _ | exact ⟨by omega, by omega⟩) dL_law_1052 ?_
          refine q_lcmp (pc := 1053) (z := 0) C (lg_same _) dL_law_1053 ?_
          refine q_if_eq (pc := 1054) (tgt := 1059) C (by first | exact hR _ _ | exact hRo _ _ | assumption | exact r_bI _ | exact sv_r _ _ | exact ⟨by omega, by omega⟩) dL_law_1054 (by decide) (fun h3 => ?_) (fun h3 => ?_)
          · refine q_goto (pc := 1059) (tgt := 1169) C dL_law_1059 (by decide) ?_
            refine q_drop 5 (lv2 := [_, _, _, _, _, none, _]) rfl ?_
            refine q_drop 6 (lv2 := [_, _, _, _, _, _, none]) rfl ?_
            exact K σ2 P2 T2 f3
          · exact absurd rfl h3
      · exact absurd rfl h1
  refine q_aload_n (pc := 978) C dL_law_978 rfl rfl ?_
  refine q_aload_n (pc := 979) C dL_law_979 rfl rfl ?_
  refine q_iload (pc := 980) C dL_law_980 rfl ?_
  refine q_iconst (pc := 982) C dL_law_982 ?_
  refine q_iadd (pc := 983) C dL_law_983 ?_
  refine q_sld (pc := 984) C hX hbs hBs (by omega) (by omega) dL_law_984 ?_
  refine q_aload_n (pc := 985) C dL_law_985 rfl rfl ?_
  refine q_iload (pc := 986) C dL_law_986 rfl ?_
  refine q_iconst (pc := 988) C dL_law_988 ?_
  refine q_iadd (pc := 989) C dL_law_989 ?_
  refine q_sld (pc := 990) C hX hbs hBs (by omega) (by omega) dL_law_990 ?_
  refine q_if_eq (pc := 991) (tgt := 998) C (by first | exact hR _ _ | exact hRo _ _ | assumption | exact r_bI _ | exact sv_r _ _ | exact ⟨by omega, by omega⟩) dL_law_991 (by decide) (fun h9 => ?_) (fun h9 => ?_)
  · refine q_iconst (pc := 998) C dL_law_998 ?_
    exact MID 0 r_0 (Or.inl ⟨h9, rfl⟩)
  · refine q_iconst (pc := 994) C dL_law_994 ?_
    refine q_goto (pc := 995) (tgt := 999) C dL_law_995 (by decide) ?_
    exact MID 1 ⟨by decide, by decide⟩ (Or.inr ⟨h9, rfl⟩)
set_option maxHeartbeats 4000000 in
set_option maxRecDepth 100000 in
theorem lc_stops {p : Program} {l : Launch} {e : Env} {s : State} {m : MethodId} {below : List Frame} {meth : Method} {c : Code} {D : va_G} {cy : Nat → ClassId} {B b L : Nat} {xs : Nat → Int32} (hlf : l.stackTraces = false) (C : Cx p l s m #[Value.ref b] meth c cL_law 7 RL wsL_law D cy B) (hX : va_X b L xs s s.heap) (hbs : b < s.heap.size) (hBs : B = s.heap.size) (hL : L ≤ 2560) {cells slots : Nat} {Q : State → Prop} {i : Nat} (hi : i + 5 ≤ L) {P T : Nat} {μ : St} (hG : GG μ P T) (hc : cells + 3 ≤ 601024) (hs : slots + 18 ≤ 7293033)
    (K : ∀ (σ : St) (P2 T2 : Nat), GG σ P2 T2 → PW p l e room_1 s m #[Value.ref b] below meth c D cy B 7 (cells + 3) (slots + 18) Q 1169 [some (.ref b), some (.ref (B + 0)), some (.ref (B + 216)), some (.ref (B + 232)), some (iN i), none, none] [] σ) : PW p l e room_1 s m #[Value.ref b] below meth c D cy B 7 cells slots Q 1062 [some (.ref b), some (.ref (B + 0)), some (.ref (B + 216)), some (.ref (B + 232)), some (iN i), none, none] [] μ := by
  have hN := hG.1
  have hM := hG.2.2.2.1
  have h6 := hN.1
  have h8 := hN.2.1
  have hP := hN.2.2.1
  have hT := hN.2.2.2.1
  have hrt := rel_tree hG
  have hrg := rel_graph hG
  obtain ⟨gg, hgg⟩ : ∃ gg : Nat, μ 128 1 = gg := ⟨(μ 128 1).toNat, by omega⟩
  refine q_rng (fun hR => ?_)
  have hRo := hR
  refine q_aload_n (pc := 1062) C dL_law_1062 rfl rfl ?_
  refine q_aload_n (pc := 1063) C dL_law_1063 rfl rfl ?_
  refine q_callSX (pc := 1064) (As := [_, _]) (rest := []) C (w_stops hlf D cy B  (c_stops hlf D cy B (T := T) (g := gg) hgg (by omega) hT h8)) (vx_cwSW 2 C.2.2.2.2.1 gL_law_L_stops rfl rfl rfl (by decide +kernel) ⟨Nat.le_of_ble_eq_true rfl, Nat.le_of_ble_eq_true rfl⟩) rfl rfl (by first | decide | simp [Value.category]) dL_law_1064 ⟨hc, hs⟩ (fun _ _ h => h.elim) (fun v σ1 hv => ?_)
  obtain ⟨k, hk, hkr, hσ, hfin⟩ := fin_stops hG hgg hv
  subst hk
  dsimp only [Option.toList, List.cons_append, List.nil_append]
  have e16 : σ1 216 = μ 216 := hσ 216 (by decide) (by decide)
  refine q_istore (pc := 1067) (lv2 := [_, _, _, _, _, _, _]) C dL_law_1067 (by decide) rfl ?_
  refine q_aload_n (pc := 1069) C dL_law_1069 rfl rfl ?_
  refine q_callV (pc := 1070) (As := []) (rest := []) C (m_stops hlf D cy B (T := T) (by rw [e16]; exact hM.2.1) h8 (by rw [e16]; omega)) (cwV 0 C.2.2.2.2.1 gL_law_X4_stops rfl rfl rfl (by decide +kernel) ⟨Nat.le_of_ble_eq_true rfl, Nat.le_of_ble_eq_true rfl⟩) (ci := 4) rfl k216 (by decide) (by decide) rfl rfl (by first | decide | simp [Value.category]) dL_law_1070 ⟨hc, hs⟩ (fun _ _ h => h.elim) (fun v σ2 hv => ?_)
  obtain ⟨v2, hv2, hv1, hmp⟩ := hv
  subst hv1
  dsimp only [Option.toList, List.cons_append, List.nil_append]
  obtain ⟨f1, f2, P2, T2, f3⟩ := hfin v2 σ2 hmp
  refine q_istore (pc := 1073) (lv2 := [_, _, _, _, _, _, _]) C dL_law_1073 (by decide) rfl ?_
  refine q_aload_n (pc := 1075) C dL_law_1075 rfl rfl ?_
  refine q_callV (pc := 1076) (As := []) (rest := []) C (m_thrown hlf D cy B) (cwV 0 C.2.2.2.2.1 gL_law_X4_thrown rfl rfl rfl (by decide +kernel) ⟨Nat.le_of_ble_eq_true rfl, Nat.le_of_ble_eq_true rfl⟩) (ci := 4) rfl k216 (by decide) (by decide) rfl rfl (by first | decide | simp [Value.category]) dL_law_1076 ⟨hc, hs⟩ (fun _ _ h => h.elim) (fun v μ9 hv => ?_)
  have e8 := hv.1
  have e9 := hv.2.symm
  clear hv
  subst e8
  subst e9
  dsimp only [Option.toList, List.cons_append, List.nil_append]
  rw [f1]
  refine q_iload (pc := 1079) C dL_law_1079 rfl ?_
  refine q_icmp_eq (pc := 1081) (tgt := 1086) C (by first | exact hR _ _ | exact hRo _ _ | assumption | exact r_bI _ | exact sv_r _ _ | exact ⟨by omega, by omega⟩) (by first | exact hR _ _ | exact hRo _ _ | assumption | exact r_bI _ | exact sv_r _ _ | exact ⟨by omega, by omega⟩) dL_law_1081 (by decide) (fun h1 => ?_) (fun h1 => ?_)
  · refine q_iload (pc := 1086) C dL_law_1086 rfl ?_
    refine q_if_ne (pc := 1088) (tgt := 1103) C (by first | exact hR _ _ | exact hRo _ _ | assumption | exact r_bI _ | exact sv_r _ _ | exact ⟨by omega, by omega⟩) dL_law_1088 (by decide) (fun h2 => ?_) (fun h2 => ?_)
    · refine q_goto (pc := 1103) (tgt := 1169) C dL_law_1103 (by decide) ?_
      refine q_drop 5 (lv2 := [_, _, _, _, _, none, _]) rfl ?_
      refine q_drop 6 (lv2 := [_, _, _, _, _, _, none]) rfl ?_
      exact K σ2 P2 T2 f3
    · have h20 : k = 0 := h2
      refine q_aload_n (pc := 1091) C dL_law_1091 rfl rfl ?_
      refine q_iconst (pc := 1092) C dL_law_1092 ?_
      refine q_laload (pc := 1093) C k232 n232 (by decide) (by decide) (by omega) (by omega) dL_law_1093 ?_
      rw [f2 h20]
      refine q_iload (pc := 1094) C dL_law_1094 rfl ?_
      refine q_i2l (pc := 1096) C (by first | exact hR _ _ | exact hRo _ _ | assumption | exact r_bI _ | exact sv_r _ _ | exact ⟨by omega, by omega⟩) dL_law_1096 ?_
      refine q_lcmp (pc := 1097) (z := 0) C (lg_same _) dL_law_1097 ?_
      refine q_if_eq (pc := 1098) (tgt := 1103) C (by first | exact hR _ _ | exact hRo _ _ | assumption | exact r_bI _ | exact sv_r _ _ | exact ⟨by omega, by omega⟩) dL_law_1098 (by decide) (fun h3 => ?_) (fun h3 => ?_)
      · refine q_goto (pc := 1103) (tgt := 1169) C dL_law_1103 (by decide) ?_
        refine q_drop 5 (lv2 := [_, _, _, _, _, none, _]) rfl ?_
        refine q_drop 6 (lv2 := [_, _, _, _, _, _, none]) rfl ?_
        exact K σ2 P2 T2 f3
      · exact absurd rfl h3
  · exact absurd rfl h1
set_option maxHeartbeats 4000000 in
set_option maxRecDepth 100000 in
theorem lc_live {p : Program} {l : Launch} {e : Env} {s : State} {m : MethodId} {below : List Frame} {meth : Method} {c : Code} {D : va_G} {cy : Nat → ClassId} {B b L : Nat} {xs : Nat → Int32} (hlf : l.stackTraces = false) (C : Cx p l s m #[Value.ref b] meth c cL_law 7 RL wsL_law D cy B) (hX : va_X b L xs s s.heap) (hbs : b < s.heap.size) (hBs : B = s.heap.size) (hL : L ≤ 2560) {cells slots : Nat} {Q : State → Prop} {i : Nat} (hi : i + 5 ≤ L) {P T : Nat} {μ : St} (hG : GG μ P T) (hc : cells + 3 ≤ 601024) (hs : slots + 18 ≤ 7293033)
    (K : ∀ (σ : St) (P2 T2 : Nat), GG σ P2 T2 → PW p l e room_1 s m #[Value.ref b] below meth c D cy B 7 (cells + 3) (slots + 18) Q 1169 [some (.ref b), some (.ref (B + 0)), some (.ref (B + 216)), some (.ref (B + 232)), some (iN i), none, none] [] σ) : PW p l e room_1 s m #[Value.ref b] below meth c D cy B 7 cells slots Q 1106 [some (.ref b), some (.ref (B + 0)), some (.ref (B + 216)), some (.ref (B + 232)), some (iN i), none, none] [] μ := by
  have hN := hG.1
  have hM := hG.2.2.2.1
  have h6 := hN.1
  have h8 := hN.2.1
  have hP := hN.2.2.1
  have hT := hN.2.2.2.1
  have hrt := rel_tree hG
  have hrg := rel_graph hG
  obtain ⟨gg, hgg⟩ : ∃ gg : Nat, μ 128 1 = gg := ⟨(μ 128 1).toNat, by omega⟩
  refine q_rng (fun hR => ?_)
  have hRo := hR
  refine q_aload_n (pc := 1106) C dL_law_1106 rfl rfl ?_
  refine q_aload_n (pc := 1107) C dL_law_1107 rfl rfl ?_
  refine q_iload (pc := 1108) C dL_law_1108 rfl ?_
  refine q_iconst (pc := 1110) C dL_law_1110 ?_
  refine q_iadd (pc := 1111) C dL_law_1111 ?_
  refine q_sld (pc := 1112) C hX hbs hBs (by omega) (by omega) dL_law_1112 ?_
  refine q_aload_n (pc := 1113) C dL_law_1113 rfl rfl ?_
  refine q_callSX (pc := 1114) (As := [_, _, _]) (rest := []) C (w_live hlf D cy B (sv_r xs _) (c_live hlf D cy B (T := T) (g := gg) (t := (sv xs ((i : Int) + 1))) (sv_r xs _) hgg (by omega) hT h8 (zz_ah hG hgg))) (vx_cwSW 3 C.2.2.2.2.1 gL_law_L_live rfl rfl rfl (by decide +kernel) ⟨Nat.le_of_ble_eq_true rfl, Nat.le_of_ble_eq_true rfl⟩) rfl rfl (by first | decide | simp [Value.category]) dL_law_1114 ⟨hc, hs⟩ (fun _ _ h => h.elim) (fun v σ1 hv => ?_)
  obtain ⟨k, hk, hkr, hσ, hfin⟩ := fin_live hG hgg hv
  subst hk
  dsimp only [Option.toList, List.cons_append, List.nil_append]
  have e16 : σ1 216 = μ 216 := hσ 216 (by decide) (by decide)
  refine q_istore (pc := 1117) (lv2 := [_, _, _, _, _, _, _]) C dL_law_1117 (by decide) rfl ?_
  refine q_aload_n (pc := 1119) C dL_law_1119 rfl rfl ?_
  refine q_aload_n (pc := 1120) C dL_law_1120 rfl rfl ?_
  refine q_iload (pc := 1121) C dL_law_1121 rfl ?_
  refine q_iconst (pc := 1123) C dL_law_1123 ?_
  refine q_iadd (pc := 1124) C dL_law_1124 ?_
  refine q_sld (pc := 1125) C hX hbs hBs (by omega) (by omega) dL_law_1125 ?_
  refine q_callV (pc := 1126) (As := [_]) (rest := []) C (m_live hlf D cy B (T := T) (t := (sv xs ((i : Int) + 1))) (sv_r xs _) (by rw [e16]; exact hM.2.1) h8 (by rw [e16]; omega) (zz_live hG hσ)) (cwV 1 C.2.2.2.2.1 gL_law_X4_live rfl rfl rfl (by decide +kernel) ⟨Nat.le_of_ble_eq_true rfl, Nat.le_of_ble_eq_true rfl⟩) (ci := 4) rfl k216 (by decide) (by decide) rfl rfl (by first | decide | simp [Value.category]) dL_law_1126 ⟨hc, hs⟩ (fun _ _ h => h.elim) (fun v σ2 hv => ?_)
  obtain ⟨v2, hv2, hv1, hmp⟩ := hv
  subst hv1
  dsimp only [Option.toList, List.cons_append, List.nil_append]
  obtain ⟨f1, f2, P2, T2, f3⟩ := hfin v2 σ2 hmp
  refine q_istore (pc := 1129) (lv2 := [_, _, _, _, _, _, _]) C dL_law_1129 (by decide) rfl ?_
  refine q_aload_n (pc := 1131) C dL_law_1131 rfl rfl ?_
  refine q_callV (pc := 1132) (As := []) (rest := []) C (m_thrown hlf D cy B) (cwV 0 C.2.2.2.2.1 gL_law_X4_thrown rfl rfl rfl (by decide +kernel) ⟨Nat.le_of_ble_eq_true rfl, Nat.le_of_ble_eq_true rfl⟩) (ci := 4) rfl k216 (by decide) (by decide) rfl rfl (by first | decide | simp [Value.category]) dL_law_1132 ⟨hc, hs⟩ (fun _ _ h => h.elim) (fun v μ9 hv => ?_)
  have e8 := hv.1
  have e9 := hv.2.symm
  clear hv
  subst e8
  subst e9
  dsimp only [Option.toList, List.cons_append, List.nil_append]
  rw [f1]
  refine q_iload (pc := 1135) C dL_law_1135 rfl ?_
  refine q_icmp_eq (pc := 1137) (tgt := 1142) C (by first | exact hR _ _ | exact hRo _ _ | assumption | exact r_bI _ | exact sv_r _ _ | exact ⟨by omega, by omega⟩) (by first | exact hR _ _ | exact hRo _ _ | assumption | exact r_bI _ | exact sv_r _ _ | exact ⟨by omega, by omega⟩) dL_law_1137 (by decide) (fun h1 => ?_) (fun h1 => ?_)
  · refine q_iload (pc := 1142) C dL_law_1142 rfl ?_
    refine q_if_ne (pc := 1144) (tgt := 1166) C (by first | exact hR _ _ | exact hRo _ _ | assumption | exact r_bI _ | exact sv_r _ _ | exact ⟨by omega, by omega⟩) dL_law_1144 (by decide) (fun h2 => ?_) (fun h2 => ?_)
    · refine q_goto (pc := 1166) (tgt := 1169) C dL_law_1166 (by decide) ?_
      refine q_drop 5 (lv2 := [_, _, _, _, _, none, _]) rfl ?_
      refine q_drop 6 (lv2 := [_, _, _, _, _, _, none]) rfl ?_
      exact K σ2 P2 T2 f3
    · have h20 : k = 0 := h2
      refine q_aload_n (pc := 1147) C dL_law_1147 rfl rfl ?_
      refine q_iconst (pc := 1148) C dL_law_1148 ?_
      refine q_laload (pc := 1149) C k232 n232 (by decide) (by decide) (by omega) (by omega) dL_law_1149 ?_
      rw [f2 h20]
      have hv01 : v2 = 0 ∨ v2 = 1 := by
        rcases hmp with ⟨d1, hτ⟩ | ⟨d1, d2, hτ⟩ | ⟨d1, d2, hτ, dv, dv2⟩
        · rw [hτ, updS_self] at f1; omega
        · rw [hτ, updS_self] at f1; omega
        · exact dv
      refine q_iload (pc := 1150) C dL_law_1150 rfl ?_
      refine q_if_eq (pc := 1152) (tgt := 1159) C (by first | exact hR _ _ | exact hRo _ _ | assumption | exact r_bI _ | exact sv_r _ _ | exact ⟨by omega, by omega⟩) dL_law_1152 (by decide) (fun h4 => ?_) (fun h4 => ?_)
      · subst h4
        refine q_lconst (pc := 1159) (k := 0) C (by decide +kernel) dL_law_1159 ?_
        refine q_lcmp (pc := 1160) (z := 0) C (lg_same _) dL_law_1160 ?_
        refine q_if_eq (pc := 1161) (tgt := 1166) C (by first | exact hR _ _ | exact hRo _ _ | assumption | exact r_bI _ | exact sv_r _ _ | exact ⟨by omega, by omega⟩) dL_law_1161 (by decide) (fun h3 => ?_) (fun h3 => ?_)
        · refine q_goto (pc := 1166) (tgt := 1169) C dL_law_1166 (by decide) ?_
          refine q_drop 5 (lv2 := [_, _, _, _, _, none, _]) rfl ?_
          refine q_drop 6 (lv2 := [_, _, _, _, _, _, none]) rfl ?_
          exact K σ2 P2 T2 f3
        · exact absurd rfl h3
      · have h41 : v2 = 1 := by omega
        subst h41
        refine q_lconst (pc := 1155) (k := 1) C (by decide +kernel) dL_law_1155 ?_
        refine q_goto (pc := 1156) (tgt := 1160) C dL_law_1156 (by decide) ?_
        refine q_lcmp (pc := 1160) (z := 0) C (lg_same _) dL_law_1160 ?_
        refine q_if_eq (pc := 1161) (tgt := 1166) C (by first | exact hR _ _ | exact hRo _ _ | assumption | exact r_bI _ | exact sv_r _ _ | exact ⟨by omega, by omega⟩) dL_law_1161 (by decide) (fun h3 => ?_) (fun h3 => ?_)
        · refine q_goto (pc := 1166) (tgt := 1169) C dL_law_1166 (by decide) ?_
          refine q_drop 5 (lv2 := [_, _, _, _, _, none, _]) rfl ?_
          refine q_drop 6 (lv2 := [_, _, _, _, _, _, none]) rfl ?_
          exact K σ2 P2 T2 f3
        · exact absurd rfl h3
  · exact absurd rfl h1

