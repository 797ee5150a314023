def wp1 (x1 : St → Prop) (f : Int → St → Prop) : Option Value → St → Prop := fun r μ2 => (r = some (iN 1) ∧ x1 μ2) ∨ (r = some (iN 0) ∧ ∃ (v : Int) (μ3 : St), InR v ∧ f v μ3 ∧ μ2 = updS μ3 232 0 v)
def wp2 (x1 x2 : St → Prop) (f : Int → St → Prop) : Option Value → St → Prop := fun r μ2 => (r = some (iN 1) ∧ x1 μ2) ∨ (r = some (iN 2) ∧ x2 μ2) ∨ (r = some (iN 0) ∧ ∃ (v : Int) (μ3 : St), InR v ∧ f v μ3 ∧ μ2 = updS μ3 232 0 v)
def wn2 (x1 x2 : St → Prop) (f : St → Prop) : Option Value → St → Prop := fun r μ2 => (r = some (iN 1) ∧ x1 μ2) ∨ (r = some (iN 2) ∧ x2 μ2) ∨ (r = some (iN 0) ∧ f μ2)
def wz1 (x1 : St → Prop) (f : Int → St → Prop) : Option Value → St → Prop := fun r μ2 => (r = some (iN 1) ∧ x1 μ2) ∨ (r = some (iN 0) ∧ ∃ (v : Int) (μ3 : St), InR v ∧ f v μ3 ∧ μ2 = updS μ3 232 0 (if v = 0 then 0 else 1))
def wz2 (x1 x2 : St → Prop) (f : Int → St → Prop) : Option Value → St → Prop := fun r μ2 => (r = some (iN 1) ∧ x1 μ2) ∨ (r = some (iN 2) ∧ x2 μ2) ∨ (r = some (iN 0) ∧ ∃ (v : Int) (μ3 : St), InR v ∧ f v μ3 ∧ μ2 = updS μ3 232 0 (if v = 0 then 0 else 1))
set_option maxHeartbeats 4000000 in
set_option maxRecDepth 100000 in
theorem w_place {l : Launch} (hlf : l.stackTraces = false) (D : va_G) (cy : Nat → ClassId) (B : Nat) {μ : St} {a0 : Int} (ha0 : InR a0) {x1 x2 : St → Prop} {f : Int → St → Prop} (h : PC l D cy B yX3_place wsX3_place (rk 3 7) [.ref (B + 0), iN a0] μ (qv f) (ex2 sIA x1 sIS x2)) : PC l D cy B yL_place wsL_place ((rk 3 8)) [.ref (B + 0), iN a0, .ref (B + 232)] μ (wp2 x1 x2 f) noX := by
  refine PC.pre (fun hR => ?_)
  refine q_startH (cc := cL_place) (maxL := 4) (ret := (some .int)) (hh := [(0, 9, 12, 13), (0, 9, 15, 15)]) hlf (by decide +kernel) rfl (by simp [Value.category]) (Nat.le_of_ble_eq_true rfl) ?_
  intro p e s m args below meth c C hret hex
  show PW p l e ((rk 3 8)) s m args below meth c D cy B 4 0 0 _ 0 [some (.ref (B + 0)), some (iN a0), some (.ref (B + 232)), none] [] μ
  refine q_aload_n (pc := 0) C dL_place_0 rfl rfl ?_
  refine q_iconst (pc := 1) C dL_place_1 ?_
  refine q_aload_n (pc := 2) C dL_place_2 rfl rfl ?_
  refine q_iload_n (pc := 3) C dL_place_3 rfl rfl ?_
  refine q_callV (pc := 4) (As := [_]) (rest := [_, _]) C h (cwV 1 C.2.2.2.2.1 gL_place_X3_place rfl rfl rfl (by decide +kernel) ⟨Nat.le_of_ble_eq_true rfl, Nat.le_of_ble_eq_true rfl⟩) (ci := 3) rfl k0 (by decide) (by decide) rfl rfl (by first | decide | simp [Value.category]) dL_place_4 (by decide) (fun E μ8 hx => ?_) (fun v σ9 hv => ?_)
  · rcases hx with ⟨e, hx⟩ | ⟨e, hx⟩
    · refine q_catch (name := sIA) C [] ⟨0, 9, 12, 13⟩ [⟨0, 9, 15, 15⟩] hex (fun z hz => absurd hz List.not_mem_nil) (by decide) (by decide) (by decide +kernel) e (by rw [e]; decide) (fun q => ?_)
      refine q_astore_n (pc := 12) (lv2 := [_, _, _, _]) C dL_place_12 rfl (by decide) rfl ?_
      refine q_iconst (pc := 13) C dL_place_13 ?_
      exact q_iret (pc := 14) C hret (Or.inl ⟨rfl, hx⟩) (by decide) (by decide) dL_place_14
    · refine q_catch (name := sIS) C [⟨0, 9, 12, 13⟩] ⟨0, 9, 15, 15⟩ [] hex (fun z hz => by rw [List.mem_singleton.mp hz]; exact Or.inr ⟨by decide, sIA, by decide +kernel, by rw [e]; decide⟩) (by decide) (by decide) (by decide +kernel) e (by rw [e]; decide) (fun q => ?_)
      refine q_astore_n (pc := 15) (lv2 := [_, _, _, _]) C dL_place_15 rfl (by decide) rfl ?_
      refine q_iconst (pc := 16) C dL_place_16 ?_
      exact q_iret (pc := 17) C hret (Or.inr (Or.inl ⟨rfl, hx⟩)) (by decide) (by decide) dL_place_17
  · obtain ⟨v9, hv9, hv1, hv2⟩ := hv
    subst hv1
    dsimp only [Option.toList, List.cons_append, List.nil_append]
    refine q_i2l (pc := 7) C (by first | exact hR _ _ | exact hRo _ _ | assumption | exact r_bI _ | exact ⟨by omega, by omega⟩) dL_place_7 ?_
    refine q_lastore (pc := 8) C k232 n232 (by decide) (by decide) (by omega) (by omega) (by first | exact hR _ _ | exact hRo _ _ | assumption | exact r_bI _ | exact ⟨by omega, by omega⟩) dL_place_8 ?_
    refine q_goto (pc := 9) (tgt := 18) C dL_place_9 (by decide) ?_
    refine q_iconst (pc := 18) C dL_place_18 ?_
    exact q_iret (pc := 19) C hret (Or.inr (Or.inr ⟨rfl, v9, σ9, hv9, hv2, rfl⟩)) (by decide) (by decide) dL_place_19
set_option maxHeartbeats 4000000 in
set_option maxRecDepth 100000 in
theorem w_transition {l : Launch} (hlf : l.stackTraces = false) (D : va_G) (cy : Nat → ClassId) (B : Nat) {μ : St} {x1 : St → Prop} {f : Int → St → Prop} (h : PC l D cy B yX3_transition wsX3_transition (rk 3 7) [.ref (B + 0)] μ (qv f) (ex1 sIS x1)) : PC l D cy B yL_transition wsL_transition ((rk 3 8)) [.ref (B + 0), .ref (B + 232)] μ (wp1 x1 f) noX := by
  refine PC.pre (fun hR => ?_)
  refine q_startH (cc := cL_transition) (maxL := 3) (ret := (some .int)) (hh := [(0, 8, 11, 15)]) hlf (by decide +kernel) rfl (by simp [Value.category]) (Nat.le_of_ble_eq_true rfl) ?_
  intro p e s m args below meth c C hret hex
  show PW p l e ((rk 3 8)) s m args below meth c D cy B 3 0 0 _ 0 [some (.ref (B + 0)), some (.ref (B + 232)), none] [] μ
  refine q_aload_n (pc := 0) C dL_transition_0 rfl rfl ?_
  refine q_iconst (pc := 1) C dL_transition_1 ?_
  refine q_aload_n (pc := 2) C dL_transition_2 rfl rfl ?_
  refine q_callV (pc := 3) (As := []) (rest := [_, _]) C h (cwV 0 C.2.2.2.2.1 gL_transition_X3_transition rfl rfl rfl (by decide +kernel) ⟨Nat.le_of_ble_eq_true rfl, Nat.le_of_ble_eq_true rfl⟩) (ci := 3) rfl k0 (by decide) (by decide) rfl rfl (by first | decide | simp [Value.category]) dL_transition_3 (by decide) (fun E μ8 hx => ?_) (fun v σ9 hv => ?_)
  · obtain ⟨e, hx⟩ := hx
    refine q_catch (name := sIS) C [] ⟨0, 8, 11, 15⟩ [] hex (fun z hz => absurd hz List.not_mem_nil) (by decide) (by decide) (by decide +kernel) e (by rw [e]; decide) (fun q => ?_)
    refine q_astore_n (pc := 11) (lv2 := [_, _, _]) C dL_transition_11 rfl (by decide) rfl ?_
    refine q_iconst (pc := 12) C dL_transition_12 ?_
    exact q_iret (pc := 13) C hret (Or.inl ⟨rfl, hx⟩) (by decide) (by decide) dL_transition_13
  · obtain ⟨v9, hv9, hv1, hv2⟩ := hv
    subst hv1
    dsimp only [Option.toList, List.cons_append, List.nil_append]
    refine q_i2l (pc := 6) C (by first | exact hR _ _ | exact hRo _ _ | assumption | exact r_bI _ | exact ⟨by omega, by omega⟩) dL_transition_6 ?_
    refine q_lastore (pc := 7) C k232 n232 (by decide) (by decide) (by omega) (by omega) (by first | exact hR _ _ | exact hRo _ _ | assumption | exact r_bI _ | exact ⟨by omega, by omega⟩) dL_transition_7 ?_
    refine q_goto (pc := 8) (tgt := 14) C dL_transition_8 (by decide) ?_
    refine q_iconst (pc := 14) C dL_transition_14 ?_
    exact q_iret (pc := 15) C hret (Or.inr ⟨rfl, v9, σ9, hv9, hv2, rfl⟩) (by decide) (by decide) dL_transition_15
set_option maxHeartbeats 4000000 in
set_option maxRecDepth 100000 in
theorem w_arc {l : Launch} (hlf : l.stackTraces = false) (D : va_G) (cy : Nat → ClassId) (B : Nat) {μ : St} {a0 : Int} (ha0 : InR a0) {a1 : Int} (ha1 : InR a1) {a2 : Int} (ha2 : InR a2) {a3 : Int} (ha3 : InR a3) {x1 x2 : St → Prop} {f : Int → St → Prop} (h : PC l D cy B yX3_arc wsX3_arc (rk 3 7) [.ref (B + 0), iN a0, iN a1, iN a2, iN a3] μ (qv f) (ex2 sIO x1 sIA x2)) : PC l D cy B yL_arc wsL_arc ((rk 3 8)) [.ref (B + 0), iN a0, iN a1, iN a2, iN a3, .ref (B + 232)] μ (wp2 x1 x2 f) noX := by
  refine PC.pre (fun hR => ?_)
  refine q_startH (cc := cL_arc) (maxL := 7) (ret := (some .int)) (hh := [(0, 14, 17, 25), (0, 14, 21, 13)]) hlf (by decide +kernel) rfl (by simp [Value.category]) (Nat.le_of_ble_eq_true rfl) ?_
  intro p e s m args below meth c C hret hex
  show PW p l e ((rk 3 8)) s m args below meth c D cy B 7 0 0 _ 0 [some (.ref (B + 0)), some (iN a0), some (iN a1), some (iN a2), some (iN a3), some (.ref (B + 232)), none] [] μ
  refine q_aload (pc := 0) C dL_arc_0 rfl ?_
  refine q_iconst (pc := 2) C dL_arc_2 ?_
  refine q_aload_n (pc := 3) C dL_arc_3 rfl rfl ?_
  refine q_iload_n (pc := 4) C dL_arc_4 rfl rfl ?_
  refine q_iload_n (pc := 5) C dL_arc_5 rfl rfl ?_
  refine q_iload_n (pc := 6) C dL_arc_6 rfl rfl ?_
  refine q_iload (pc := 7) C dL_arc_7 rfl ?_
  refine q_callV (pc := 9) (As := [_, _, _, _]) (rest := [_, _]) C h (cwV 4 C.2.2.2.2.1 gL_arc_X3_arc rfl rfl rfl (by decide +kernel) ⟨Nat.le_of_ble_eq_true rfl, Nat.le_of_ble_eq_true rfl⟩) (ci := 3) rfl k0 (by decide) (by decide) rfl rfl (by first | decide | simp [Value.category]) dL_arc_9 (by decide) (fun E μ8 hx => ?_) (fun v σ9 hv => ?_)
  · rcases hx with ⟨e, hx⟩ | ⟨e, hx⟩
    · refine q_catch (name := sIO) C [] ⟨0, 14, 17, 25⟩ [⟨0, 14, 21, 13⟩] hex (fun z hz => absurd hz List.not_mem_nil) (by decide) (by decide) (by decide +kernel) e (by rw [e]; decide) (fun q => ?_)
      refine q_astore (pc := 17) (lv2 := [_, _, _, _, _, _, _]) C dL_arc_17 (by decide) rfl ?_
      refine q_iconst (pc := 19) C dL_arc_19 ?_
      exact q_iret (pc := 20) C hret (Or.inl ⟨rfl, hx⟩) (by decide) (by decide) dL_arc_20
    · refine q_catch (name := sIA) C [⟨0, 14, 17, 25⟩] ⟨0, 14, 21, 13⟩ [] hex (fun z hz => by rw [List.mem_singleton.mp hz]; exact Or.inr ⟨by decide, sIO, by decide +kernel, by rw [e]; decide⟩) (by decide) (by decide) (by decide +kernel) e (by rw [e]; decide) (fun q => ?_)
      refine q_astore (pc := 21) (lv2 := [_, _, _, _, _, _, _]) C dL_arc_21 (by decide) rfl ?_
      refine q_iconst (pc := 23) C dL_arc_23 ?_
      exact q_iret (pc := 24) C hret (Or.inr (Or.inl ⟨rfl, hx⟩)) (by decide) (by decide) dL_arc_24
  · obtain ⟨v9, hv9, hv1, hv2⟩ := hv
    subst hv1
    dsimp only [Option.toList, List.cons_append, List.nil_append]
    refine q_i2l (pc := 12) C (by first | exact hR _ _ | exact hRo _ _ | assumption | exact r_bI _ | exact ⟨by omega, by omega⟩) dL_arc_12 ?_
    refine q_lastore (pc := 13) C k232 n232 (by decide) (by decide) (by omega) (by omega) (by first | exact hR _ _ | exact hRo _ _ | assumption | exact r_bI _ | exact ⟨by omega, by omega⟩) dL_arc_13 ?_
    refine q_goto (pc := 14) (tgt := 25) C dL_arc_14 (by decide) ?_
    refine q_iconst (pc := 25) C dL_arc_25 ?_
    exact q_iret (pc := 26) C hret (Or.inr (Or.inr ⟨rfl, v9, σ9, hv9, hv2, rfl⟩)) (by decide) (by decide) dL_arc_26
set_option maxHeartbeats 4000000 in
set_option maxRecDepth 100000 in
theorem w_tokens {l : Launch} (hlf : l.stackTraces = false) (D : va_G) (cy : Nat → ClassId) (B : Nat) {μ : St} {a0 : Int} (ha0 : InR a0) {a1 : Int} (ha1 : InR a1) {x1 x2 : St → Prop} {f : St → Prop} (h : PC l D cy B yX3_tokens wsX3_tokens (rk 3 7) [.ref (B + 0), iN a0, iN a1] μ (qn f) (ex2 sIO x1 sIA x2)) : PC l D cy B yL_tokens wsL_tokens ((rk 3 8)) [.ref (B + 0), iN a0, iN a1] μ (wn2 x1 x2 f) noX := by
  refine PC.pre (fun hR => ?_)
  refine q_startH (cc := cL_tokens) (maxL := 4) (ret := (some .int)) (hh := [(0, 6, 9, 25), (0, 6, 12, 13)]) hlf (by decide +kernel) rfl (by simp [Value.category]) (Nat.le_of_ble_eq_true rfl) ?_
  intro p e s m args below meth c C hret hex
  show PW p l e ((rk 3 8)) s m args below meth c D cy B 4 0 0 _ 0 [some (.ref (B + 0)), some (iN a0), some (iN a1), none] [] μ
  refine q_aload_n (pc := 0) C dL_tokens_0 rfl rfl ?_
  refine q_iload_n (pc := 1) C dL_tokens_1 rfl rfl ?_
  refine q_iload_n (pc := 2) C dL_tokens_2 rfl rfl ?_
  refine q_callV (pc := 3) (As := [_, _]) (rest := []) C h (cwV 2 C.2.2.2.2.1 gL_tokens_X3_tokens rfl rfl rfl (by decide +kernel) ⟨Nat.le_of_ble_eq_true rfl, Nat.le_of_ble_eq_true rfl⟩) (ci := 3) rfl k0 (by decide) (by decide) rfl rfl (by first | decide | simp [Value.category]) dL_tokens_3 (by decide) (fun E μ8 hx => ?_) (fun v σ9 hv => ?_)
  · rcases hx with ⟨e, hx⟩ | ⟨e, hx⟩
    · refine q_catch (name := sIO) C [] ⟨0, 6, 9, 25⟩ [⟨0, 6, 12, 13⟩] hex (fun z hz => absurd hz List.not_mem_nil) (by decide) (by decide) (by decide +kernel) e (by rw [e]; decide) (fun q => ?_)
      refine q_astore_n (pc := 9) (lv2 := [_, _, _, _]) C dL_tokens_9 rfl (by decide) rfl ?_
      refine q_iconst (pc := 10) C dL_tokens_10 ?_
      exact q_iret (pc := 11) C hret (Or.inl ⟨rfl, hx⟩) (by decide) (by decide) dL_tokens_11
    · refine q_catch (name := sIA) C [⟨0, 6, 9, 25⟩] ⟨0, 6, 12, 13⟩ [] hex (fun z hz => by rw [List.mem_singleton.mp hz]; exact Or.inr ⟨by decide, sIO, by decide +kernel, by rw [e]; decide⟩) (by decide) (by decide) (by decide +kernel) e (by rw [e]; decide) (fun q => ?_)
      refine q_astore_n (pc := 12) (lv2 := [_, _, _, _]) C dL_tokens_12 rfl (by decide) rfl ?_
      refine q_iconst (pc := 13) C dL_tokens_13 ?_
      exact q_iret (pc := 14) C hret (Or.inr (Or.inl ⟨rfl, hx⟩)) (by decide) (by decide) dL_tokens_14
  · obtain ⟨hv1, hv2⟩ := hv
    subst hv1
    dsimp only [Option.toList, List.cons_append, List.nil_append]
    refine q_goto (pc := 6) (tgt := 15) C dL_tokens_6 (by decide) ?_
    refine q_iconst (pc := 15) C dL_tokens_15 ?_
    exact q_iret (pc := 16) C hret (Or.inr (Or.inr ⟨rfl, hv2⟩)) (by decide) (by decide) dL_tokens_16
set_option maxHeartbeats 4000000 in
set_option maxRecDepth 100000 in
theorem w_explore {l : Launch} (hlf : l.stackTraces = false) (D : va_G) (cy : Nat → ClassId) (B : Nat) {μ : St} {x1 : St → Prop} {f : Int → St → Prop} (h : PC l D cy B yX3_explore wsX3_explore (rk 3 7) [.ref (B + 0)] μ (qv f) (ex1 sUO x1)) : PC l D cy B yL_explore wsL_explore ((rk 3 8)) [.ref (B + 0), .ref (B + 232)] μ (wp1 x1 f) noX := by
  refine PC.pre (fun hR => ?_)
  refine q_startH (cc := cL_explore) (maxL := 3) (ret := (some .int)) (hh := [(0, 8, 11, 34)]) hlf (by decide +kernel) rfl (by simp [Value.category]) (Nat.le_of_ble_eq_true rfl) ?_
  intro p e s m args below meth c C hret hex
  show PW p l e ((rk 3 8)) s m args below meth c D cy B 3 0 0 _ 0 [some (.ref (B + 0)), some (.ref (B + 232)), none] [] μ
  refine q_aload_n (pc := 0) C dL_explore_0 rfl rfl ?_
  refine q_iconst (pc := 1) C dL_explore_1 ?_
  refine q_aload_n (pc := 2) C dL_explore_2 rfl rfl ?_
  refine q_callV (pc := 3) (As := []) (rest := [_, _]) C h (cwV 0 C.2.2.2.2.1 gL_explore_X3_explore rfl rfl rfl (by decide +kernel) ⟨Nat.le_of_ble_eq_true rfl, Nat.le_of_ble_eq_true rfl⟩) (ci := 3) rfl k0 (by decide) (by decide) rfl rfl (by first | decide | simp [Value.category]) dL_explore_3 (by decide) (fun E μ8 hx => ?_) (fun v σ9 hv => ?_)
  · obtain ⟨e, hx⟩ := hx
    refine q_catch (name := sUO) C [] ⟨0, 8, 11, 34⟩ [] hex (fun z hz => absurd hz List.not_mem_nil) (by decide) (by decide) (by decide +kernel) e (by rw [e]; decide) (fun q => ?_)
    refine q_astore_n (pc := 11) (lv2 := [_, _, _]) C dL_explore_11 rfl (by decide) rfl ?_
    refine q_iconst (pc := 12) C dL_explore_12 ?_
    exact q_iret (pc := 13) C hret (Or.inl ⟨rfl, hx⟩) (by decide) (by decide) dL_explore_13
  · obtain ⟨v9, hv9, hv1, hv2⟩ := hv
    subst hv1
    dsimp only [Option.toList, List.cons_append, List.nil_append]
    refine q_i2l (pc := 6) C (by first | exact hR _ _ | exact hRo _ _ | assumption | exact r_bI _ | exact ⟨by omega, by omega⟩) dL_explore_6 ?_
    refine q_lastore (pc := 7) C k232 n232 (by decide) (by decide) (by omega) (by omega) (by first | exact hR _ _ | exact hRo _ _ | assumption | exact r_bI _ | exact ⟨by omega, by omega⟩) dL_explore_7 ?_
    refine q_goto (pc := 8) (tgt := 14) C dL_explore_8 (by decide) ?_
    refine q_iconst (pc := 14) C dL_explore_14 ?_
    exact q_iret (pc := 15) C hret (Or.inr ⟨rfl, v9, σ9, hv9, hv2, rfl⟩) (by decide) (by decide) dL_explore_15
set_option maxHeartbeats 4000000 in
set_option maxRecDepth 100000 in
theorem w_count {l : Launch} (hlf : l.stackTraces = false) (D : va_G) (cy : Nat → ClassId) (B : Nat) {μ : St} {a0 : Int} (ha0 : InR a0) {a1 : Int} (ha1 : InR a1) {x1 x2 : St → Prop} {f : Int → St → Prop} (h : PC l D cy B yX3_count wsX3_count (rk 3 7) [.ref (B + 0), iN a0, iN a1] μ (qv f) (ex2 sIS x1 sIO x2)) : PC l D cy B yL_count wsL_count ((rk 3 8)) [.ref (B + 0), iN a0, iN a1, .ref (B + 232)] μ (wp2 x1 x2 f) noX := by
  refine PC.pre (fun hR => ?_)
  refine q_startH (cc := cL_count) (maxL := 5) (ret := (some .int)) (hh := [(0, 10, 13, 15), (0, 10, 17, 25)]) hlf (by decide +kernel) rfl (by simp [Value.category]) (Nat.le_of_ble_eq_true rfl) ?_
  intro p e s m args below meth c C hret hex
  show PW p l e ((rk 3 8)) s m args below meth c D cy B 5 0 0 _ 0 [some (.ref (B + 0)), some (iN a0), some (iN a1), some (.ref (B + 232)), none] [] μ
  refine q_aload_n (pc := 0) C dL_count_0 rfl rfl ?_
  refine q_iconst (pc := 1) C dL_count_1 ?_
  refine q_aload_n (pc := 2) C dL_count_2 rfl rfl ?_
  refine q_iload_n (pc := 3) C dL_count_3 rfl rfl ?_
  refine q_iload_n (pc := 4) C dL_count_4 rfl rfl ?_
  refine q_callV (pc := 5) (As := [_, _]) (rest := [_, _]) C h (cwV 2 C.2.2.2.2.1 gL_count_X3_count rfl rfl rfl (by decide +kernel) ⟨Nat.le_of_ble_eq_true rfl, Nat.le_of_ble_eq_true rfl⟩) (ci := 3) rfl k0 (by decide) (by decide) rfl rfl (by first | decide | simp [Value.category]) dL_count_5 (by decide) (fun E μ8 hx => ?_) (fun v σ9 hv => ?_)
  · rcases hx with ⟨e, hx⟩ | ⟨e, hx⟩
    · refine q_catch (name := sIS) C [] ⟨0, 10, 13, 15⟩ [⟨0, 10, 17, 25⟩] hex (fun z hz => absurd hz List.not_mem_nil) (by decide) (by decide) (by decide +kernel) e (by rw [e]; decide) (fun q => ?_)
      refine q_astore (pc := 13) (lv2 := [_, _, _, _, _]) C dL_count_13 (by decide) rfl ?_
      refine q_iconst (pc := 15) C dL_count_15 ?_
      exact q_iret (pc := 16) C hret (Or.inl ⟨rfl, hx⟩) (by decide) (by decide) dL_count_16
    · refine q_catch (name := sIO) C [⟨0, 10, 13, 15⟩] ⟨0, 10, 17, 25⟩ [] hex (fun z hz => by rw [List.mem_singleton.mp hz]; exact Or.inr ⟨by decide, sIS, by decide +kernel, by rw [e]; decide⟩) (by decide) (by decide) (by decide +kernel) e (by rw [e]; decide) (fun q => ?_)
      refine q_astore (pc := 17) (lv2 := [_, _, _, _, _]) C dL_count_17 (by decide) rfl ?_
      refine q_iconst (pc := 19) C dL_count_19 ?_
      exact q_iret (pc := 20) C hret (Or.inr (Or.inl ⟨rfl, hx⟩)) (by decide) (by decide) dL_count_20
  · obtain ⟨v9, hv9, hv1, hv2⟩ := hv
    subst hv1
    dsimp only [Option.toList, List.cons_append, List.nil_append]
    refine q_i2l (pc := 8) C (by first | exact hR _ _ | exact hRo _ _ | assumption | exact r_bI _ | exact ⟨by omega, by omega⟩) dL_count_8 ?_
    refine q_lastore (pc := 9) C k232 n232 (by decide) (by decide) (by omega) (by omega) (by first | exact hR _ _ | exact hRo _ _ | assumption | exact r_bI _ | exact ⟨by omega, by omega⟩) dL_count_9 ?_
    refine q_goto (pc := 10) (tgt := 21) C dL_count_10 (by decide) ?_
    refine q_iconst (pc := 21) C dL_count_21 ?_
    exact q_iret (pc := 22) C hret (Or.inr (Or.inr ⟨rfl, v9, σ9, hv9, hv2, rfl⟩)) (by decide) (by decide) dL_count_22
set_option maxHeartbeats 4000000 in
set_option maxRecDepth 100000 in
theorem w_node {l : Launch} (hlf : l.stackTraces = false) (D : va_G) (cy : Nat → ClassId) (B : Nat) {μ : St} {a0 : Int} (ha0 : InR a0) {a1 : Int} (ha1 : InR a1) {x1 x2 : St → Prop} {f : Int → St → Prop} (h : PC l D cy B yX3_node wsX3_node (rk 3 7) [.ref (B + 0), iN a0, iN a1] μ (qv f) (ex2 sIS x1 sIO x2)) : PC l D cy B yL_node wsL_node ((rk 3 8)) [.ref (B + 0), iN a0, iN a1, .ref (B + 232)] μ (wp2 x1 x2 f) noX := by
  refine PC.pre (fun hR => ?_)
  refine q_startH (cc := cL_node) (maxL := 5) (ret := (some .int)) (hh := [(0, 10, 13, 15), (0, 10, 17, 25)]) hlf (by decide +kernel) rfl (by simp [Value.category]) (Nat.le_of_ble_eq_true rfl) ?_
  intro p e s m args below meth c C hret hex
  show PW p l e ((rk 3 8)) s m args below meth c D cy B 5 0 0 _ 0 [some (.ref (B + 0)), some (iN a0), some (iN a1), some (.ref (B + 232)), none] [] μ
  refine q_aload_n (pc := 0) C dL_node_0 rfl rfl ?_
  refine q_iconst (pc := 1) C dL_node_1 ?_
  refine q_aload_n (pc := 2) C dL_node_2 rfl rfl ?_
  refine q_iload_n (pc := 3) C dL_node_3 rfl rfl ?_
  refine q_iload_n (pc := 4) C dL_node_4 rfl rfl ?_
  refine q_callV (pc := 5) (As := [_, _]) (rest := [_, _]) C h (cwV 2 C.2.2.2.2.1 gL_node_X3_node rfl rfl rfl (by decide +kernel) ⟨Nat.le_of_ble_eq_true rfl, Nat.le_of_ble_eq_true rfl⟩) (ci := 3) rfl k0 (by decide) (by decide) rfl rfl (by first | decide | simp [Value.category]) dL_node_5 (by decide) (fun E μ8 hx => ?_) (fun v σ9 hv => ?_)
  · rcases hx with ⟨e, hx⟩ | ⟨e, hx⟩
    · refine q_catch (name := sIS) C [] ⟨0, 10, 13, 15⟩ [⟨0, 10, 17, 25⟩] hex (fun z hz => absurd hz List.not_mem_nil) (by decide) (by decide) (by decide +kernel) e (by rw [e]; decide) (fun q => ?_)
      refine q_astore (pc := 13) (lv2 := [_, _, _, _, _]) C dL_node_13 (by decide) rfl ?_
      refine q_iconst (pc := 15) C dL_node_15 ?_
      exact q_iret (pc := 16) C hret (Or.inl ⟨rfl, hx⟩) (by decide) (by decide) dL_node_16
    · refine q_catch (name := sIO) C [⟨0, 10, 13, 15⟩] ⟨0, 10, 17, 25⟩ [] hex (fun z hz => by rw [List.mem_singleton.mp hz]; exact Or.inr ⟨by decide, sIS, by decide +kernel, by rw [e]; decide⟩) (by decide) (by decide) (by decide +kernel) e (by rw [e]; decide) (fun q => ?_)
      refine q_astore (pc := 17) (lv2 := [_, _, _, _, _]) C dL_node_17 (by decide) rfl ?_
      refine q_iconst (pc := 19) C dL_node_19 ?_
      exact q_iret (pc := 20) C hret (Or.inr (Or.inl ⟨rfl, hx⟩)) (by decide) (by decide) dL_node_20
  · obtain ⟨v9, hv9, hv1, hv2⟩ := hv
    subst hv1
    dsimp only [Option.toList, List.cons_append, List.nil_append]
    refine q_i2l (pc := 8) C (by first | exact hR _ _ | exact hRo _ _ | assumption | exact r_bI _ | exact ⟨by omega, by omega⟩) dL_node_8 ?_
    refine q_lastore (pc := 9) C k232 n232 (by decide) (by decide) (by omega) (by omega) (by first | exact hR _ _ | exact hRo _ _ | assumption | exact r_bI _ | exact ⟨by omega, by omega⟩) dL_node_9 ?_
    refine q_goto (pc := 10) (tgt := 21) C dL_node_10 (by decide) ?_
    refine q_iconst (pc := 21) C dL_node_21 ?_
    exact q_iret (pc := 22) C hret (Or.inr (Or.inr ⟨rfl, v9, σ9, hv9, hv2, rfl⟩)) (by decide) (by decide) dL_node_22
set_option maxHeartbeats 4000000 in
set_option maxRecDepth 100000 in
theorem w_bound {l : Launch} (hlf : l.stackTraces = false) (D : va_G) (cy : Nat → ClassId) (B : Nat) {μ : St} {a0 : Int} (ha0 : InR a0) {x1 x2 : St → Prop} {f : Int → St → Prop} (h : PC l D cy B yX3_bound wsX3_bound (rk 3 7) [.ref (B + 0), iN a0] μ (qv f) (ex2 sIS x1 sIO x2)) : PC l D cy B yL_bound wsL_bound ((rk 3 8)) [.ref (B + 0), iN a0, .ref (B + 232)] μ (wp2 x1 x2 f) noX := by
  refine PC.pre (fun hR => ?_)
  refine q_startH (cc := cL_bound) (maxL := 4) (ret := (some .int)) (hh := [(0, 9, 12, 15), (0, 9, 15, 25)]) hlf (by decide +kernel) rfl (by simp [Value.category]) (Nat.le_of_ble_eq_true rfl) ?_
  intro p e s m args below meth c C hret hex
  show PW p l e ((rk 3 8)) s m args below meth c D cy B 4 0 0 _ 0 [some (.ref (B + 0)), some (iN a0), some (.ref (B + 232)), none] [] μ
  refine q_aload_n (pc := 0) C dL_bound_0 rfl rfl ?_
  refine q_iconst (pc := 1) C dL_bound_1 ?_
  refine q_aload_n (pc := 2) C dL_bound_2 rfl rfl ?_
  refine q_iload_n (pc := 3) C dL_bound_3 rfl rfl ?_
  refine q_callV (pc := 4) (As := [_]) (rest := [_, _]) C h (cwV 1 C.2.2.2.2.1 gL_bound_X3_bound rfl rfl rfl (by decide +kernel) ⟨Nat.le_of_ble_eq_true rfl, Nat.le_of_ble_eq_true rfl⟩) (ci := 3) rfl k0 (by decide) (by decide) rfl rfl (by first | decide | simp [Value.category]) dL_bound_4 (by decide) (fun E μ8 hx => ?_) (fun v σ9 hv => ?_)
  · rcases hx with ⟨e, hx⟩ | ⟨e, hx⟩
    · refine q_catch (name := sIS) C [] ⟨0, 9, 12, 15⟩ [⟨0, 9, 15, 25⟩] hex (fun z hz => absurd hz List.not_mem_nil) (by decide) (by decide) (by decide +kernel) e (by rw [e]; decide) (fun q => ?_)
      refine q_astore_n (pc := 12) (lv2 := [_, _, _, _]) C dL_bound_12 rfl (by decide) rfl ?_
      refine q_iconst (pc := 13) C dL_bound_13 ?_
      exact q_iret (pc := 14) C hret (Or.inl ⟨rfl, hx⟩) (by decide) (by decide) dL_bound_14
    · refine q_catch (name := sIO) C [⟨0, 9, 12, 15⟩] ⟨0, 9, 15, 25⟩ [] hex (fun z hz => by rw [List.mem_singleton.mp hz]; exact Or.inr ⟨by decide, sIS, by decide +kernel, by rw [e]; decide⟩) (by decide) (by decide) (by decide +kernel) e (by rw [e]; decide) (fun q => ?_)
      refine q_astore_n (pc := 15) (lv2 := [_, _, _, _]) C dL_bound_15 rfl (by decide) rfl ?_
      refine q_iconst (pc := 16) C dL_bound_16 ?_
      exact q_iret (pc := 17) C hret (Or.inr (Or.inl ⟨rfl, hx⟩)) (by decide) (by decide) dL_bound_17
  · obtain ⟨v9, hv9, hv1, hv2⟩ := hv
    subst hv1
    dsimp only [Option.toList, List.cons_append, List.nil_append]
    refine q_i2l (pc := 7) C (by first | exact hR _ _ | exact hRo _ _ | assumption | exact r_bI _ | exact ⟨by omega, by omega⟩) dL_bound_7 ?_
    refine q_lastore (pc := 8) C k232 n232 (by decide) (by decide) (by omega) (by omega) (by first | exact hR _ _ | exact hRo _ _ | assumption | exact r_bI _ | exact ⟨by omega, by omega⟩) dL_bound_8 ?_
    refine q_goto (pc := 9) (tgt := 18) C dL_bound_9 (by decide) ?_
    refine q_iconst (pc := 18) C dL_bound_18 ?_
    exact q_iret (pc := 19) C hret (Or.inr (Or.inr ⟨rfl, v9, σ9, hv9, hv2, rfl⟩)) (by decide) (by decide) dL_bound_19
set_option maxHeartbeats 4000000 in
set_option maxRecDepth 100000 in
theorem w_want {l : Launch} (hlf : l.stackTraces = false) (D : va_G) (cy : Nat → ClassId) (B : Nat) {μ : St} {a0 : Int} (ha0 : InR a0) {a1 : Int} (ha1 : InR a1) {x1 x2 : St → Prop} {f : St → Prop} (h : PC l D cy B yX3_want wsX3_want (rk 3 7) [.ref (B + 0), iN a0, iN a1] μ (qn f) (ex2 sIO x1 sIA x2)) : PC l D cy B yL_want wsL_want ((rk 3 8)) [.ref (B + 0), iN a0, iN a1] μ (wn2 x1 x2 f) noX := by
  refine PC.pre (fun hR => ?_)
  refine q_startH (cc := cL_want) (maxL := 4) (ret := (some .int)) (hh := [(0, 6, 9, 25), (0, 6, 12, 13)]) hlf (by decide +kernel) rfl (by simp [Value.category]) (Nat.le_of_ble_eq_true rfl) ?_
  intro p e s m args below meth c C hret hex
  show PW p l e ((rk 3 8)) s m args below meth c D cy B 4 0 0 _ 0 [some (.ref (B + 0)), some (iN a0), some (iN a1), none] [] μ
  refine q_aload_n (pc := 0) C dL_want_0 rfl rfl ?_
  refine q_iload_n (pc := 1) C dL_want_1 rfl rfl ?_
  refine q_iload_n (pc := 2) C dL_want_2 rfl rfl ?_
  refine q_callV (pc := 3) (As := [_, _]) (rest := []) C h (cwV 2 C.2.2.2.2.1 gL_want_X3_want rfl rfl rfl (by decide +kernel) ⟨Nat.le_of_ble_eq_true rfl, Nat.le_of_ble_eq_true rfl⟩) (ci := 3) rfl k0 (by decide) (by decide) rfl rfl (by first | decide | simp [Value.category]) dL_want_3 (by decide) (fun E μ8 hx => ?_) (fun v σ9 hv => ?_)
  · rcases hx with ⟨e, hx⟩ | ⟨e, hx⟩
    · refine q_catch (name := sIO) C [] ⟨0, 6, 9, 25⟩ [⟨0, 6, 12, 13⟩] hex (fun z hz => absurd hz List.not_mem_nil) (by decide) (by decide) (by decide +kernel) e (by rw [e]; decide) (fun q => ?_)
      refine q_astore_n (pc := 9) (lv2 := [_, _, _, _]) C dL_want_9 rfl (by decide) rfl ?_
      refine q_iconst (pc := 10) C dL_want_10 ?_
      exact q_iret (pc := 11) C hret (Or.inl ⟨rfl, hx⟩) (by decide) (by decide) dL_want_11
    · refine q_catch (name := sIA) C [⟨0, 6, 9, 25⟩] ⟨0, 6, 12, 13⟩ [] hex (fun z hz => by rw [List.mem_singleton.mp hz]; exact Or.inr ⟨by decide, sIO, by decide +kernel, by rw [e]; decide⟩) (by decide) (by decide) (by decide +kernel) e (by rw [e]; decide) (fun q => ?_)
      refine q_astore_n (pc := 12) (lv2 := [_, _, _, _]) C dL_want_12 rfl (by decide) rfl ?_
      refine q_iconst (pc := 13) C dL_want_13 ?_
      exact q_iret (pc := 14) C hret (Or.inr (Or.inl ⟨rfl, hx⟩)) (by decide) (by decide) dL_want_14
  · obtain ⟨hv1, hv2⟩ := hv
    subst hv1
    dsimp only [Option.toList, List.cons_append, List.nil_append]
    refine q_goto (pc := 6) (tgt := 15) C dL_want_6 (by decide) ?_
    refine q_iconst (pc := 15) C dL_want_15 ?_
    exact q_iret (pc := 16) C hret (Or.inr (Or.inr ⟨rfl, hv2⟩)) (by decide) (by decide) dL_want_16
set_option maxHeartbeats 4000000 in
set_option maxRecDepth 100000 in
theorem w_covered {l : Launch} (hlf : l.stackTraces = false) (D : va_G) (cy : Nat → ClassId) (B : Nat) {μ : St} {x1 : St → Prop} {f : Int → St → Prop} (h : PC l D cy B yX3_covered wsX3_covered (rk 3 7) [.ref (B + 0)] μ (qv f) (ex1 sIS x1)) : PC l D cy B yL_covered wsL_covered ((rk 3 8)) [.ref (B + 0), .ref (B + 232)] μ (wz1 x1 f) noX := by
  refine PC.pre (fun hR => ?_)
  refine q_startH (cc := cL_covered) (maxL := 3) (ret := (some .int)) (hh := [(0, 15, 18, 15)]) hlf (by decide +kernel) rfl (by simp [Value.category]) (Nat.le_of_ble_eq_true rfl) ?_
  intro p e s m args below meth c C hret hex
  show PW p l e ((rk 3 8)) s m args below meth c D cy B 3 0 0 _ 0 [some (.ref (B + 0)), some (.ref (B + 232)), none] [] μ
  refine q_aload_n (pc := 0) C dL_covered_0 rfl rfl ?_
  refine q_iconst (pc := 1) C dL_covered_1 ?_
  refine q_aload_n (pc := 2) C dL_covered_2 rfl rfl ?_
  refine q_callV (pc := 3) (As := []) (rest := [_, _]) C h (cwV 0 C.2.2.2.2.1 gL_covered_X3_covered rfl rfl rfl (by decide +kernel) ⟨Nat.le_of_ble_eq_true rfl, Nat.le_of_ble_eq_true rfl⟩) (ci := 3) rfl k0 (by decide) (by decide) rfl rfl (by first | decide | simp [Value.category]) dL_covered_3 (by decide) (fun E μ8 hx => ?_) (fun v σ9 hv => ?_)
  · obtain ⟨e, hx⟩ := hx
    refine q_catch (name := sIS) C [] ⟨0, 15, 18, 15⟩ [] hex (fun z hz => absurd hz List.not_mem_nil) (by decide) (by decide) (by decide +kernel) e (by rw [e]; decide) (fun q => ?_)
    refine q_astore_n (pc := 18) (lv2 := [_, _, _]) C dL_covered_18 rfl (by decide) rfl ?_
    refine q_iconst (pc := 19) C dL_covered_19 ?_
    exact q_iret (pc := 20) C hret (Or.inl ⟨rfl, hx⟩) (by decide) (by decide) dL_covered_20
  · obtain ⟨v9, hv9, hv1, hv2⟩ := hv
    subst hv1
    dsimp only [Option.toList, List.cons_append, List.nil_append]
    refine q_if_eq (pc := 6) (tgt := 13) C (by first | exact hR _ _ | exact hRo _ _ | assumption | exact r_bI _ | exact ⟨by omega, by omega⟩) dL_covered_6 (by decide) (fun hq => ?_) (fun hq => ?_)
    · refine q_lconst (pc := 13) (k := 0) C (by decide +kernel) dL_covered_13 ?_
      refine q_lastore (pc := 14) C k232 n232 (by decide) (by decide) (by omega) (by omega) (by first | exact hR _ _ | exact hRo _ _ | assumption | exact r_bI _ | exact ⟨by omega, by omega⟩) dL_covered_14 ?_
      refine q_goto (pc := 15) (tgt := 21) C dL_covered_15 (by decide) ?_
      refine q_iconst (pc := 21) C dL_covered_21 ?_
      exact q_iret (pc := 22) C hret (Or.inr ⟨rfl, v9, σ9, hv9, hv2, by rw [if_pos hq]⟩) (by decide) (by decide) dL_covered_22
    · refine q_lconst (pc := 9) (k := 1) C (by decide +kernel) dL_covered_9 ?_
      refine q_goto (pc := 10) (tgt := 14) C dL_covered_10 (by decide) ?_
      refine q_lastore (pc := 14) C k232 n232 (by decide) (by decide) (by omega) (by omega) (by first | exact hR _ _ | exact hRo _ _ | assumption | exact r_bI _ | exact ⟨by omega, by omega⟩) dL_covered_14 ?_
      refine q_goto (pc := 15) (tgt := 21) C dL_covered_15 (by decide) ?_
      refine q_iconst (pc := 21) C dL_covered_21 ?_
      exact q_iret (pc := 22) C hret (Or.inr ⟨rfl, v9, σ9, hv9, hv2, by rw [if_neg hq]⟩) (by decide) (by decide) dL_covered_22
set_option maxHeartbeats 4000000 in
set_option maxRecDepth 100000 in
theorem w_possible {l : Launch} (hlf : l.stackTraces = false) (D : va_G) (cy : Nat → ClassId) (B : Nat) {μ : St} {a0 : Int} (ha0 : InR a0) {x1 x2 : St → Prop} {f : Int → St → Prop} (h : PC l D cy B yX3_possible wsX3_possible (rk 3 7) [.ref (B + 0), iN a0] μ (qv f) (ex2 sIS x1 sIO x2)) : PC l D cy B yL_possible wsL_possible ((rk 3 8)) [.ref (B + 0), iN a0, .ref (B + 232)] μ (wz2 x1 x2 f) noX := by
  refine PC.pre (fun hR => ?_)
  refine q_startH (cc := cL_possible) (maxL := 4) (ret := (some .int)) (hh := [(0, 16, 19, 15), (0, 16, 22, 25)]) hlf (by decide +kernel) rfl (by simp [Value.category]) (Nat.le_of_ble_eq_true rfl) ?_
  intro p e s m args below meth c C hret hex
  show PW p l e ((rk 3 8)) s m args below meth c D cy B 4 0 0 _ 0 [some (.ref (B + 0)), some (iN a0), some (.ref (B + 232)), none] [] μ
  refine q_aload_n (pc := 0) C dL_possible_0 rfl rfl ?_
  refine q_iconst (pc := 1) C dL_possible_1 ?_
  refine q_aload_n (pc := 2) C dL_possible_2 rfl rfl ?_
  refine q_iload_n (pc := 3) C dL_possible_3 rfl rfl ?_
  refine q_callV (pc := 4) (As := [_]) (rest := [_, _]) C h (cwV 1 C.2.2.2.2.1 gL_possible_X3_possible rfl rfl rfl (by decide +kernel) ⟨Nat.le_of_ble_eq_true rfl, Nat.le_of_ble_eq_true rfl⟩) (ci := 3) rfl k0 (by decide) (by decide) rfl rfl (by first | decide | simp [Value.category]) dL_possible_4 (by decide) (fun E μ8 hx => ?_) (fun v σ9 hv => ?_)
  · rcases hx with ⟨e, hx⟩ | ⟨e, hx⟩
    · refine q_catch (name := sIS) C [] ⟨0, 16, 19, 15⟩ [⟨0, 16, 22, 25⟩] hex (fun z hz => absurd hz List.not_mem_nil) (by decide) (by decide) (by decide +kernel) e (by rw [e]; decide) (fun q => ?_)
      refine q_astore_n (pc := 19) (lv2 := [_, _, _, _]) C dL_possible_19 rfl (by decide) rfl ?_
      refine q_iconst (pc := 20) C dL_possible_20 ?_
      exact q_iret (pc := 21) C hret (Or.inl ⟨rfl, hx⟩) (by decide) (by decide) dL_possible_21
    · refine q_catch (name := sIO) C [⟨0, 16, 19, 15⟩] ⟨0, 16, 22, 25⟩ [] hex (fun z hz => by rw [List.mem_singleton.mp hz]; exact Or.inr ⟨by decide, sIS, by decide +kernel, by rw [e]; decide⟩) (by decide) (by decide) (by decide +kernel) e (by rw [e]; decide) (fun q => ?_)
      refine q_astore_n (pc := 22) (lv2 := [_, _, _, _]) C dL_possible_22 rfl (by decide) rfl ?_
      refine q_iconst (pc := 23) C dL_possible_23 ?_
      exact q_iret (pc := 24) C hret (Or.inr (Or.inl ⟨rfl, hx⟩)) (by decide) (by decide) dL_possible_24
  · obtain ⟨v9, hv9, hv1, hv2⟩ := hv
    subst hv1
    dsimp only [Option.toList, List.cons_append, List.nil_append]
    refine q_if_eq (pc := 7) (tgt := 14) C (by first | exact hR _ _ | exact hRo _ _ | assumption | exact r_bI _ | exact ⟨by omega, by omega⟩) dL_possible_7 (by decide) (fun hq => ?_) (fun hq => ?_)
    · refine q_lconst (pc := 14) (k := 0) C (by decide +kernel) dL_possible_14 ?_
      refine q_lastore (pc := 15) C k232 n232 (by decide) (by decide) (by omega) (by omega) (by first | exact hR _ _ | exact hRo _ _ | assumption | exact r_bI _ | exact ⟨by omega, by omega⟩) dL_possible_15 ?_
      refine q_goto (pc := 16) (tgt := 25) C dL_possible_16 (by decide) ?_
      refine q_iconst (pc := 25) C dL_possible_25 ?_
      exact q_iret (pc := 26) C hret (Or.inr (Or.inr ⟨rfl, v9, σ9, hv9, hv2, by rw [if_pos hq]⟩)) (by decide) (by decide) dL_possible_26
    · refine q_lconst (pc := 10) (k := 1) C (by decide +kernel) dL_possible_10 ?_
      refine q_goto (pc := 11) (tgt := 15) C dL_possible_11 (by decide) ?_
      refine q_lastore (pc := 15) C k232 n232 (by decide) (by decide) (by omega) (by omega) (by first | exact hR _ _ | exact hRo _ _ | assumption | exact r_bI _ | exact ⟨by omega, by omega⟩) dL_possible_15 ?_
      refine q_goto (pc := 16) (tgt := 25) C dL_possible_16 (by decide) ?_
      refine q_iconst (pc := 25) C dL_possible_25 ?_
      exact q_iret (pc := 26) C hret (Or.inr (Or.inr ⟨rfl, v9, σ9, hv9, hv2, by rw [if_neg hq]⟩)) (by decide) (by decide) dL_possible_26
set_option maxHeartbeats 4000000 in
set_option maxRecDepth 100000 in
theorem w_growth {l : Launch} (hlf : l.stackTraces = false) (D : va_G) (cy : Nat → ClassId) (B : Nat) {μ : St} {a0 : Int} (ha0 : InR a0) {x1 x2 : St → Prop} {f : Int → St → Prop} (h : PC l D cy B yX3_growth wsX3_growth (rk 3 7) [.ref (B + 0), iN a0] μ (qv f) (ex2 sIS x1 sIA x2)) : PC l D cy B yL_growth wsL_growth ((rk 3 8)) [.ref (B + 0), iN a0, .ref (B + 232)] μ (wp2 x1 x2 f) noX := by
  refine PC.pre (fun hR => ?_)
  refine q_startH (cc := cL_growth) (maxL := 4) (ret := (some .int)) (hh := [(0, 9, 12, 15), (0, 9, 15, 13)]) hlf (by decide +kernel) rfl (by simp [Value.category]) (Nat.le_of_ble_eq_true rfl) ?_
  intro p e s m args below meth c C hret hex
  show PW p l e ((rk 3 8)) s m args below meth c D cy B 4 0 0 _ 0 [some (.ref (B + 0)), some (iN a0), some (.ref (B + 232)), none] [] μ
  refine q_aload_n (pc := 0) C dL_growth_0 rfl rfl ?_
  refine q_iconst (pc := 1) C dL_growth_1 ?_
  refine q_aload_n (pc := 2) C dL_growth_2 rfl rfl ?_
  refine q_iload_n (pc := 3) C dL_growth_3 rfl rfl ?_
  refine q_callV (pc := 4) (As := [_]) (rest := [_, _]) C h (cwV 1 C.2.2.2.2.1 gL_growth_X3_growth rfl rfl rfl (by decide +kernel) ⟨Nat.le_of_ble_eq_true rfl, Nat.le_of_ble_eq_true rfl⟩) (ci := 3) rfl k0 (by decide) (by decide) rfl rfl (by first | decide | simp [Value.category]) dL_growth_4 (by decide) (fun E μ8 hx => ?_) (fun v σ9 hv => ?_)
  · rcases hx with ⟨e, hx⟩ | ⟨e, hx⟩
    · refine q_catch (name := sIS) C [] ⟨0, 9, 12, 15⟩ [⟨0, 9, 15, 13⟩] hex (fun z hz => absurd hz List.not_mem_nil) (by decide) (by decide) (by decide +kernel) e (by rw [e]; decide) (fun q => ?_)
      refine q_astore_n (pc := 12) (lv2 := [_, _, _, _]) C dL_growth_12 rfl (by decide) rfl ?_
      refine q_iconst (pc := 13) C dL_growth_13 ?_
      exact q_iret (pc := 14) C hret (Or.inl ⟨rfl, hx⟩) (by decide) (by decide) dL_growth_14
    · refine q_catch (name := sIA) C [⟨0, 9, 12, 15⟩] ⟨0, 9, 15, 13⟩ [] hex (fun z hz => by rw [List.mem_singleton.mp hz]; exact Or.inr ⟨by decide, sIS, by decide +kernel, by rw [e]; decide⟩) (by decide) (by decide) (by decide +kernel) e (by rw [e]; decide) (fun q => ?_)
      refine q_astore_n (pc := 15) (lv2 := [_, _, _, _]) C dL_growth_15 rfl (by decide) rfl ?_
      refine q_iconst (pc := 16) C dL_growth_16 ?_
      exact q_iret (pc := 17) C hret (Or.inr (Or.inl ⟨rfl, hx⟩)) (by decide) (by decide) dL_growth_17
  · obtain ⟨v9, hv9, hv1, hv2⟩ := hv
    subst hv1
    dsimp only [Option.toList, List.cons_append, List.nil_append]
    refine q_i2l (pc := 7) C (by first | exact hR _ _ | exact hRo _ _ | assumption | exact r_bI _ | exact ⟨by omega, by omega⟩) dL_growth_7 ?_
    refine q_lastore (pc := 8) C k232 n232 (by decide) (by decide) (by omega) (by omega) (by first | exact hR _ _ | exact hRo _ _ | assumption | exact r_bI _ | exact ⟨by omega, by omega⟩) dL_growth_8 ?_
    refine q_goto (pc := 9) (tgt := 18) C dL_growth_9 (by decide) ?_
    refine q_iconst (pc := 18) C dL_growth_18 ?_
    exact q_iret (pc := 19) C hret (Or.inr (Or.inr ⟨rfl, v9, σ9, hv9, hv2, rfl⟩)) (by decide) (by decide) dL_growth_19
set_option maxHeartbeats 4000000 in
set_option maxRecDepth 100000 in
theorem w_graph {l : Launch} (hlf : l.stackTraces = false) (D : va_G) (cy : Nat → ClassId) (B : Nat) {μ : St} {x1 x2 : St → Prop} {f : Int → St → Prop} (h : PC l D cy B yX3_graph wsX3_graph (rk 3 7) [.ref (B + 0)] μ (qv f) (ex2 sIS x1 sUO x2)) : PC l D cy B yL_graph wsL_graph ((rk 3 8)) [.ref (B + 0), .ref (B + 232)] μ (wp2 x1 x2 f) noX := by
  refine PC.pre (fun hR => ?_)
  refine q_startH (cc := cL_graph) (maxL := 3) (ret := (some .int)) (hh := [(0, 8, 11, 15), (0, 8, 14, 34)]) hlf (by decide +kernel) rfl (by simp [Value.category]) (Nat.le_of_ble_eq_true rfl) ?_
  intro p e s m args below meth c C hret hex
  show PW p l e ((rk 3 8)) s m args below meth c D cy B 3 0 0 _ 0 [some (.ref (B + 0)), some (.ref (B + 232)), none] [] μ
  refine q_aload_n (pc := 0) C dL_graph_0 rfl rfl ?_
  refine q_iconst (pc := 1) C dL_graph_1 ?_
  refine q_aload_n (pc := 2) C dL_graph_2 rfl rfl ?_
  refine q_callV (pc := 3) (As := []) (rest := [_, _]) C h (cwV 0 C.2.2.2.2.1 gL_graph_X3_graph rfl rfl rfl (by decide +kernel) ⟨Nat.le_of_ble_eq_true rfl, Nat.le_of_ble_eq_true rfl⟩) (ci := 3) rfl k0 (by decide) (by decide) rfl rfl (by first | decide | simp [Value.category]) dL_graph_3 (by decide) (fun E μ8 hx => ?_) (fun v σ9 hv => ?_)
  · rcases hx with ⟨e, hx⟩ | ⟨e, hx⟩
    · refine q_catch (name := sIS) C [] ⟨0, 8, 11, 15⟩ [⟨0, 8, 14, 34⟩] hex (fun z hz => absurd hz List.not_mem_nil) (by decide) (by decide) (by decide +kernel) e (by rw [e]; decide) (fun q => ?_)
      refine q_astore_n (pc := 11) (lv2 := [_, _, _]) C dL_graph_11 rfl (by decide) rfl ?_
      refine q_iconst (pc := 12) C dL_graph_12 ?_
      exact q_iret (pc := 13) C hret (Or.inl ⟨rfl, hx⟩) (by decide) (by decide) dL_graph_13
    · refine q_catch (name := sUO) C [⟨0, 8, 11, 15⟩] ⟨0, 8, 14, 34⟩ [] hex (fun z hz => by rw [List.mem_singleton.mp hz]; exact Or.inr ⟨by decide, sIS, by decide +kernel, by rw [e]; decide⟩) (by decide) (by decide) (by decide +kernel) e (by rw [e]; decide) (fun q => ?_)
      refine q_astore_n (pc := 14) (lv2 := [_, _, _]) C dL_graph_14 rfl (by decide) rfl ?_
      refine q_iconst (pc := 15) C dL_graph_15 ?_
      exact q_iret (pc := 16) C hret (Or.inr (Or.inl ⟨rfl, hx⟩)) (by decide) (by decide) dL_graph_16
  · obtain ⟨v9, hv9, hv1, hv2⟩ := hv
    subst hv1
    dsimp only [Option.toList, List.cons_append, List.nil_append]
    refine q_i2l (pc := 6) C (by first | exact hR _ _ | exact hRo _ _ | assumption | exact r_bI _ | exact ⟨by omega, by omega⟩) dL_graph_6 ?_
    refine q_lastore (pc := 7) C k232 n232 (by decide) (by decide) (by omega) (by omega) (by first | exact hR _ _ | exact hRo _ _ | assumption | exact r_bI _ | exact ⟨by omega, by omega⟩) dL_graph_7 ?_
    refine q_goto (pc := 8) (tgt := 17) C dL_graph_8 (by decide) ?_
    refine q_iconst (pc := 17) C dL_graph_17 ?_
    exact q_iret (pc := 18) C hret (Or.inr (Or.inr ⟨rfl, v9, σ9, hv9, hv2, rfl⟩)) (by decide) (by decide) dL_graph_18
set_option maxHeartbeats 4000000 in
set_option maxRecDepth 100000 in
theorem w_reached {l : Launch} (hlf : l.stackTraces = false) (D : va_G) (cy : Nat → ClassId) (B : Nat) {μ : St} {x1 : St → Prop} {f : Int → St → Prop} (h : PC l D cy B yX3_reached wsX3_reached (rk 3 7) [.ref (B + 0)] μ (qv f) (ex1 sIS x1)) : PC l D cy B yL_reached wsL_reached ((rk 3 8)) [.ref (B + 0), .ref (B + 232)] μ (wp1 x1 f) noX := by
  refine PC.pre (fun hR => ?_)
  refine q_startH (cc := cL_reached) (maxL := 3) (ret := (some .int)) (hh := [(0, 8, 11, 15)]) hlf (by decide +kernel) rfl (by simp [Value.category]) (Nat.le_of_ble_eq_true rfl) ?_
  intro p e s m args below meth c C hret hex
  show PW p l e ((rk 3 8)) s m args below meth c D cy B 3 0 0 _ 0 [some (.ref (B + 0)), some (.ref (B + 232)), none] [] μ
  refine q_aload_n (pc := 0) C dL_reached_0 rfl rfl ?_
  refine q_iconst (pc := 1) C dL_reached_1 ?_
  refine q_aload_n (pc := 2) C dL_reached_2 rfl rfl ?_
  refine q_callV (pc := 3) (As := []) (rest := [_, _]) C h (cwV 0 C.2.2.2.2.1 gL_reached_X3_reached rfl rfl rfl (by decide +kernel) ⟨Nat.le_of_ble_eq_true rfl, Nat.le_of_ble_eq_true rfl⟩) (ci := 3) rfl k0 (by decide) (by decide) rfl rfl (by first | decide | simp [Value.category]) dL_reached_3 (by decide) (fun E μ8 hx => ?_) (fun v σ9 hv => ?_)
  · obtain ⟨e, hx⟩ := hx
    refine q_catch (name := sIS) C [] ⟨0, 8, 11, 15⟩ [] hex (fun z hz => absurd hz List.not_mem_nil) (by decide) (by decide) (by decide +kernel) e (by rw [e]; decide) (fun q => ?_)
    refine q_astore_n (pc := 11) (lv2 := [_, _, _]) C dL_reached_11 rfl (by decide) rfl ?_
    refine q_iconst (pc := 12) C dL_reached_12 ?_
    exact q_iret (pc := 13) C hret (Or.inl ⟨rfl, hx⟩) (by decide) (by decide) dL_reached_13
  · obtain ⟨v9, hv9, hv1, hv2⟩ := hv
    subst hv1
    dsimp only [Option.toList, List.cons_append, List.nil_append]
    refine q_i2l (pc := 6) C (by first | exact hR _ _ | exact hRo _ _ | assumption | exact r_bI _ | exact ⟨by omega, by omega⟩) dL_reached_6 ?_
    refine q_lastore (pc := 7) C k232 n232 (by decide) (by decide) (by omega) (by omega) (by first | exact hR _ _ | exact hRo _ _ | assumption | exact r_bI _ | exact ⟨by omega, by omega⟩) dL_reached_7 ?_
    refine q_goto (pc := 8) (tgt := 14) C dL_reached_8 (by decide) ?_
    refine q_iconst (pc := 14) C dL_reached_14 ?_
    exact q_iret (pc := 15) C hret (Or.inr ⟨rfl, v9, σ9, hv9, hv2, rfl⟩) (by decide) (by decide) dL_reached_15
set_option maxHeartbeats 4000000 in
set_option maxRecDepth 100000 in
theorem w_distance {l : Launch} (hlf : l.stackTraces = false) (D : va_G) (cy : Nat → ClassId) (B : Nat) {μ : St} {a0 : Int} (ha0 : InR a0) {x1 x2 : St → Prop} {f : Int → St → Prop} (h : PC l D cy B yX3_distance wsX3_distance (rk 3 7) [.ref (B + 0), iN a0] μ (qv f) (ex2 sIS x1 sIO x2)) : PC l D cy B yL_distance wsL_distance ((rk 3 8)) [.ref (B + 0), iN a0, .ref (B + 232)] μ (wp2 x1 x2 f) noX := by
  refine PC.pre (fun hR => ?_)
  refine q_startH (cc := cL_distance) (maxL := 4) (ret := (some .int)) (hh := [(0, 9, 12, 15), (0, 9, 15, 25)]) hlf (by decide +kernel) rfl (by simp [Value.category]) (Nat.le_of_ble_eq_true rfl) ?_
  intro p e s m args below meth c C hret hex
  show PW p l e ((rk 3 8)) s m args below meth c D cy B 4 0 0 _ 0 [some (.ref (B + 0)), some (iN a0), some (.ref (B + 232)), none] [] μ
  refine q_aload_n (pc := 0) C dL_distance_0 rfl rfl ?_
  refine q_iconst (pc := 1) C dL_distance_1 ?_
  refine q_aload_n (pc := 2) C dL_distance_2 rfl rfl ?_
  refine q_iload_n (pc := 3) C dL_distance_3 rfl rfl ?_
  refine q_callV (pc := 4) (As := [_]) (rest := [_, _]) C h (cwV 1 C.2.2.2.2.1 gL_distance_X3_distance rfl rfl rfl (by decide +kernel) ⟨Nat.le_of_ble_eq_true rfl, Nat.le_of_ble_eq_true rfl⟩) (ci := 3) rfl k0 (by decide) (by decide) rfl rfl (by first | decide | simp [Value.category]) dL_distance_4 (by decide) (fun E μ8 hx => ?_) (fun v σ9 hv => ?_)
  · rcases hx with ⟨e, hx⟩ | ⟨e, hx⟩
    · refine q_catch (name := sIS) C [] ⟨0, 9, 12, 15⟩ [⟨0, 9, 15, 25⟩] hex (fun z hz => absurd hz List.not_mem_nil) (by decide) (by decide) (by decide +kernel) e (by rw [e]; decide) (fun q => ?_)
      refine q_astore_n (pc := 12) (lv2 := [_, _, _, _]) C dL_distance_12 rfl (by decide) rfl ?_
      refine q_iconst (pc := 13) C dL_distance_13 ?_
      exact q_iret (pc := 14) C hret (Or.inl ⟨rfl, hx⟩) (by decide) (by decide) dL_distance_14
    · refine q_catch (name := sIO) C [⟨0, 9, 12, 15⟩] ⟨0, 9, 15, 25⟩ [] hex (fun z hz => by rw [List.mem_singleton.mp hz]; exact Or.inr ⟨by decide, sIS, by decide +kernel, by rw [e]; decide⟩) (by decide) (by decide) (by decide +kernel) e (by rw [e]; decide) (fun q => ?_)
      refine q_astore_n (pc := 15) (lv2 := [_, _, _, _]) C dL_distance_15 rfl (by decide) rfl ?_
      refine q_iconst (pc := 16) C dL_distance_16 ?_
      exact q_iret (pc := 17) C hret (Or.inr (Or.inl ⟨rfl, hx⟩)) (by decide) (by decide) dL_distance_17
  · obtain ⟨v9, hv9, hv1, hv2⟩ := hv
    subst hv1
    dsimp only [Option.toList, List.cons_append, List.nil_append]
    refine q_i2l (pc := 7) C (by first | exact hR _ _ | exact hRo _ _ | assumption | exact r_bI _ | exact ⟨by omega, by omega⟩) dL_distance_7 ?_
    refine q_lastore (pc := 8) C k232 n232 (by decide) (by decide) (by omega) (by omega) (by first | exact hR _ _ | exact hRo _ _ | assumption | exact r_bI _ | exact ⟨by omega, by omega⟩) dL_distance_8 ?_
    refine q_goto (pc := 9) (tgt := 18) C dL_distance_9 (by decide) ?_
    refine q_iconst (pc := 18) C dL_distance_18 ?_
    exact q_iret (pc := 19) C hret (Or.inr (Or.inr ⟨rfl, v9, σ9, hv9, hv2, rfl⟩)) (by decide) (by decide) dL_distance_19
set_option maxHeartbeats 4000000 in
set_option maxRecDepth 100000 in
theorem w_found {l : Launch} (hlf : l.stackTraces = false) (D : va_G) (cy : Nat → ClassId) (B : Nat) {μ : St} {a0 : Int} (ha0 : InR a0) {a1 : Int} (ha1 : InR a1) {x1 x2 : St → Prop} {f : Int → St → Prop} (h : PC l D cy B yX3_found wsX3_found (rk 3 7) [.ref (B + 0), iN a0, iN a1] μ (qv f) (ex2 sIS x1 sIO x2)) : PC l D cy B yL_found wsL_found ((rk 3 8)) [.ref (B + 0), iN a0, iN a1, .ref (B + 232)] μ (wp2 x1 x2 f) noX := by
  refine PC.pre (fun hR => ?_)
  refine q_startH (cc := cL_found) (maxL := 5) (ret := (some .int)) (hh := [(0, 10, 13, 15), (0, 10, 17, 25)]) hlf (by decide +kernel) rfl (by simp [Value.category]) (Nat.le_of_ble_eq_true rfl) ?_
  intro p e s m args below meth c C hret hex
  show PW p l e ((rk 3 8)) s m args below meth c D cy B 5 0 0 _ 0 [some (.ref (B + 0)), some (iN a0), some (iN a1), some (.ref (B + 232)), none] [] μ
  refine q_aload_n (pc := 0) C dL_found_0 rfl rfl ?_
  refine q_iconst (pc := 1) C dL_found_1 ?_
  refine q_aload_n (pc := 2) C dL_found_2 rfl rfl ?_
  refine q_iload_n (pc := 3) C dL_found_3 rfl rfl ?_
  refine q_iload_n (pc := 4) C dL_found_4 rfl rfl ?_
  refine q_callV (pc := 5) (As := [_, _]) (rest := [_, _]) C h (cwV 2 C.2.2.2.2.1 gL_found_X3_found rfl rfl rfl (by decide +kernel) ⟨Nat.le_of_ble_eq_true rfl, Nat.le_of_ble_eq_true rfl⟩) (ci := 3) rfl k0 (by decide) (by decide) rfl rfl (by first | decide | simp [Value.category]) dL_found_5 (by decide) (fun E μ8 hx => ?_) (fun v σ9 hv => ?_)
  · rcases hx with ⟨e, hx⟩ | ⟨e, hx⟩
    · refine q_catch (name := sIS) C [] ⟨0, 10, 13, 15⟩ [⟨0, 10, 17, 25⟩] hex (fun z hz => absurd hz List.not_mem_nil) (by decide) (by decide) (by decide +kernel) e (by rw [e]; decide) (fun q => ?_)
      refine q_astore (pc := 13) (lv2 := [_, _, _, _, _]) C dL_found_13 (by decide) rfl ?_
      refine q_iconst (pc := 15) C dL_found_15 ?_
      exact q_iret (pc := 16) C hret (Or.inl ⟨rfl, hx⟩) (by decide) (by decide) dL_found_16
    · refine q_catch (name := sIO) C [⟨0, 10, 13, 15⟩] ⟨0, 10, 17, 25⟩ [] hex (fun z hz => by rw [List.mem_singleton.mp hz]; exact Or.inr ⟨by decide, sIS, by decide +kernel, by rw [e]; decide⟩) (by decide) (by decide) (by decide +kernel) e (by rw [e]; decide) (fun q => ?_)
      refine q_astore (pc := 17) (lv2 := [_, _, _, _, _]) C dL_found_17 (by decide) rfl ?_
      refine q_iconst (pc := 19) C dL_found_19 ?_
      exact q_iret (pc := 20) C hret (Or.inr (Or.inl ⟨rfl, hx⟩)) (by decide) (by decide) dL_found_20
  · obtain ⟨v9, hv9, hv1, hv2⟩ := hv
    subst hv1
    dsimp only [Option.toList, List.cons_append, List.nil_append]
    refine q_i2l (pc := 8) C (by first | exact hR _ _ | exact hRo _ _ | assumption | exact r_bI _ | exact ⟨by omega, by omega⟩) dL_found_8 ?_
    refine q_lastore (pc := 9) C k232 n232 (by decide) (by decide) (by omega) (by omega) (by first | exact hR _ _ | exact hRo _ _ | assumption | exact r_bI _ | exact ⟨by omega, by omega⟩) dL_found_9 ?_
    refine q_goto (pc := 10) (tgt := 21) C dL_found_10 (by decide) ?_
    refine q_iconst (pc := 21) C dL_found_21 ?_
    exact q_iret (pc := 22) C hret (Or.inr (Or.inr ⟨rfl, v9, σ9, hv9, hv2, rfl⟩)) (by decide) (by decide) dL_found_22
set_option maxHeartbeats 4000000 in
set_option maxRecDepth 100000 in
theorem w_stops {l : Launch} (hlf : l.stackTraces = false) (D : va_G) (cy : Nat → ClassId) (B : Nat) {μ : St} {x1 : St → Prop} {f : Int → St → Prop} (h : PC l D cy B yX3_stops wsX3_stops (rk 3 7) [.ref (B + 0)] μ (qv f) (ex1 sIS x1)) : PC l D cy B yL_stops wsL_stops ((rk 3 8)) [.ref (B + 0), .ref (B + 232)] μ (wp1 x1 f) noX := by
  refine PC.pre (fun hR => ?_)
  refine q_startH (cc := cL_stops) (maxL := 3) (ret := (some .int)) (hh := [(0, 8, 11, 15)]) hlf (by decide +kernel) rfl (by simp [Value.category]) (Nat.le_of_ble_eq_true rfl) ?_
  intro p e s m args below meth c C hret hex
  show PW p l e ((rk 3 8)) s m args below meth c D cy B 3 0 0 _ 0 [some (.ref (B + 0)), some (.ref (B + 232)), none] [] μ
  refine q_aload_n (pc := 0) C dL_stops_0 rfl rfl ?_
  refine q_iconst (pc := 1) C dL_stops_1 ?_
  refine q_aload_n (pc := 2) C dL_stops_2 rfl rfl ?_
  refine q_callV (pc := 3) (As := []) (rest := [_, _]) C h (cwV 0 C.2.2.2.2.1 gL_stops_X3_stops rfl rfl rfl (by decide +kernel) ⟨Nat.le_of_ble_eq_true rfl, Nat.le_of_ble_eq_true rfl⟩) (ci := 3) rfl k0 (by decide) (by decide) rfl rfl (by first | decide | simp [Value.category]) dL_stops_3 (by decide) (fun E μ8 hx => ?_) (fun v σ9 hv => ?_)
  · obtain ⟨e, hx⟩ := hx
    refine q_catch (name := sIS) C [] ⟨0, 8, 11, 15⟩ [] hex (fun z hz => absurd hz List.not_mem_nil) (by decide) (by decide) (by decide +kernel) e (by rw [e]; decide) (fun q => ?_)
    refine q_astore_n (pc := 11) (lv2 := [_, _, _]) C dL_stops_11 rfl (by decide) rfl ?_
    refine q_iconst (pc := 12) C dL_stops_12 ?_
    exact q_iret (pc := 13) C hret (Or.inl ⟨rfl, hx⟩) (by decide) (by decide) dL_stops_13
  · obtain ⟨v9, hv9, hv1, hv2⟩ := hv
    subst hv1
    dsimp only [Option.toList, List.cons_append, List.nil_append]
    refine q_i2l (pc := 6) C (by first | exact hR _ _ | exact hRo _ _ | assumption | exact r_bI _ | exact ⟨by omega, by omega⟩) dL_stops_6 ?_
    refine q_lastore (pc := 7) C k232 n232 (by decide) (by decide) (by omega) (by omega) (by first | exact hR _ _ | exact hRo _ _ | assumption | exact r_bI _ | exact ⟨by omega, by omega⟩) dL_stops_7 ?_
    refine q_goto (pc := 8) (tgt := 14) C dL_stops_8 (by decide) ?_
    refine q_iconst (pc := 14) C dL_stops_14 ?_
    exact q_iret (pc := 15) C hret (Or.inr ⟨rfl, v9, σ9, hv9, hv2, rfl⟩) (by decide) (by decide) dL_stops_15
set_option maxHeartbeats 4000000 in
set_option maxRecDepth 100000 in
theorem w_live {l : Launch} (hlf : l.stackTraces = false) (D : va_G) (cy : Nat → ClassId) (B : Nat) {μ : St} {a0 : Int} (ha0 : InR a0) {x1 x2 : St → Prop} {f : Int → St → Prop} (h : PC l D cy B yX3_live wsX3_live (rk 3 7) [.ref (B + 0), iN a0] μ (qv f) (ex2 sIS x1 sIO x2)) : PC l D cy B yL_live wsL_live ((rk 3 8)) [.ref (B + 0), iN a0, .ref (B + 232)] μ (wz2 x1 x2 f) noX := by
  refine PC.pre (fun hR => ?_)
  refine q_startH (cc := cL_live) (maxL := 4) (ret := (some .int)) (hh := [(0, 16, 19, 15), (0, 16, 22, 25)]) hlf (by decide +kernel) rfl (by simp [Value.category]) (Nat.le_of_ble_eq_true rfl) ?_
  intro p e s m args below meth c C hret hex
  show PW p l e ((rk 3 8)) s m args below meth c D cy B 4 0 0 _ 0 [some (.ref (B + 0)), some (iN a0), some (.ref (B + 232)), none] [] μ
  refine q_aload_n (pc := 0) C dL_live_0 rfl rfl ?_
  refine q_iconst (pc := 1) C dL_live_1 ?_
  refine q_aload_n (pc := 2) C dL_live_2 rfl rfl ?_
  refine q_iload_n (pc := 3) C dL_live_3 rfl rfl ?_
  refine q_callV (pc := 4) (As := [_]) (rest := [_, _]) C h (cwV 1 C.2.2.2.2.1 gL_live_X3_live rfl rfl rfl (by decide +kernel) ⟨Nat.le_of_ble_eq_true rfl, Nat.le_of_ble_eq_true rfl⟩) (ci := 3) rfl k0 (by decide) (by decide) rfl rfl (by first | decide | simp [Value.category]) dL_live_4 (by decide) (fun E μ8 hx => ?_) (fun v σ9 hv => ?_)
  · rcases hx with ⟨e, hx⟩ | ⟨e, hx⟩
    · refine q_catch (name := sIS) C [] ⟨0, 16, 19, 15⟩ [⟨0, 16, 22, 25⟩] hex (fun z hz => absurd hz List.not_mem_nil) (by decide) (by decide) (by decide +kernel) e (by rw [e]; decide) (fun q => ?_)
      refine q_astore_n (pc := 19) (lv2 := [_, _, _, _]) C dL_live_19 rfl (by decide) rfl ?_
      refine q_iconst (pc := 20) C dL_live_20 ?_
      exact q_iret (pc := 21) C hret (Or.inl ⟨rfl, hx⟩) (by decide) (by decide) dL_live_21
    · refine q_catch (name := sIO) C [⟨0, 16, 19, 15⟩] ⟨0, 16, 22, 25⟩ [] hex (fun z hz => by rw [List.mem_singleton.mp hz]; exact Or.inr ⟨by decide, sIS, by decide +kernel, by rw [e]; decide⟩) (by decide) (by decide) (by decide +kernel) e (by rw [e]; decide) (fun q => ?_)
      refine q_astore_n (pc := 22) (lv2 := [_, _, _, _]) C dL_live_22 rfl (by decide) rfl ?_
      refine q_iconst (pc := 23) C dL_live_23 ?_
      exact q_iret (pc := 24) C hret (Or.inr (Or.inl ⟨rfl, hx⟩)) (by decide) (by decide) dL_live_24
  · obtain ⟨v9, hv9, hv1, hv2⟩ := hv
    subst hv1
    dsimp only [Option.toList, List.cons_append, List.nil_append]
    refine q_if_eq (pc := 7) (tgt := 14) C (by first | exact hR _ _ | exact hRo _ _ | assumption | exact r_bI _ | exact ⟨by omega, by omega⟩) dL_live_7 (by decide) (fun hq => ?_) (fun hq => ?_)
    · refine q_lconst (pc := 14) (k := 0) C (by decide +kernel) dL_live_14 ?_
      refine q_lastore (pc := 15) C k232 n232 (by decide) (by decide) (by omega) (by omega) (by first | exact hR _ _ | exact hRo _ _ | assumption | exact r_bI _ | exact ⟨by omega, by omega⟩) dL_live_15 ?_
      refine q_goto (pc := 16) (tgt := 25) C dL_live_16 (by decide) ?_
      refine q_iconst (pc := 25) C dL_live_25 ?_
      exact q_iret (pc := 26) C hret (Or.inr (Or.inr ⟨rfl, v9, σ9, hv9, hv2, by rw [if_pos hq]⟩)) (by decide) (by decide) dL_live_26
    · refine q_lconst (pc := 10) (k := 1) C (by decide +kernel) dL_live_10 ?_
      refine q_goto (pc := 11) (tgt := 15) C dL_live_11 (by decide) ?_
      refine q_lastore (pc := 15) C k232 n232 (by decide) (by decide) (by omega) (by omega) (by first | exact hR _ _ | exact hRo _ _ | assumption | exact r_bI _ | exact ⟨by omega, by omega⟩) dL_live_15 ?_
      refine q_goto (pc := 16) (tgt := 25) C dL_live_16 (by decide) ?_
      refine q_iconst (pc := 25) C dL_live_25 ?_
      exact q_iret (pc := 26) C hret (Or.inr (Or.inr ⟨rfl, v9, σ9, hv9, hv2, by rw [if_neg hq]⟩)) (by decide) (by decide) dL_live_26

