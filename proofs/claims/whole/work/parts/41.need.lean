theorem fiX3_discard_X0 : ∀ w ∈ u_ws RX0 TX0 9, w ∈ wsX3_discard := by decide +kernel
theorem fiX3_discard_X2 : ∀ w ∈ u_ws RX2 TX2 9, w ∈ wsX3_discard := by decide +kernel
theorem fiX3_discard_X3 : ∀ w ∈ u_ws RX3 TX3 4, w ∈ wsX3_discard := by decide +kernel
theorem fiX3_needGraph_X0 : ∀ w ∈ u_ws RX0 TX0 9, w ∈ wsX3_needGraph := by decide +kernel
theorem fiX3_needGraph_X3 : ∀ w ∈ u_ws RX3 TX3 4, w ∈ wsX3_needGraph := by decide +kernel
theorem fiX3_needNode_X2 : ∀ w ∈ u_ws RX2 TX2 9, w ∈ wsX3_needNode := by decide +kernel
theorem fiX3_needNode_X3 : ∀ w ∈ u_ws RX3 TX3 4, w ∈ wsX3_needNode := by decide +kernel
theorem fiX3_needPlace_X1 : ∀ w ∈ u_ws RX1 TX1 5, w ∈ wsX3_needPlace := by decide +kernel
theorem fiX3_needPlace_X3 : ∀ w ∈ u_ws RX3 TX3 4, w ∈ wsX3_needPlace := by decide +kernel
theorem fiX3_needState_X0 : ∀ w ∈ u_ws RX0 TX0 9, w ∈ wsX3_needState := by decide +kernel
theorem fiX3_needState_X3 : ∀ w ∈ u_ws RX3 TX3 4, w ∈ wsX3_needState := by decide +kernel
theorem fiX3_needTransition_X1 : ∀ w ∈ u_ws RX1 TX1 5, w ∈ wsX3_needTransition := by decide +kernel
theorem fiX3_needTransition_X3 : ∀ w ∈ u_ws RX3 TX3 4, w ∈ wsX3_needTransition := by decide +kernel
theorem fiX3_needTree_X2 : ∀ w ∈ u_ws RX2 TX2 9, w ∈ wsX3_needTree := by decide +kernel
theorem fiX3_needTree_X3 : ∀ w ∈ u_ws RX3 TX3 4, w ∈ wsX3_needTree := by decide +kernel
theorem flX3_discard_25 : Cond.fieldLink RX3 25 RX3 (TX3 2).2.1 (TX3 2).2.2.1 ∈ wsX3_discard := by decide +kernel
theorem flX3_discard_32 : Cond.fieldLink RX3 32 RX3 (TX3 3).2.1 (TX3 3).2.2.1 ∈ wsX3_discard := by decide +kernel
theorem flX3_needGraph_32 : Cond.fieldLink RX3 32 RX3 (TX3 3).2.1 (TX3 3).2.2.1 ∈ wsX3_needGraph := by decide +kernel
theorem flX3_needNode_25 : Cond.fieldLink RX3 25 RX3 (TX3 2).2.1 (TX3 2).2.2.1 ∈ wsX3_needNode := by decide +kernel
theorem flX3_needPlace_10 : Cond.fieldLink RX3 10 RX3 (TX3 0).2.1 (TX3 0).2.2.1 ∈ wsX3_needPlace := by decide +kernel
theorem flX3_needState_32 : Cond.fieldLink RX3 32 RX3 (TX3 3).2.1 (TX3 3).2.2.1 ∈ wsX3_needState := by decide +kernel
theorem flX3_needTransition_10 : Cond.fieldLink RX3 10 RX3 (TX3 0).2.1 (TX3 0).2.2.1 ∈ wsX3_needTransition := by decide +kernel
theorem flX3_needTree_25 : Cond.fieldLink RX3 25 RX3 (TX3 2).2.1 (TX3 2).2.2.1 ∈ wsX3_needTree := by decide +kernel
theorem hatX3_X3_needGraph_48 : ∀ w ∈ (vx_atS RX3 48 "java/lang/IllegalStateException" ["java/lang/RuntimeException", "java/lang/Exception"]).filter goodWord, w ∈ wsX3_needGraph := by decide +kernel
theorem hatX3_X3_needNode_178 : ∀ w ∈ (vx_atS RX3 178 "java/lang/IndexOutOfBoundsException" ["java/lang/RuntimeException", "java/lang/Exception"]).filter goodWord, w ∈ wsX3_needNode := by decide +kernel
theorem hatX3_X3_needPlace_178 : ∀ w ∈ (vx_atS RX3 178 "java/lang/IndexOutOfBoundsException" ["java/lang/RuntimeException", "java/lang/Exception"]).filter goodWord, w ∈ wsX3_needPlace := by decide +kernel
theorem hatX3_X3_needRange_131 : ∀ w ∈ (vx_atS RX3 131 "java/lang/IllegalArgumentException" ["java/lang/RuntimeException", "java/lang/Exception"]).filter goodWord, w ∈ wsX3_needRange := by decide +kernel
theorem hatX3_X3_needState_178 : ∀ w ∈ (vx_atS RX3 178 "java/lang/IndexOutOfBoundsException" ["java/lang/RuntimeException", "java/lang/Exception"]).filter goodWord, w ∈ wsX3_needState := by decide +kernel
theorem hatX3_X3_needTransition_178 : ∀ w ∈ (vx_atS RX3 178 "java/lang/IndexOutOfBoundsException" ["java/lang/RuntimeException", "java/lang/Exception"]).filter goodWord, w ∈ wsX3_needTransition := by decide +kernel
theorem hatX3_X3_needTree_48 : ∀ w ∈ (vx_atS RX3 48 "java/lang/IllegalStateException" ["java/lang/RuntimeException", "java/lang/Exception"]).filter goodWord, w ∈ wsX3_needTree := by decide +kernel
abbrev rk (n k : Nat) : Room := { frames := k, cells := n, slots := 6 * n, locals := 36 * k }
def qv (f : Int → St → Prop) : Option Value → St → Prop := fun r μ2 => ∃ v : Int, InR v ∧ r = some (iN v) ∧ f v μ2
def qn (f : St → Prop) : Option Value → St → Prop := fun r μ2 => r = none ∧ f μ2
def ex1 (E1 : String) (x1 : St → Prop) : String → St → Prop := fun E μ2 => E = E1 ∧ x1 μ2
def ex2 (E1 : String) (x1 : St → Prop) (E2 : String) (x2 : St → Prop) : String → St → Prop := fun E μ2 => (E = E1 ∧ x1 μ2) ∨ (E = E2 ∧ x2 μ2)
abbrev sIA : String := "java/lang/IllegalArgumentException"
abbrev sIS : String := "java/lang/IllegalStateException"
abbrev sIO : String := "java/lang/IndexOutOfBoundsException"
abbrev sUO : String := "java/lang/UnsupportedOperationException"
def disS (μ : St) : St := updS (updS μ 22 1 0) 128 1 0
theorem disS_ne (μ : St) {x : Nat} (h1 : x ≠ 22) (h2 : x ≠ 128) (k : Int) : disS μ x k = μ x k := by
  unfold disS
  rw [updS_ne _ _ _ _ h2, updS_ne _ _ _ _ h1]
section
variable {p : Program} {l : Launch} {e : Env} {R : Room} {s : State} {m : MethodId} {args : Array Value} {below : List Frame} {meth : Method} {c : Code} {D : va_G} {cy : Nat → ClassId} {B nL cells slots : Nat} {Q : State → Prop}
variable {cc : ByteArray} {own : String} {Ts : List Cond} {pc : Nat} {lv : List (Option Value)} {st : List Value} {μ : St}
theorem q_tableOut (C : Cx p l s m args meth c cc nL own Ts D cy B) {dflt lo hi : Int} {offs : Array Int} {len : Nat} {x : Int} {tgt : Nat} (hx : InR x) (hd : decode cc pc = .ok (.tableswitch dflt lo hi offs, len)) (h : x < lo ∨ hi < x) (ht : (pc : Int) + dflt = (tgt : Int)) (kk : PW p l e R s m args below meth c D cy B nL cells slots Q tgt lv st μ) : PW p l e R s m args below meth c D cy B nL cells slots Q pc lv (iN x :: st) μ := by
  intro hR H locs ls hP hS hl
  exact lv_tableOut C.1 C.2.1 hd (by rw [x_toInt hx]; exact h) ht (kk hR H locs ls hP hS hl)
theorem q_tableIn (C : Cx p l s m args meth c cc nL own Ts D cy B) {dflt lo hi : Int} {offs : Array Int} {len : Nat} {x off : Int} {tgt : Nat} (hx : InR x) (hd : decode cc pc = .ok (.tableswitch dflt lo hi offs, len)) (h1 : ¬ x < lo) (h2 : ¬ hi < x) (ho : offs[(x - lo).toNat]? = some off) (ht : (pc : Int) + off = (tgt : Int)) (kk : PW p l e R s m args below meth c D cy B nL cells slots Q tgt lv st μ) : PW p l e R s m args below meth c D cy B nL cells slots Q pc lv (iN x :: st) μ := by
  intro hR H locs ls hP hS hl
  exact lv_tableIn C.1 C.2.1 hd (by rw [x_toInt hx]; exact h1) (by rw [x_toInt hx]; exact h2) (by rw [x_toInt hx]; exact ho) ht (kk hR H locs ls hP hS hl)
end
set_option maxHeartbeats 4000000 in
set_option maxRecDepth 100000 in
theorem c_discard {l : Launch} (hlf : l.stackTraces = false) (D : va_G) (cy : Nat → ClassId) (B : Nat) {μ : St}  : PC l D cy B yX3_discard wsX3_discard (r0 0) [.ref (B + 0)] μ (ret0 (disS μ)) noX := by
  refine PC.pre (fun hR => ?_)
  refine q_start (cc := cX3_discard) (maxL := 1) (ret := none) hlf (by decide +kernel) rfl (by simp [Value.category]) (Nat.le_of_ble_eq_true rfl) ?_
  intro p e s m args below meth c C hret hno
  show PW p l e (r0 0) s m args below meth c D cy B 1 0 0 _ 0 [some (.ref (B + 0))] [] μ
  refine q_aload_n (pc := 0) C dX3_discard_0 rfl rfl ?_
  refine q_getR (pc := 1) (ci := 3) (k := 2) (r := 22) C rfl fiX3_discard_X3 (by decide) k0 (by decide) rfl (by decide) flX3_discard_25 rfl rfl dX3_discard_1 ?_
  refine q_iconst (pc := 4) C dX3_discard_4 ?_
  refine q_putN (pc := 5) (ci := 2) (k := 1) (ki := 1) (ty0 := tyX2) C rfl rfl fiX3_discard_X2 (by decide) k22 (by decide) rfl (by decide) (by decide +kernel) rfl tyX2_ok nmX2 rfl rfl rfl (by first | exact hR _ _ | exact hRo _ _ | assumption | exact ⟨by omega, by omega⟩) dX3_discard_5 ?_
  refine q_aload_n (pc := 8) C dX3_discard_8 rfl rfl ?_
  refine q_getR (pc := 9) (ci := 3) (k := 3) (r := 128) C rfl fiX3_discard_X3 (by decide) k0 (by decide) rfl (by decide) flX3_discard_32 rfl rfl dX3_discard_9 ?_
  refine q_iconst (pc := 12) C dX3_discard_12 ?_
  refine q_putN (pc := 13) (ci := 0) (k := 1) (ki := 1) (ty0 := tyX0) C rfl rfl fiX3_discard_X0 (by decide) k128 (by decide) rfl (by decide) (by decide +kernel) rfl tyX0_ok nmX0 rfl rfl rfl (by first | exact hR _ _ | exact hRo _ _ | assumption | exact ⟨by omega, by omega⟩) dX3_discard_13 ?_
  exact q_vret (pc := 16) C hret ⟨rfl, rfl⟩ (by decide) (by decide) dX3_discard_16
set_option maxHeartbeats 4000000 in
set_option maxRecDepth 100000 in
theorem c_needRange {l : Launch} (hlf : l.stackTraces = false) (D : va_G) (cy : Nat → ClassId) (B : Nat) {μ : St} {n i : Int} (hn : InR n) (hi : InR i) : PC l D cy B yX3_needRange wsX3_needRange ((rk 1 6)) [iN n, iN i] μ (qn (fun μ2 => (0 ≤ n ∧ n ≤ i) ∧ μ2 = μ)) (ex1 sIA (fun μ2 => ¬ (0 ≤ n ∧ n ≤ i) ∧ μ2 = μ)) := by
  refine PC.pre (fun hR => ?_)
  refine q_start (cc := cX3_needRange) (maxL := 2) (ret := none) hlf (by decide +kernel) rfl (by simp [Value.category]) (Nat.le_of_ble_eq_true rfl) ?_
  intro p e s m args below meth c C hret hno
  show PW p l e ((rk 1 6)) s m args below meth c D cy B 2 0 0 _ 0 [some (iN n), some (iN i)] [] μ
  refine q_iload_n (pc := 0) C dX3_needRange_0 rfl rfl ?_
  refine q_if_lt (pc := 1) (tgt := 9) C (by first | exact hR _ _ | exact hRo _ _ | assumption | exact ⟨by omega, by omega⟩) dX3_needRange_1 (by decide) (fun hc => ?_) (fun hc => ?_)
  · exact q_throw (pc := 9) (ik := 127) (is := 172) (ic := 131) (cls := "java/lang/IllegalArgumentException") (text := "a number is out of its range") (names := ["java/lang/RuntimeException", "java/lang/Exception"]) C (by decide +kernel) (by decide +kernel) (by decide +kernel) (by decide +kernel) (by decide +kernel) hatX3_X3_needRange_131 (by decide +kernel) (by decide +kernel) dX3_needRange_9 dX3_needRange_12 dX3_needRange_13 dX3_needRange_15 dX3_needRange_18 hno (Nat.le_of_ble_eq_true rfl) (Nat.le_of_ble_eq_true rfl) (by decide) (by decide) (⟨rfl, by omega, rfl⟩) (by decide) (by decide)
  · refine q_iload_n (pc := 4) C dX3_needRange_4 rfl rfl ?_
    refine q_iload_n (pc := 5) C dX3_needRange_5 rfl rfl ?_
    refine q_icmp_le (pc := 6) (tgt := 19) C (by first | exact hR _ _ | exact hRo _ _ | assumption | exact ⟨by omega, by omega⟩) (by first | exact hR _ _ | exact hRo _ _ | assumption | exact ⟨by omega, by omega⟩) dX3_needRange_6 (by decide) (fun hd => ?_) (fun hd => ?_)
    · exact q_vret (pc := 19) C hret ⟨rfl, by omega, rfl⟩ (by decide) (by decide) dX3_needRange_19
    · exact q_throw (pc := 9) (ik := 127) (is := 172) (ic := 131) (cls := "java/lang/IllegalArgumentException") (text := "a number is out of its range") (names := ["java/lang/RuntimeException", "java/lang/Exception"]) C (by decide +kernel) (by decide +kernel) (by decide +kernel) (by decide +kernel) (by decide +kernel) hatX3_X3_needRange_131 (by decide +kernel) (by decide +kernel) dX3_needRange_9 dX3_needRange_12 dX3_needRange_13 dX3_needRange_15 dX3_needRange_18 hno (Nat.le_of_ble_eq_true rfl) (Nat.le_of_ble_eq_true rfl) (by decide) (by decide) (⟨rfl, by omega, rfl⟩) (by decide) (by decide)
set_option maxHeartbeats 4000000 in
set_option maxRecDepth 100000 in
theorem c_needPlace {l : Launch} (hlf : l.stackTraces = false) (D : va_G) (cy : Nat → ClassId) (B : Nat) {μ : St} {P : Nat} {n : Int} (hn : InR n) (hP : μ 1 0 = P) : PC l D cy B yX3_needPlace wsX3_needPlace ((rk 1 6)) [.ref (B + 0), iN n] μ (qn (fun μ2 => (0 ≤ n ∧ n < P) ∧ μ2 = μ)) (ex1 sIO (fun μ2 => ¬ (0 ≤ n ∧ n < P) ∧ μ2 = μ)) := by
  refine PC.pre (fun hR => ?_)
  refine q_start (cc := cX3_needPlace) (maxL := 2) (ret := none) hlf (by decide +kernel) rfl (by simp [Value.category]) (Nat.le_of_ble_eq_true rfl) ?_
  intro p e s m args below meth c C hret hno
  show PW p l e ((rk 1 6)) s m args below meth c D cy B 2 0 0 _ 0 [some (.ref (B + 0)), some (iN n)] [] μ
  refine q_iload_n (pc := 0) C dX3_needPlace_0 rfl rfl ?_
  refine q_if_lt (pc := 1) (tgt := 15) C (by first | exact hR _ _ | exact hRo _ _ | assumption | exact ⟨by omega, by omega⟩) dX3_needPlace_1 (by decide) (fun hc => ?_) (fun hc => ?_)
  · exact q_throw (pc := 15) (ik := 174) (is := 176) (ic := 178) (cls := "java/lang/IndexOutOfBoundsException") (text := "no such place") (names := ["java/lang/RuntimeException", "java/lang/Exception"]) C (by decide +kernel) (by decide +kernel) (by decide +kernel) (by decide +kernel) (by decide +kernel) hatX3_X3_needPlace_178 (by decide +kernel) (by decide +kernel) dX3_needPlace_15 dX3_needPlace_18 dX3_needPlace_19 dX3_needPlace_21 dX3_needPlace_24 hno (Nat.le_of_ble_eq_true rfl) (Nat.le_of_ble_eq_true rfl) (by decide) (by decide) (⟨rfl, by omega, rfl⟩) (by decide) (by decide)
  · refine q_iload_n (pc := 4) C dX3_needPlace_4 rfl rfl ?_
    refine q_aload_n (pc := 5) C dX3_needPlace_5 rfl rfl ?_
    refine q_getR (pc := 6) (ci := 3) (k := 0) (r := 1) C rfl fiX3_needPlace_X3 (by decide) k0 (by decide) rfl (by decide) flX3_needPlace_10 rfl rfl dX3_needPlace_6 ?_
    refine q_getIN (pc := 9) (ci := 1) (k := 0) (ki := 0) C rfl rfl fiX3_needPlace_X1 (by decide) k1 (by decide) rfl (by decide) (by decide +kernel) rfl rfl dX3_needPlace_9 ?_
    refine q_icmp_lt (pc := 12) (tgt := 25) C (by first | exact hR _ _ | exact hRo _ _ | assumption | exact ⟨by omega, by omega⟩) (by first | exact hR _ _ | exact hRo _ _ | assumption | exact ⟨by omega, by omega⟩) dX3_needPlace_12 (by decide) (fun hd => ?_) (fun hd => ?_)
    · exact q_vret (pc := 25) C hret ⟨rfl, by omega, rfl⟩ (by decide) (by decide) dX3_needPlace_25
    · exact q_throw (pc := 15) (ik := 174) (is := 176) (ic := 178) (cls := "java/lang/IndexOutOfBoundsException") (text := "no such place") (names := ["java/lang/RuntimeException", "java/lang/Exception"]) C (by decide +kernel) (by decide +kernel) (by decide +kernel) (by decide +kernel) (by decide +kernel) hatX3_X3_needPlace_178 (by decide +kernel) (by decide +kernel) dX3_needPlace_15 dX3_needPlace_18 dX3_needPlace_19 dX3_needPlace_21 dX3_needPlace_24 hno (Nat.le_of_ble_eq_true rfl) (Nat.le_of_ble_eq_true rfl) (by decide) (by decide) (⟨rfl, by omega, rfl⟩) (by decide) (by decide)
set_option maxHeartbeats 4000000 in
set_option maxRecDepth 100000 in
theorem c_needTransition {l : Launch} (hlf : l.stackTraces = false) (D : va_G) (cy : Nat → ClassId) (B : Nat) {μ : St} {T : Nat} {n : Int} (hn : InR n) (hT : μ 1 1 = T) : PC l D cy B yX3_needTransition wsX3_needTransition ((rk 1 6)) [.ref (B + 0), iN n] μ (qn (fun μ2 => (0 ≤ n ∧ n < T) ∧ μ2 = μ)) (ex1 sIO (fun μ2 => ¬ (0 ≤ n ∧ n < T) ∧ μ2 = μ)) := by
  refine PC.pre (fun hR => ?_)
  refine q_start (cc := cX3_needTransition) (maxL := 2) (ret := none) hlf (by decide +kernel) rfl (by simp [Value.category]) (Nat.le_of_ble_eq_true rfl) ?_
  intro p e s m args below meth c C hret hno
  show PW p l e ((rk 1 6)) s m args below meth c D cy B 2 0 0 _ 0 [some (.ref (B + 0)), some (iN n)] [] μ
  refine q_iload_n (pc := 0) C dX3_needTransition_0 rfl rfl ?_
  refine q_if_lt (pc := 1) (tgt := 15) C (by first | exact hR _ _ | exact hRo _ _ | assumption | exact ⟨by omega, by omega⟩) dX3_needTransition_1 (by decide) (fun hc => ?_) (fun hc => ?_)
  · exact q_throw (pc := 15) (ik := 174) (is := 179) (ic := 178) (cls := "java/lang/IndexOutOfBoundsException") (text := "no such transition") (names := ["java/lang/RuntimeException", "java/lang/Exception"]) C (by decide +kernel) (by decide +kernel) (by decide +kernel) (by decide +kernel) (by decide +kernel) hatX3_X3_needTransition_178 (by decide +kernel) (by decide +kernel) dX3_needTransition_15 dX3_needTransition_18 dX3_needTransition_19 dX3_needTransition_21 dX3_needTransition_24 hno (Nat.le_of_ble_eq_true rfl) (Nat.le_of_ble_eq_true rfl) (by decide) (by decide) (⟨rfl, by omega, rfl⟩) (by decide) (by decide)
  · refine q_iload_n (pc := 4) C dX3_needTransition_4 rfl rfl ?_
    refine q_aload_n (pc := 5) C dX3_needTransition_5 rfl rfl ?_
    refine q_getR (pc := 6) (ci := 3) (k := 0) (r := 1) C rfl fiX3_needTransition_X3 (by decide) k0 (by decide) rfl (by decide) flX3_needTransition_10 rfl rfl dX3_needTransition_6 ?_
    refine q_getIN (pc := 9) (ci := 1) (k := 1) (ki := 1) C rfl rfl fiX3_needTransition_X1 (by decide) k1 (by decide) rfl (by decide) (by decide +kernel) rfl rfl dX3_needTransition_9 ?_
    refine q_icmp_lt (pc := 12) (tgt := 25) C (by first | exact hR _ _ | exact hRo _ _ | assumption | exact ⟨by omega, by omega⟩) (by first | exact hR _ _ | exact hRo _ _ | assumption | exact ⟨by omega, by omega⟩) dX3_needTransition_12 (by decide) (fun hd => ?_) (fun hd => ?_)
    · exact q_vret (pc := 25) C hret ⟨rfl, by omega, rfl⟩ (by decide) (by decide) dX3_needTransition_25
    · exact q_throw (pc := 15) (ik := 174) (is := 179) (ic := 178) (cls := "java/lang/IndexOutOfBoundsException") (text := "no such transition") (names := ["java/lang/RuntimeException", "java/lang/Exception"]) C (by decide +kernel) (by decide +kernel) (by decide +kernel) (by decide +kernel) (by decide +kernel) hatX3_X3_needTransition_178 (by decide +kernel) (by decide +kernel) dX3_needTransition_15 dX3_needTransition_18 dX3_needTransition_19 dX3_needTransition_21 dX3_needTransition_24 hno (Nat.le_of_ble_eq_true rfl) (Nat.le_of_ble_eq_true rfl) (by decide) (by decide) (⟨rfl, by omega, rfl⟩) (by decide) (by decide)
set_option maxHeartbeats 4000000 in
set_option maxRecDepth 100000 in
theorem c_needTree {l : Launch} (hlf : l.stackTraces = false) (D : va_G) (cy : Nat → ClassId) (B : Nat) {μ : St}  : PC l D cy B yX3_needTree wsX3_needTree ((rk 1 6)) [.ref (B + 0)] μ (qn (fun μ2 => ¬ μ 22 1 = 0 ∧ μ2 = μ)) (ex1 sIS (fun μ2 => μ 22 1 = 0 ∧ μ2 = μ)) := by
  refine PC.pre (fun hR => ?_)
  refine q_start (cc := cX3_needTree) (maxL := 1) (ret := none) hlf (by decide +kernel) rfl (by simp [Value.category]) (Nat.le_of_ble_eq_true rfl) ?_
  intro p e s m args below meth c C hret hno
  show PW p l e ((rk 1 6)) s m args below meth c D cy B 1 0 0 _ 0 [some (.ref (B + 0))] [] μ
  refine q_aload_n (pc := 0) C dX3_needTree_0 rfl rfl ?_
  refine q_getR (pc := 1) (ci := 3) (k := 2) (r := 22) C rfl fiX3_needTree_X3 (by decide) k0 (by decide) rfl (by decide) flX3_needTree_25 rfl rfl dX3_needTree_1 ?_
  refine q_getIN (pc := 4) (ci := 2) (k := 1) (ki := 1) C rfl rfl fiX3_needTree_X2 (by decide) k22 (by decide) rfl (by decide) (by decide +kernel) rfl rfl dX3_needTree_4 ?_
  refine q_if_ne (pc := 7) (tgt := 20) C (by first | exact hR _ _ | exact hRo _ _ | assumption | exact ⟨by omega, by omega⟩) dX3_needTree_7 (by decide) (fun hc => ?_) (fun hc => ?_)
  · exact q_vret (pc := 20) C hret ⟨rfl, hc, rfl⟩ (by decide) (by decide) dX3_needTree_20
  · exact q_throw (pc := 10) (ik := 44) (is := 181) (ic := 48) (cls := "java/lang/IllegalStateException") (text := "there is no tree") (names := ["java/lang/RuntimeException", "java/lang/Exception"]) C (by decide +kernel) (by decide +kernel) (by decide +kernel) (by decide +kernel) (by decide +kernel) hatX3_X3_needTree_48 (by decide +kernel) (by decide +kernel) dX3_needTree_10 dX3_needTree_13 dX3_needTree_14 dX3_needTree_16 dX3_needTree_19 hno (Nat.le_of_ble_eq_true rfl) (Nat.le_of_ble_eq_true rfl) (by decide) (by decide) (⟨rfl, by omega, rfl⟩) (by decide) (by decide)
set_option maxHeartbeats 4000000 in
set_option maxRecDepth 100000 in
theorem c_needNode {l : Launch} (hlf : l.stackTraces = false) (D : va_G) (cy : Nat → ClassId) (B : Nat) {μ : St} {n : Int} (hn : InR n) : PC l D cy B yX3_needNode wsX3_needNode ((rk 1 6)) [.ref (B + 0), iN n] μ (qn (fun μ2 => (0 ≤ n ∧ n < μ 22 1) ∧ μ2 = μ)) (ex1 sIO (fun μ2 => ¬ (0 ≤ n ∧ n < μ 22 1) ∧ μ2 = μ)) := by
  refine PC.pre (fun hR => ?_)
  refine q_start (cc := cX3_needNode) (maxL := 2) (ret := none) hlf (by decide +kernel) rfl (by simp [Value.category]) (Nat.le_of_ble_eq_true rfl) ?_
  intro p e s m args below meth c C hret hno
  show PW p l e ((rk 1 6)) s m args below meth c D cy B 2 0 0 _ 0 [some (.ref (B + 0)), some (iN n)] [] μ
  refine q_iload_n (pc := 0) C dX3_needNode_0 rfl rfl ?_
  refine q_if_lt (pc := 1) (tgt := 15) C (by first | exact hR _ _ | exact hRo _ _ | assumption | exact ⟨by omega, by omega⟩) dX3_needNode_1 (by decide) (fun hc => ?_) (fun hc => ?_)
  · exact q_throw (pc := 15) (ik := 174) (is := 183) (ic := 178) (cls := "java/lang/IndexOutOfBoundsException") (text := "no such node") (names := ["java/lang/RuntimeException", "java/lang/Exception"]) C (by decide +kernel) (by decide +kernel) (by decide +kernel) (by decide +kernel) (by decide +kernel) hatX3_X3_needNode_178 (by decide +kernel) (by decide +kernel) dX3_needNode_15 dX3_needNode_18 dX3_needNode_19 dX3_needNode_21 dX3_needNode_24 hno (Nat.le_of_ble_eq_true rfl) (Nat.le_of_ble_eq_true rfl) (by decide) (by decide) (⟨rfl, by omega, rfl⟩) (by decide) (by decide)
  · refine q_iload_n (pc := 4) C dX3_needNode_4 rfl rfl ?_
    refine q_aload_n (pc := 5) C dX3_needNode_5 rfl rfl ?_
    refine q_getR (pc := 6) (ci := 3) (k := 2) (r := 22) C rfl fiX3_needNode_X3 (by decide) k0 (by decide) rfl (by decide) flX3_needNode_25 rfl rfl dX3_needNode_6 ?_
    refine q_getIN (pc := 9) (ci := 2) (k := 1) (ki := 1) C rfl rfl fiX3_needNode_X2 (by decide) k22 (by decide) rfl (by decide) (by decide +kernel) rfl rfl dX3_needNode_9 ?_
    refine q_icmp_lt (pc := 12) (tgt := 25) C (by first | exact hR _ _ | exact hRo _ _ | assumption | exact ⟨by omega, by omega⟩) (by first | exact hR _ _ | exact hRo _ _ | assumption | exact ⟨by omega, by omega⟩) dX3_needNode_12 (by decide) (fun hd => ?_) (fun hd => ?_)
    · exact q_vret (pc := 25) C hret ⟨rfl, by omega, rfl⟩ (by decide) (by decide) dX3_needNode_25
    · exact q_throw (pc := 15) (ik := 174) (is := 183) (ic := 178) (cls := "java/lang/IndexOutOfBoundsException") (text := "no such node") (names := ["java/lang/RuntimeException", "java/lang/Exception"]) C (by decide +kernel) (by decide +kernel) (by decide +kernel) (by decide +kernel) (by decide +kernel) hatX3_X3_needNode_178 (by decide +kernel) (by decide +kernel) dX3_needNode_15 dX3_needNode_18 dX3_needNode_19 dX3_needNode_21 dX3_needNode_24 hno (Nat.le_of_ble_eq_true rfl) (Nat.le_of_ble_eq_true rfl) (by decide) (by decide) (⟨rfl, by omega, rfl⟩) (by decide) (by decide)
set_option maxHeartbeats 4000000 in
set_option maxRecDepth 100000 in
theorem c_needGraph {l : Launch} (hlf : l.stackTraces = false) (D : va_G) (cy : Nat → ClassId) (B : Nat) {μ : St}  : PC l D cy B yX3_needGraph wsX3_needGraph ((rk 1 6)) [.ref (B + 0)] μ (qn (fun μ2 => ¬ μ 128 1 = 0 ∧ μ2 = μ)) (ex1 sIS (fun μ2 => μ 128 1 = 0 ∧ μ2 = μ)) := by
  refine PC.pre (fun hR => ?_)
  refine q_start (cc := cX3_needGraph) (maxL := 1) (ret := none) hlf (by decide +kernel) rfl (by simp [Value.category]) (Nat.le_of_ble_eq_true rfl) ?_
  intro p e s m args below meth c C hret hno
  show PW p l e ((rk 1 6)) s m args below meth c D cy B 1 0 0 _ 0 [some (.ref (B + 0))] [] μ
  refine q_aload_n (pc := 0) C dX3_needGraph_0 rfl rfl ?_
  refine q_getR (pc := 1) (ci := 3) (k := 3) (r := 128) C rfl fiX3_needGraph_X3 (by decide) k0 (by decide) rfl (by decide) flX3_needGraph_32 rfl rfl dX3_needGraph_1 ?_
  refine q_getIN (pc := 4) (ci := 0) (k := 1) (ki := 1) C rfl rfl fiX3_needGraph_X0 (by decide) k128 (by decide) rfl (by decide) (by decide +kernel) rfl rfl dX3_needGraph_4 ?_
  refine q_if_ne (pc := 7) (tgt := 20) C (by first | exact hR _ _ | exact hRo _ _ | assumption | exact ⟨by omega, by omega⟩) dX3_needGraph_7 (by decide) (fun hc => ?_) (fun hc => ?_)
  · exact q_vret (pc := 20) C hret ⟨rfl, hc, rfl⟩ (by decide) (by decide) dX3_needGraph_20
  · exact q_throw (pc := 10) (ik := 44) (is := 185) (ic := 48) (cls := "java/lang/IllegalStateException") (text := "there is no graph") (names := ["java/lang/RuntimeException", "java/lang/Exception"]) C (by decide +kernel) (by decide +kernel) (by decide +kernel) (by decide +kernel) (by decide +kernel) hatX3_X3_needGraph_48 (by decide +kernel) (by decide +kernel) dX3_needGraph_10 dX3_needGraph_13 dX3_needGraph_14 dX3_needGraph_16 dX3_needGraph_19 hno (Nat.le_of_ble_eq_true rfl) (Nat.le_of_ble_eq_true rfl) (by decide) (by decide) (⟨rfl, by omega, rfl⟩) (by decide) (by decide)
set_option maxHeartbeats 4000000 in
set_option maxRecDepth 100000 in
theorem c_needState {l : Launch} (hlf : l.stackTraces = false) (D : va_G) (cy : Nat → ClassId) (B : Nat) {μ : St} {n : Int} (hn : InR n) : PC l D cy B yX3_needState wsX3_needState ((rk 1 6)) [.ref (B + 0), iN n] μ (qn (fun μ2 => (0 ≤ n ∧ n < μ 128 1) ∧ μ2 = μ)) (ex1 sIO (fun μ2 => ¬ (0 ≤ n ∧ n < μ 128 1) ∧ μ2 = μ)) := by
  refine PC.pre (fun hR => ?_)
  refine q_start (cc := cX3_needState) (maxL := 2) (ret := none) hlf (by decide +kernel) rfl (by simp [Value.category]) (Nat.le_of_ble_eq_true rfl) ?_
  intro p e s m args below meth c C hret hno
  show PW p l e ((rk 1 6)) s m args below meth c D cy B 2 0 0 _ 0 [some (.ref (B + 0)), some (iN n)] [] μ
  refine q_iload_n (pc := 0) C dX3_needState_0 rfl rfl ?_
  refine q_if_lt (pc := 1) (tgt := 15) C (by first | exact hR _ _ | exact hRo _ _ | assumption | exact ⟨by omega, by omega⟩) dX3_needState_1 (by decide) (fun hc => ?_) (fun hc => ?_)
  · exact q_throw (pc := 15) (ik := 174) (is := 187) (ic := 178) (cls := "java/lang/IndexOutOfBoundsException") (text := "no such state") (names := ["java/lang/RuntimeException", "java/lang/Exception"]) C (by decide +kernel) (by decide +kernel) (by decide +kernel) (by decide +kernel) (by decide +kernel) hatX3_X3_needState_178 (by decide +kernel) (by decide +kernel) dX3_needState_15 dX3_needState_18 dX3_needState_19 dX3_needState_21 dX3_needState_24 hno (Nat.le_of_ble_eq_true rfl) (Nat.le_of_ble_eq_true rfl) (by decide) (by decide) (⟨rfl, by omega, rfl⟩) (by decide) (by decide)
  · refine q_iload_n (pc := 4) C dX3_needState_4 rfl rfl ?_
    refine q_aload_n (pc := 5) C dX3_needState_5 rfl rfl ?_
    refine q_getR (pc := 6) (ci := 3) (k := 3) (r := 128) C rfl fiX3_needState_X3 (by decide) k0 (by decide) rfl (by decide) flX3_needState_32 rfl rfl dX3_needState_6 ?_
    refine q_getIN (pc := 9) (ci := 0) (k := 1) (ki := 1) C rfl rfl fiX3_needState_X0 (by decide) k128 (by decide) rfl (by decide) (by decide +kernel) rfl rfl dX3_needState_9 ?_
    refine q_icmp_lt (pc := 12) (tgt := 25) C (by first | exact hR _ _ | exact hRo _ _ | assumption | exact ⟨by omega, by omega⟩) (by first | exact hR _ _ | exact hRo _ _ | assumption | exact ⟨by omega, by omega⟩) dX3_needState_12 (by decide) (fun hd => ?_) (fun hd => ?_)
    · exact q_vret (pc := 25) C hret ⟨rfl, by omega, rfl⟩ (by decide) (by decide) dX3_needState_25
    · exact q_throw (pc := 15) (ik := 174) (is := 187) (ic := 178) (cls := "java/lang/IndexOutOfBoundsException") (text := "no such state") (names := ["java/lang/RuntimeException", "java/lang/Exception"]) C (by decide +kernel) (by decide +kernel) (by decide +kernel) (by decide +kernel) (by decide +kernel) hatX3_X3_needState_178 (by decide +kernel) (by decide +kernel) dX3_needState_15 dX3_needState_18 dX3_needState_19 dX3_needState_21 dX3_needState_24 hno (Nat.le_of_ble_eq_true rfl) (Nat.le_of_ble_eq_true rfl) (by decide) (by decide) (⟨rfl, by omega, rfl⟩) (by decide) (by decide)

