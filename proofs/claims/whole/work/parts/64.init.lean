section
def PI (l : Launch) (D : va_G) (cy : Nat → ClassId) (B : Nat) (y : MethodName) (ws : List Cond) (rm : Room) (as : List Value) (rf : Nat → Nat → Bool) (μ : St) (n : Nat) (rf2 : Nat → Nat → Bool) (μ2 : St) (n2 : Nat) : Prop :=
  Met l y ws rm (fun a s => a = as.toArray ∧ EF D cy B s ∧ AO s ∧ va_P D vwCl (WR B cy rf μ n) s.heap ∧ s.heap.size = B + n) (fun _ st o t => o = .returned none ∧ va_P D vwCl (WR B cy rf2 μ2 n2) t.heap ∧ t.heap.size = B + n2 ∧ va_F (fun q => B ≤ q) st t) rm.cells rm.slots (fun q => B ≤ q)
abbrev QI (D : va_G) (cy : Nat → ClassId) (B : Nat) (rf2 : Nat → Nat → Bool) (μ2 : St) (n2 : Nat) : Array Value → State → Outcome → State → Prop := fun _ st o t => o = .returned none ∧ va_P D vwCl (WR B cy rf2 μ2 n2) t.heap ∧ t.heap.size = B + n2 ∧ va_F (fun q => B ≤ q) st t
variable {p : Program} {l : Launch} {e : Env} {R : Room} {s : State} {m : MethodId} {args : Array Value} {below : List Frame} {meth : Method} {c : Code} {D : va_G} {cy : Nat → ClassId} {B nL cells slots : Nat} {Q : State → Prop}
variable {cc : ByteArray} {own : String} {Ts : List Cond} {pc : Nat} {lv : List (Option Value)} {st : List Value} {μ : St} {rf : Nat → Nat → Bool} {n : Nat}
theorem v_start {y : MethodName} {ws ws2 : List Cond} {rm : Room} {as : List Value} {rf2 : Nat → Nat → Bool} {μ2 : St} {n2 maxL : Nat} (hy : plainName y.cls = true) (hy2 : y.name = "<init>") (hw : ws = Cond.code y cc maxL none :: ws2) (hcat : ∀ v ∈ as, v.category = 1) (hlen : as.length ≤ maxL)
    (body : ∀ (p : Program) (e : Env) (s : State) (m : MethodId) (args : Array Value) (below : List Frame) (meth : Method) (c : Code), Cz p l s m args meth c cc maxL y.cls ws D cy B → meth.name = "<init>" → meth.sig.returnType = none →
      PV p l e rm s m args below meth c D cy B maxL 0 0 (MQ below (QI D cy B rf2 μ2 n2) args s rm.cells rm.slots (fun q => B ≤ q)) 0 (as.map some ++ List.replicate (maxL - as.length) none) [] rf μ n) : PI l D cy B y ws rm as rf μ n rf2 μ2 n2 := by
  refine Met.ofW hy hw ?_
  intro p e s m args below meth c s₁ Bd hml hp
  obtain ⟨rfl, hE, hA, hP, hz⟩ := hp
  rw [lg_entry_eq]
  exact body p e s m _ below meth c ⟨⟨Bd.exec, Bd.bytes, hml, findClass_of_methodNamed Bd.named, atoms_spec (ws := ws) Bd.pre⟩, hE, Bd.notSynchronized, by omega, hA⟩ ((name_of_methodNamed Bd.named Bd.method).1.trans hy2) Bd.returns s.heap [] _ hP hz va_S.rf (lh_entry hcat hlen)
theorem v_vret (C : Cz p l s m args meth c cc nL own Ts D cy B) (hret : meth.sig.returnType = none) {mc ms : Nat} (hc : cells ≤ mc) (hs : slots ≤ ms) (hd : decode cc pc = .ok (.return_, 1)) : PV p l e R s m args below meth c D cy B nL cells slots (MQ below (QI D cy B rf μ n) args s mc ms (fun q => B ≤ q)) pc lv [] rf μ n := by
  intro H locs ls hP hz hS hl
  have hlk : meth.locks = false := C.2.2.1
  exact W.widen hc hs (W.vret C.1.1 C.1.2.1 hret (fun t ht hW => ⟨rfl, by rw [ht]; exact hP, by rw [ht]; exact hz, hS.F ht⟩) hS.2.2 hd hlk)
theorem v_after {H : Heap} {locs : List Loc} {ls : Array Slot} {st0 rest : List Value} {rm : Room} {As : Array Value} {rf2 : Nat → Nat → Bool} {μ2 : St} {n2 : Nat} (hr : va_Run p l e R s m args below meth c H locs cells slots rm.cells rm.slots (F0 m pc ls st0) rest (QI D cy B rf2 μ2 n2 As) (fun q => B ≤ q)) (hS : va_S (fun q => B ≤ q) s.heap H locs) (hl : lh ls nL lv) (kk : PV p l e R s m args below meth c D cy B nL (cells + rm.cells) (slots + rm.slots) Q (pc + 3) lv rest rf2 μ2 n2) : W p l e R s m args below meth c H locs cells slots Q (F0 m pc ls st0) := by
  intro T hT X
  obtain ⟨v, st₀, t, T2, L, h0, X2, hL, e1, e2, ⟨hv, hP2, hz2, hF⟩, st9⟩ := hr T hT X
  cases hv
  obtain ⟨f1, f2⟩ := hF
  rw [h0] at f1 f2
  obtain ⟨t2, a1, b1⟩ := kk T2.heap (locs ++ L) ls (by rw [e1]; exact hP2) (by rw [e1]; exact hz2) ⟨Nat.le_trans hS.1 (by rw [e1]; exact f1), fun q h1 h2 => by rw [e1, f2 q (Nat.lt_of_lt_of_le h1 hS.1) h2]; exact hS.2.1 q h1 h2, fun q hq => by
    rcases List.mem_append.mp hq with h | h
    · exact hS.2.2 q h
    · exact hL q h⟩ hl T2 rfl X2
  exact ⟨t2, st9 t2 a1, b1⟩
theorem PI_blind {as : List Value} : FrameBlind (fun (a : Array Value) (s : State) => a = as.toArray ∧ EF D cy B s ∧ AO s ∧ va_P D vwCl (WR B cy rf μ n) s.heap ∧ s.heap.size = B + n) := fun a U g mk h => ⟨h.1, h.2.1.calling g mk a, AO.moved (u := U) (U := U.calling g mk a) (Vm.Alike.refl U.vm) h.2.2.1, h.2.2.2⟩
theorem v_callI (C : Cz p l s m args meth c cc nL own Ts D cy B) {y : MethodName} {ws : List Cond} {rm : Room} {k index maxL b : Nat} {bytes : ByteArray} {As rest st0 : List Value} {rf2 : Nat → Nat → Bool} {μ2 : St} {n2 : Nat} (hM : PI l D cy B y ws rm (.ref (B + b) :: As) rf μ n rf2 μ2 n2) (cw : CallB R s args own index y bytes maxL none ws rm rm.cells rm.slots k ∧ y.name = "<init>" ∧ (Cond.instanceMethod y).before args s = true) (hn : As.length = k) (hst : st0 = As.reverse ++ .ref (B + b) :: rest) (hW : (rest.map fun v => v.category).sum ≤ 8) (hd : decode cc pc = .ok (.invokespecial index, 3)) (hf : cells + rm.cells ≤ R.cells ∧ slots + rm.slots ≤ R.slots) (kk : PV p l e R s m args below meth c D cy B nL (cells + rm.cells) (slots + rm.slots) Q (pc + 3) lv rest rf2 μ2 n2) : PV p l e R s m args below meth c D cy B nL cells slots Q pc lv st0 rf μ n := by
  intro H locs ls hP hz hS hl
  exact v_after (va_runI (As := As) (rest := rest) C.1 hM cw ⟨PI_blind, fun U hU hW9 => ⟨rfl, C.2.1.step hS hW9 hU, AO.moved hW9.alike C.2.2.2.2, by rw [hU]; exact hP, by rw [hU]; exact hz⟩⟩ rfl hn hl.size hst (lv_room hW) hd hf) hS hl kk
theorem v_callIN (C : Cz p l s m args meth c cc nL own Ts D cy B) {y : MethodName} {ws : List Cond} {rm : Room} {k index maxL b : Nat} {host : String} {bytes : ByteArray} {As rest st0 : List Value} {rf2 : Nat → Nat → Bool} {μ2 : St} {n2 : Nat} (hM : PI l D cy B y ws rm (.ref (B + b) :: As) rf μ n rf2 μ2 n2) (cw : va_CN R s args own index y host bytes maxL none ws rm rm.cells rm.slots k ∧ y.name = "<init>" ∧ (Cond.instanceMethod y).before args s = true) (hn : As.length = k) (hst : st0 = As.reverse ++ .ref (B + b) :: rest) (hW : (rest.map fun v => v.category).sum ≤ 8) (hd : decode cc pc = .ok (.invokespecial index, 3)) (hf : cells + rm.cells ≤ R.cells ∧ slots + rm.slots ≤ R.slots) (kk : PV p l e R s m args below meth c D cy B nL (cells + rm.cells) (slots + rm.slots) Q (pc + 3) lv rest rf2 μ2 n2) : PV p l e R s m args below meth c D cy B nL cells slots Q pc lv st0 rf μ n := by
  intro H locs ls hP hz hS hl
  exact v_after (va_runIN (As := As) (rest := rest) C.1 hM cw ⟨PI_blind, fun U hU hW9 => ⟨rfl, C.2.1.step hS hW9 hU, AO.moved hW9.alike C.2.2.2.2, by rw [hU]; exact hP, by rw [hU]; exact hz⟩⟩ rfl hn hl.size hst (lv_room hW) hd hf) hS hl kk
end
abbrev μz : St := fun _ _ => 0
abbrev rz : Nat → Nat → Bool := fun _ _ => false
theorem fiX1_init_X1 : ∀ w ∈ u_ws RX1 TX1 5, w ∈ wsX1_init := by decide +kernel
set_option maxHeartbeats 4000000 in
set_option maxRecDepth 100000 in
theorem iX1_init {l : Launch} (D : va_G) (cy : Nat → ClassId) (B : Nat) (rf : Nat → Nat → Bool) : PI l D cy B yX1_init wsX1_init { frames := 1, cells := 19, slots := 118, locals := 36 } [.ref (B + 1)] rf μz 2 (rfS (rfS (rfS rf 1 2) 1 3) 1 4) μz 21 := by
  refine v_start (cc := cX1_init) (maxL := 1) (by decide +kernel) rfl rfl (by simp [Value.category]) (Nat.le_of_ble_eq_true rfl) ?_
  intro p e s m args below meth c C hini hret
  refine v_aload_n (pc := 0) C dX1_init_0 rfl rfl ?_
  refine v_objInit (pc := 1) C (by decide +kernel) (by decide +kernel) (by decide +kernel) dX1_init_1 (Nat.le_of_ble_eq_true rfl) (Nat.le_of_ble_eq_true rfl) ?_
  refine v_aload_n (pc := 4) C dX1_init_4 rfl rfl ?_
  refine v_bipush (pc := 5) C (by decide +kernel) dX1_init_5 ?_
  refine v_newa (pc := 7) (atype := .int) (ty := .int) (N := 6) (t0 := 0) (t9 := 5) C rfl (by decide +kernel) rfl (fun _ h => h) (by decide) (by decide) (by decide) (by decide) (he_int (by decide) (by decide) (fun _ => rfl)) (Nat.le_of_ble_eq_true rfl) (Nat.le_of_ble_eq_true rfl) dX1_init_7 ?_
  refine v_putR (pc := 9) (ci := 1) (k := 2) C hini rfl fiX1_init_X1 (by decide) (by decide) (by decide) rfl (by decide) (by decide +kernel) rfl rfl tyX1_ok nmX1 rfl rfl rfl rfl dX1_init_9 ?_
  refine v_aload_n (pc := 12) C dX1_init_12 rfl rfl ?_
  refine v_bipush (pc := 13) C (by decide +kernel) dX1_init_13 ?_
  refine v_bipush (pc := 15) C (by decide +kernel) dX1_init_15 ?_
  refine v_multi (pc := 17) (N := 8) (M := 6) C (by decide +kernel) (by decide +kernel) (by decide) (by decide) (by decide) (by decide) (by decide) (by decide) (by decide) (by decide) (fun i _ => rfl) (fun i hi => ⟨k_r3 hi, n_r3 hi, (fun _ => rfl)⟩) (Nat.le_of_ble_eq_true rfl) (Nat.le_of_ble_eq_true rfl) dX1_init_17 ?_
  refine v_putR (pc := 21) (ci := 1) (k := 3) C hini rfl fiX1_init_X1 (by decide) (by decide) (by decide) rfl (by decide) (by decide +kernel) rfl rfl tyX1_ok nmX1 rfl rfl rfl rfl dX1_init_21 ?_
  refine v_aload_n (pc := 24) C dX1_init_24 rfl rfl ?_
  refine v_bipush (pc := 25) C (by decide +kernel) dX1_init_25 ?_
  refine v_bipush (pc := 27) C (by decide +kernel) dX1_init_27 ?_
  refine v_multi (pc := 29) (N := 8) (M := 6) C (by decide +kernel) (by decide +kernel) (by decide) (by decide) (by decide) (by decide) (by decide) (by decide) (by decide) (by decide) (fun i _ => rfl) (fun i hi => ⟨k_r12 hi, n_r12 hi, (fun _ => rfl)⟩) (Nat.le_of_ble_eq_true rfl) (Nat.le_of_ble_eq_true rfl) dX1_init_29 ?_
  refine v_putR (pc := 33) (ci := 1) (k := 4) C hini rfl fiX1_init_X1 (by decide) (by decide) (by decide) rfl (by decide) (by decide +kernel) rfl rfl tyX1_ok nmX1 rfl rfl rfl rfl dX1_init_33 ?_
  exact v_vret (pc := 36) C hret (by decide) (by decide) dX1_init_36
theorem fiX2_init_X2 : ∀ w ∈ u_ws RX2 TX2 9, w ∈ wsX2_init := by decide +kernel
set_option maxHeartbeats 4000000 in
set_option maxRecDepth 100000 in
theorem iX2_init {l : Launch} (D : va_G) (cy : Nat → ClassId) (B : Nat) (rf : Nat → Nat → Bool) : PI l D cy B yX2_init wsX2_init { frames := 1, cells := 105, slots := 1100, locals := 36 } [.ref (B + 22), .ref (B + 1)] rf μz 23 (rfS (rfS (rfS (rfS (rfS (rfS rf 22 4) 22 5) 22 6) 22 7) 22 8) 22 0) μz 128 := by
  refine v_start (cc := cX2_init) (maxL := 2) (by decide +kernel) rfl rfl (by simp [Value.category]) (Nat.le_of_ble_eq_true rfl) ?_
  intro p e s m args below meth c C hini hret
  refine v_aload_n (pc := 0) C dX2_init_0 rfl rfl ?_
  refine v_objInit (pc := 1) C (by decide +kernel) (by decide +kernel) (by decide +kernel) dX2_init_1 (Nat.le_of_ble_eq_true rfl) (Nat.le_of_ble_eq_true rfl) ?_
  refine v_aload_n (pc := 4) C dX2_init_4 rfl rfl ?_
  refine v_bipush (pc := 5) C (by decide +kernel) dX2_init_5 ?_
  refine v_bipush (pc := 7) C (by decide +kernel) dX2_init_7 ?_
  refine v_multi (pc := 9) (N := 100) (M := 6) C (by decide +kernel) (by decide +kernel) (by decide) (by decide) (by decide) (by decide) (by decide) (by decide) (by decide) (by decide) (fun i _ => rfl) (fun i hi => ⟨k_r23 hi, n_r23 hi, (fun _ => rfl)⟩) (Nat.le_of_ble_eq_true rfl) (Nat.le_of_ble_eq_true rfl) dX2_init_9 ?_
  refine v_putR (pc := 13) (ci := 2) (k := 4) C hini rfl fiX2_init_X2 (by decide) (by decide) (by decide) rfl (by decide) (by decide +kernel) rfl rfl tyX2_ok nmX2 rfl rfl rfl rfl dX2_init_13 ?_
  refine v_aload_n (pc := 16) C dX2_init_16 rfl rfl ?_
  refine v_bipush (pc := 17) C (by decide +kernel) dX2_init_17 ?_
  refine v_newa (pc := 19) (atype := .int) (ty := .int) (N := 100) (t0 := 0) (t9 := 5) C rfl (by decide +kernel) rfl (fun _ h => h) (by decide) (by decide) (by decide) (by decide) (he_int (by decide) (by decide) (fun _ => rfl)) (Nat.le_of_ble_eq_true rfl) (Nat.le_of_ble_eq_true rfl) dX2_init_19 ?_
  refine v_putR (pc := 21) (ci := 2) (k := 5) C hini rfl fiX2_init_X2 (by decide) (by decide) (by decide) rfl (by decide) (by decide +kernel) rfl rfl tyX2_ok nmX2 rfl rfl rfl rfl dX2_init_21 ?_
  refine v_aload_n (pc := 24) C dX2_init_24 rfl rfl ?_
  refine v_bipush (pc := 25) C (by decide +kernel) dX2_init_25 ?_
  refine v_newa (pc := 27) (atype := .int) (ty := .int) (N := 100) (t0 := 0) (t9 := 5) C rfl (by decide +kernel) rfl (fun _ h => h) (by decide) (by decide) (by decide) (by decide) (he_int (by decide) (by decide) (fun _ => rfl)) (Nat.le_of_ble_eq_true rfl) (Nat.le_of_ble_eq_true rfl) dX2_init_27 ?_
  refine v_putR (pc := 29) (ci := 2) (k := 6) C hini rfl fiX2_init_X2 (by decide) (by decide) (by decide) rfl (by decide) (by decide +kernel) rfl rfl tyX2_ok nmX2 rfl rfl rfl rfl dX2_init_29 ?_
  refine v_aload_n (pc := 32) C dX2_init_32 rfl rfl ?_
  refine v_bipush (pc := 33) C (by decide +kernel) dX2_init_33 ?_
  refine v_newa (pc := 35) (atype := .int) (ty := .int) (N := 100) (t0 := 0) (t9 := 5) C rfl (by decide +kernel) rfl (fun _ h => h) (by decide) (by decide) (by decide) (by decide) (he_int (by decide) (by decide) (fun _ => rfl)) (Nat.le_of_ble_eq_true rfl) (Nat.le_of_ble_eq_true rfl) dX2_init_35 ?_
  refine v_putR (pc := 37) (ci := 2) (k := 7) C hini rfl fiX2_init_X2 (by decide) (by decide) (by decide) rfl (by decide) (by decide +kernel) rfl rfl tyX2_ok nmX2 rfl rfl rfl rfl dX2_init_37 ?_
  refine v_aload_n (pc := 40) C dX2_init_40 rfl rfl ?_
  refine v_bipush (pc := 41) C (by decide +kernel) dX2_init_41 ?_
  refine v_newa (pc := 43) (atype := .boolean) (ty := .boolean) (N := 100) (t0 := 1) (t9 := 6) C rfl (by decide +kernel) rfl (fun _ h => h) (by decide) (by decide) (by decide) (by decide) (he_bool (by decide) (by decide) (fun _ => rfl)) (Nat.le_of_ble_eq_true rfl) (Nat.le_of_ble_eq_true rfl) dX2_init_43 ?_
  refine v_putR (pc := 45) (ci := 2) (k := 8) C hini rfl fiX2_init_X2 (by decide) (by decide) (by decide) rfl (by decide) (by decide +kernel) rfl rfl tyX2_ok nmX2 rfl rfl rfl rfl dX2_init_45 ?_
  refine v_aload_n (pc := 48) C dX2_init_48 rfl rfl ?_
  refine v_aload_n (pc := 49) C dX2_init_49 rfl rfl ?_
  refine v_putR (pc := 50) (ci := 2) (k := 0) C hini rfl fiX2_init_X2 (by decide) (by decide) (by decide) rfl (by decide) (by decide +kernel) rfl rfl tyX2_ok nmX2 rfl rfl rfl rfl dX2_init_50 ?_
  exact v_vret (pc := 53) C hret (by decide) (by decide) dX2_init_53
theorem fiX0_init_X0 : ∀ w ∈ u_ws RX0 TX0 9, w ∈ wsX0_init := by decide +kernel
set_option maxHeartbeats 4000000 in
set_option maxRecDepth 100000 in
theorem iX0_init {l : Launch} (D : va_G) (cy : Nat → ClassId) (B : Nat) (rf : Nat → Nat → Bool) : PI l D cy B yX0_init wsX0_init { frames := 1, cells := 87, slots := 806, locals := 36 } [.ref (B + 128), .ref (B + 1)] rf μz 129 (rfS (rfS (rfS (rfS (rfS (rfS (rfS (rfS rf 128 2) 128 3) 128 4) 128 5) 128 6) 128 7) 128 8) 128 0) μz 216 := by
  refine v_start (cc := cX0_init) (maxL := 2) (by decide +kernel) rfl rfl (by simp [Value.category]) (Nat.le_of_ble_eq_true rfl) ?_
  intro p e s m args below meth c C hini hret
  refine v_aload_n (pc := 0) C dX0_init_0 rfl rfl ?_
  refine v_objInit (pc := 1) C (by decide +kernel) (by decide +kernel) (by decide +kernel) dX0_init_1 (Nat.le_of_ble_eq_true rfl) (Nat.le_of_ble_eq_true rfl) ?_
  refine v_aload_n (pc := 4) C dX0_init_4 rfl rfl ?_
  refine v_bipush (pc := 5) C (by decide +kernel) dX0_init_5 ?_
  refine v_bipush (pc := 7) C (by decide +kernel) dX0_init_7 ?_
  refine v_multi (pc := 9) (N := 40) (M := 6) C (by decide +kernel) (by decide +kernel) (by decide) (by decide) (by decide) (by decide) (by decide) (by decide) (by decide) (by decide) (fun i _ => rfl) (fun i hi => ⟨k_r129 hi, n_r129 hi, (fun _ => rfl)⟩) (Nat.le_of_ble_eq_true rfl) (Nat.le_of_ble_eq_true rfl) dX0_init_9 ?_
  refine v_putR (pc := 13) (ci := 0) (k := 2) C hini rfl fiX0_init_X0 (by decide) (by decide) (by decide) rfl (by decide) (by decide +kernel) rfl rfl tyX0_ok nmX0 rfl rfl rfl rfl dX0_init_13 ?_
  refine v_aload_n (pc := 16) C dX0_init_16 rfl rfl ?_
  refine v_bipush (pc := 17) C (by decide +kernel) dX0_init_17 ?_
  refine v_bipush (pc := 19) C (by decide +kernel) dX0_init_19 ?_
  refine v_multi (pc := 21) (N := 40) (M := 8) C (by decide +kernel) (by decide +kernel) (by decide) (by decide) (by decide) (by decide) (by decide) (by decide) (by decide) (by decide) (fun i _ => rfl) (fun i hi => ⟨k_r170 hi, n_r170 hi, (fun _ => rfl)⟩) (Nat.le_of_ble_eq_true rfl) (Nat.le_of_ble_eq_true rfl) dX0_init_21 ?_
  refine v_putR (pc := 25) (ci := 0) (k := 3) C hini rfl fiX0_init_X0 (by decide) (by decide) (by decide) rfl (by decide) (by decide +kernel) rfl rfl tyX0_ok nmX0 rfl rfl rfl rfl dX0_init_25 ?_
  refine v_aload_n (pc := 28) C dX0_init_28 rfl rfl ?_
  refine v_bipush (pc := 29) C (by decide +kernel) dX0_init_29 ?_
  refine v_newa (pc := 31) (atype := .int) (ty := .int) (N := 40) (t0 := 0) (t9 := 5) C rfl (by decide +kernel) rfl (fun _ h => h) (by decide) (by decide) (by decide) (by decide) (he_int (by decide) (by decide) (fun _ => rfl)) (Nat.le_of_ble_eq_true rfl) (Nat.le_of_ble_eq_true rfl) dX0_init_31 ?_
  refine v_putR (pc := 33) (ci := 0) (k := 4) C hini rfl fiX0_init_X0 (by decide) (by decide) (by decide) rfl (by decide) (by decide +kernel) rfl rfl tyX0_ok nmX0 rfl rfl rfl rfl dX0_init_33 ?_
  refine v_aload_n (pc := 36) C dX0_init_36 rfl rfl ?_
  refine v_bipush (pc := 37) C (by decide +kernel) dX0_init_37 ?_
  refine v_newa (pc := 39) (atype := .int) (ty := .int) (N := 40) (t0 := 0) (t9 := 5) C rfl (by decide +kernel) rfl (fun _ h => h) (by decide) (by decide) (by decide) (by decide) (he_int (by decide) (by decide) (fun _ => rfl)) (Nat.le_of_ble_eq_true rfl) (Nat.le_of_ble_eq_true rfl) dX0_init_39 ?_
  refine v_putR (pc := 41) (ci := 0) (k := 5) C hini rfl fiX0_init_X0 (by decide) (by decide) (by decide) rfl (by decide) (by decide +kernel) rfl rfl tyX0_ok nmX0 rfl rfl rfl rfl dX0_init_41 ?_
  refine v_aload_n (pc := 44) C dX0_init_44 rfl rfl ?_
  refine v_bipush (pc := 45) C (by decide +kernel) dX0_init_45 ?_
  refine v_newa (pc := 47) (atype := .int) (ty := .int) (N := 40) (t0 := 0) (t9 := 5) C rfl (by decide +kernel) rfl (fun _ h => h) (by decide) (by decide) (by decide) (by decide) (he_int (by decide) (by decide) (fun _ => rfl)) (Nat.le_of_ble_eq_true rfl) (Nat.le_of_ble_eq_true rfl) dX0_init_47 ?_
  refine v_putR (pc := 49) (ci := 0) (k := 6) C hini rfl fiX0_init_X0 (by decide) (by decide) (by decide) rfl (by decide) (by decide +kernel) rfl rfl tyX0_ok nmX0 rfl rfl rfl rfl dX0_init_49 ?_
  refine v_aload_n (pc := 52) C dX0_init_52 rfl rfl ?_
  refine v_bipush (pc := 53) C (by decide +kernel) dX0_init_53 ?_
  refine v_newa (pc := 55) (atype := .int) (ty := .int) (N := 40) (t0 := 0) (t9 := 5) C rfl (by decide +kernel) rfl (fun _ h => h) (by decide) (by decide) (by decide) (by decide) (he_int (by decide) (by decide) (fun _ => rfl)) (Nat.le_of_ble_eq_true rfl) (Nat.le_of_ble_eq_true rfl) dX0_init_55 ?_
  refine v_putR (pc := 57) (ci := 0) (k := 7) C hini rfl fiX0_init_X0 (by decide) (by decide) (by decide) rfl (by decide) (by decide +kernel) rfl rfl tyX0_ok nmX0 rfl rfl rfl rfl dX0_init_57 ?_
  refine v_aload_n (pc := 60) C dX0_init_60 rfl rfl ?_
  refine v_bipush (pc := 61) C (by decide +kernel) dX0_init_61 ?_
  refine v_newa (pc := 63) (atype := .int) (ty := .int) (N := 6) (t0 := 0) (t9 := 5) C rfl (by decide +kernel) rfl (fun _ h => h) (by decide) (by decide) (by decide) (by decide) (he_int (by decide) (by decide) (fun _ => rfl)) (Nat.le_of_ble_eq_true rfl) (Nat.le_of_ble_eq_true rfl) dX0_init_63 ?_
  refine v_putR (pc := 65) (ci := 0) (k := 8) C hini rfl fiX0_init_X0 (by decide) (by decide) (by decide) rfl (by decide) (by decide +kernel) rfl rfl tyX0_ok nmX0 rfl rfl rfl rfl dX0_init_65 ?_
  refine v_aload_n (pc := 68) C dX0_init_68 rfl rfl ?_
  refine v_aload_n (pc := 69) C dX0_init_69 rfl rfl ?_
  refine v_putR (pc := 70) (ci := 0) (k := 0) C hini rfl fiX0_init_X0 (by decide) (by decide) (by decide) rfl (by decide) (by decide +kernel) rfl rfl tyX0_ok nmX0 rfl rfl rfl rfl dX0_init_70 ?_
  exact v_vret (pc := 73) C hret (by decide) (by decide) dX0_init_73
theorem fiX3_init_X0 : ∀ w ∈ u_ws RX0 TX0 9, w ∈ wsX3_init := by decide +kernel
theorem fiX3_init_X1 : ∀ w ∈ u_ws RX1 TX1 5, w ∈ wsX3_init := by decide +kernel
theorem fiX3_init_X2 : ∀ w ∈ u_ws RX2 TX2 9, w ∈ wsX3_init := by decide +kernel
theorem fiX3_init_X3 : ∀ w ∈ u_ws RX3 TX3 4, w ∈ wsX3_init := by decide +kernel
set_option maxHeartbeats 4000000 in
set_option maxRecDepth 100000 in
theorem iX3_init {l : Launch} (D : va_G) (cy : Nat → ClassId) (B : Nat) : PI l D cy B yX3_init wsX3_init { frames := 2, cells := 215, slots := 2053, locals := 72 } [.ref (B + 0)] rz μz 1 (rfS (rfS (rfS (rfS (rfS (rfS (rfS (rfS (rfS (rfS (rfS (rfS (rfS (rfS (rfS (rfS (rfS (rfS (rfS (rfS (rfS rz 1 2) 1 3) 1 4) 0 0) 0 1) 22 4) 22 5) 22 6) 22 7) 22 8) 22 0) 0 2) 128 2) 128 3) 128 4) 128 5) 128 6) 128 7) 128 8) 128 0) 0 3) μz 216 := by
  refine v_start (cc := cX3_init) (maxL := 1) (by decide +kernel) rfl rfl (by simp [Value.category]) (Nat.le_of_ble_eq_true rfl) ?_
  intro p e s m args below meth c C hini hret
  refine v_aload_n (pc := 0) C dX3_init_0 rfl rfl ?_
  refine v_objInit (pc := 1) C (by decide +kernel) (by decide +kernel) (by decide +kernel) dX3_init_1 (Nat.le_of_ble_eq_true rfl) (Nat.le_of_ble_eq_true rfl) ?_
  refine v_aload_n (pc := 4) C dX3_init_4 rfl rfl ?_
  refine v_new (pc := 5) (ci := 1) (N := 5) C rfl fiX3_init_X1 tyX1_ok (by decide +kernel) (by decide +kernel) (by decide +kernel) (by decide) (by decide) rfl (fun j hj => by rcases (show j = 0 ∨ j = 1 ∨ j = 2 ∨ j = 3 ∨ j = 4 by omega) with rfl | rfl | rfl | rfl | rfl <;> rfl) (Nat.le_of_ble_eq_true rfl) (Nat.le_of_ble_eq_true rfl) dX3_init_5 ?_
  refine v_dup (pc := 8) C rfl dX3_init_8 ?_
  refine v_callIN (pc := 9) (As := []) (rest := [_, _]) C (iX1_init D cy B rz) ⟨va_cnB (host := "CoverTrees") (index := 9) 0 C.1.2.2.2.2 gX3_init_X1_init_n9 rfl rfl rfl (C.2.1.2.2.1 (RX3, 9, yX1_init) (by decide +kernel)) (C.1.2.2.2.2 _ (by decide +kernel)) (by decide +kernel) ⟨Nat.le_of_ble_eq_true rfl, Nat.le_of_ble_eq_true rfl⟩, rfl, C.1.2.2.2.2 _ (by decide +kernel)⟩ rfl rfl (by simp [Value.category]) dX3_init_9 (by decide) ?_
  refine v_putR (pc := 12) (ci := 3) (k := 0) C hini rfl fiX3_init_X3 (by decide) (by decide) (by decide) rfl (by decide) (by decide +kernel) rfl rfl tyX3_ok nmX3 rfl rfl rfl rfl dX3_init_12 ?_
  refine v_aload_n (pc := 15) C dX3_init_15 rfl rfl ?_
  refine v_bipush (pc := 16) C (by decide +kernel) dX3_init_16 ?_
  refine v_newa (pc := 18) (atype := .int) (ty := .int) (N := 6) (t0 := 0) (t9 := 5) C rfl (by decide +kernel) rfl (fun _ h => h) (by decide) (by decide) (by decide) (by decide) (he_int (by decide) (by decide) (fun _ => rfl)) (Nat.le_of_ble_eq_true rfl) (Nat.le_of_ble_eq_true rfl) dX3_init_18 ?_
  refine v_putR (pc := 20) (ci := 3) (k := 1) C hini rfl fiX3_init_X3 (by decide) (by decide) (by decide) rfl (by decide) (by decide +kernel) rfl rfl tyX3_ok nmX3 rfl rfl rfl rfl dX3_init_20 ?_
  refine v_aload_n (pc := 23) C dX3_init_23 rfl rfl ?_
  refine v_new (pc := 24) (ci := 2) (N := 9) C rfl fiX3_init_X2 tyX2_ok (by decide +kernel) (by decide +kernel) (by decide +kernel) (by decide) (by decide) rfl (fun j hj => by rcases (show j = 0 ∨ j = 1 ∨ j = 2 ∨ j = 3 ∨ j = 4 ∨ j = 5 ∨ j = 6 ∨ j = 7 ∨ j = 8 by omega) with rfl | rfl | rfl | rfl | rfl | rfl | rfl | rfl | rfl <;> rfl) (Nat.le_of_ble_eq_true rfl) (Nat.le_of_ble_eq_true rfl) dX3_init_24 ?_
  refine v_dup (pc := 27) C rfl dX3_init_27 ?_
  refine v_aload_n (pc := 28) C dX3_init_28 rfl rfl ?_
  refine v_getR (pc := 29) (ci := 3) (k := 0) C rfl fiX3_init_X3 (by decide) (by decide) (by decide) rfl (by decide) (by decide +kernel) rfl rfl rfl dX3_init_29 ?_
  refine v_callI (pc := 32) (As := [_]) (rest := [_, _]) C (iX2_init D cy B (rfS (rfS (rfS (rfS (rfS rz 1 2) 1 3) 1 4) 0 0) 0 1)) (cwI 1 C.1.2.2.2.2 gX3_init_X2_init rfl rfl rfl (C.1.2.2.2.2 _ (by decide +kernel)) (C.1.2.2.2.2 _ (by decide +kernel)) (C.1.2.2.2.2 _ (by decide +kernel)) rfl (by decide +kernel) ⟨Nat.le_of_ble_eq_true rfl, Nat.le_of_ble_eq_true rfl⟩) rfl rfl (by simp [Value.category]) dX3_init_32 (by decide) ?_
  refine v_putR (pc := 35) (ci := 3) (k := 2) C hini rfl fiX3_init_X3 (by decide) (by decide) (by decide) rfl (by decide) (by decide +kernel) rfl rfl tyX3_ok nmX3 rfl rfl rfl rfl dX3_init_35 ?_
  refine v_aload_n (pc := 38) C dX3_init_38 rfl rfl ?_
  refine v_new (pc := 39) (ci := 0) (N := 9) C rfl fiX3_init_X0 tyX0_ok (by decide +kernel) (by decide +kernel) (by decide +kernel) (by decide) (by decide) rfl (fun j hj => by rcases (show j = 0 ∨ j = 1 ∨ j = 2 ∨ j = 3 ∨ j = 4 ∨ j = 5 ∨ j = 6 ∨ j = 7 ∨ j = 8 by omega) with rfl | rfl | rfl | rfl | rfl | rfl | rfl | rfl | rfl <;> rfl) (Nat.le_of_ble_eq_true rfl) (Nat.le_of_ble_eq_true rfl) dX3_init_39 ?_
  refine v_dup (pc := 42) C rfl dX3_init_42 ?_
  refine v_aload_n (pc := 43) C dX3_init_43 rfl rfl ?_
  refine v_getR (pc := 44) (ci := 3) (k := 0) C rfl fiX3_init_X3 (by decide) (by decide) (by decide) rfl (by decide) (by decide +kernel) rfl rfl rfl dX3_init_44 ?_
  refine v_callI (pc := 47) (As := [_]) (rest := [_, _]) C (iX0_init D cy B (rfS (rfS (rfS (rfS (rfS (rfS (rfS (rfS (rfS (rfS (rfS (rfS rz 1 2) 1 3) 1 4) 0 0) 0 1) 22 4) 22 5) 22 6) 22 7) 22 8) 22 0) 0 2)) (cwI 1 C.1.2.2.2.2 gX3_init_X0_init rfl rfl rfl (C.1.2.2.2.2 _ (by decide +kernel)) (C.1.2.2.2.2 _ (by decide +kernel)) (C.1.2.2.2.2 _ (by decide +kernel)) rfl (by decide +kernel) ⟨Nat.le_of_ble_eq_true rfl, Nat.le_of_ble_eq_true rfl⟩) rfl rfl (by simp [Value.category]) dX3_init_47 (by decide) ?_
  refine v_putR (pc := 50) (ci := 3) (k := 3) C hini rfl fiX3_init_X3 (by decide) (by decide) (by decide) rfl (by decide) (by decide +kernel) rfl rfl tyX3_ok nmX3 rfl rfl rfl rfl dX3_init_50 ?_
  exact v_vret (pc := 53) C hret (by decide) (by decide) dX3_init_53
theorem fiX4_init_X4 : ∀ w ∈ u_ws RX4 TX4 22, w ∈ wsX4_init := by decide +kernel
set_option maxHeartbeats 4000000 in
set_option maxRecDepth 100000 in
theorem iX4_init {l : Launch} (D : va_G) (cy : Nat → ClassId) (B : Nat) (rf : Nat → Nat → Bool) : PI l D cy B yX4_init wsX4_init { frames := 1, cells := 15, slots := 1794, locals := 36 } [.ref (B + 216)] rf μz 217 (rfS (rfS (rfS (rfS (rfS (rfS (rfS (rfS (rfS (rfS (rfS (rfS (rfS (rfS (rfS rf 216 3) 216 4) 216 5) 216 6) 216 8) 216 9) 216 10) 216 11) 216 12) 216 16) 216 17) 216 18) 216 19) 216 20) 216 21) (updS (updS μz 216 7 (-1)) 216 15 (-1)) 232 := by
  refine v_start (cc := cX4_init) (maxL := 1) (by decide +kernel) rfl rfl (by simp [Value.category]) (Nat.le_of_ble_eq_true rfl) ?_
  intro p e s m args below meth c C hini hret
  refine v_aload_n (pc := 0) C dX4_init_0 rfl rfl ?_
  refine v_objInit (pc := 1) C (by decide +kernel) (by decide +kernel) (by decide +kernel) dX4_init_1 (Nat.le_of_ble_eq_true rfl) (Nat.le_of_ble_eq_true rfl) ?_
  refine v_aload_n (pc := 4) C dX4_init_4 rfl rfl ?_
  refine v_bipush (pc := 5) C (by decide +kernel) dX4_init_5 ?_
  refine v_newa (pc := 7) (atype := .int) (ty := .int) (N := 6) (t0 := 0) (t9 := 5) C rfl (by decide +kernel) rfl (fun _ h => h) (by decide) (by decide) (by decide) (by decide) (he_int (by decide) (by decide) (fun _ => rfl)) (Nat.le_of_ble_eq_true rfl) (Nat.le_of_ble_eq_true rfl) dX4_init_7 ?_
  refine v_putR (pc := 9) (ci := 4) (k := 3) C hini rfl fiX4_init_X4 (by decide) (by decide) (by decide) rfl (by decide) (by decide +kernel) rfl rfl tyX4_ok nmX4 rfl rfl rfl rfl dX4_init_9 ?_
  refine v_aload_n (pc := 12) C dX4_init_12 rfl rfl ?_
  refine v_bipush (pc := 13) C (by decide +kernel) dX4_init_13 ?_
  refine v_newa (pc := 15) (atype := .int) (ty := .int) (N := 6) (t0 := 0) (t9 := 5) C rfl (by decide +kernel) rfl (fun _ h => h) (by decide) (by decide) (by decide) (by decide) (he_int (by decide) (by decide) (fun _ => rfl)) (Nat.le_of_ble_eq_true rfl) (Nat.le_of_ble_eq_true rfl) dX4_init_15 ?_
  refine v_putR (pc := 17) (ci := 4) (k := 4) C hini rfl fiX4_init_X4 (by decide) (by decide) (by decide) rfl (by decide) (by decide +kernel) rfl rfl tyX4_ok nmX4 rfl rfl rfl rfl dX4_init_17 ?_
  refine v_aload_n (pc := 20) C dX4_init_20 rfl rfl ?_
  refine v_bipush (pc := 21) C (by decide +kernel) dX4_init_21 ?_
  refine v_newa (pc := 23) (atype := .int) (ty := .int) (N := 48) (t0 := 0) (t9 := 5) C rfl (by decide +kernel) rfl (fun _ h => h) (by decide) (by decide) (by decide) (by decide) (he_int (by decide) (by decide) (fun _ => rfl)) (Nat.le_of_ble_eq_true rfl) (Nat.le_of_ble_eq_true rfl) dX4_init_23 ?_
  refine v_putR (pc := 25) (ci := 4) (k := 5) C hini rfl fiX4_init_X4 (by decide) (by decide) (by decide) rfl (by decide) (by decide +kernel) rfl rfl tyX4_ok nmX4 rfl rfl rfl rfl dX4_init_25 ?_
  refine v_aload_n (pc := 28) C dX4_init_28 rfl rfl ?_
  refine v_bipush (pc := 29) C (by decide +kernel) dX4_init_29 ?_
  refine v_newa (pc := 31) (atype := .int) (ty := .int) (N := 48) (t0 := 0) (t9 := 5) C rfl (by decide +kernel) rfl (fun _ h => h) (by decide) (by decide) (by decide) (by decide) (he_int (by decide) (by decide) (fun _ => rfl)) (Nat.le_of_ble_eq_true rfl) (Nat.le_of_ble_eq_true rfl) dX4_init_31 ?_
  refine v_putR (pc := 33) (ci := 4) (k := 6) C hini rfl fiX4_init_X4 (by decide) (by decide) (by decide) rfl (by decide) (by decide +kernel) rfl rfl tyX4_ok nmX4 rfl rfl rfl rfl dX4_init_33 ?_
  refine v_aload_n (pc := 36) C dX4_init_36 rfl rfl ?_
  refine v_iconst (pc := 37) C dX4_init_37 ?_
  refine v_putI (pc := 38) (ci := 4) (k := 7) (ki := 7) C rfl rfl fiX4_init_X4 (by decide) (by decide) (by decide) rfl (by decide) (by decide +kernel) rfl tyX4_ok nmX4 rfl rfl rfl dX4_init_38 ?_
  refine v_aload_n (pc := 41) C dX4_init_41 rfl rfl ?_
  refine v_sipush (pc := 42) C (by decide +kernel) dX4_init_42 ?_
  refine v_newa (pc := 45) (atype := .int) (ty := .int) (N := 600) (t0 := 0) (t9 := 5) C rfl (by decide +kernel) rfl (fun _ h => h) (by decide) (by decide) (by decide) (by decide) (he_int (by decide) (by decide) (fun _ => by simp only [updS_ap]; simp)) (Nat.le_of_ble_eq_true rfl) (Nat.le_of_ble_eq_true rfl) dX4_init_45 ?_
  refine v_putR (pc := 47) (ci := 4) (k := 8) C hini rfl fiX4_init_X4 (by decide) (by decide) (by decide) rfl (by decide) (by decide +kernel) rfl rfl tyX4_ok nmX4 rfl rfl rfl rfl dX4_init_47 ?_
  refine v_aload_n (pc := 50) C dX4_init_50 rfl rfl ?_
  refine v_bipush (pc := 51) C (by decide +kernel) dX4_init_51 ?_
  refine v_newa (pc := 53) (atype := .int) (ty := .int) (N := 100) (t0 := 0) (t9 := 5) C rfl (by decide +kernel) rfl (fun _ h => h) (by decide) (by decide) (by decide) (by decide) (he_int (by decide) (by decide) (fun _ => by simp only [updS_ap]; simp)) (Nat.le_of_ble_eq_true rfl) (Nat.le_of_ble_eq_true rfl) dX4_init_53 ?_
  refine v_putR (pc := 55) (ci := 4) (k := 9) C hini rfl fiX4_init_X4 (by decide) (by decide) (by decide) rfl (by decide) (by decide +kernel) rfl rfl tyX4_ok nmX4 rfl rfl rfl rfl dX4_init_55 ?_
  refine v_aload_n (pc := 58) C dX4_init_58 rfl rfl ?_
  refine v_bipush (pc := 59) C (by decide +kernel) dX4_init_59 ?_
  refine v_newa (pc := 61) (atype := .int) (ty := .int) (N := 100) (t0 := 0) (t9 := 5) C rfl (by decide +kernel) rfl (fun _ h => h) (by decide) (by decide) (by decide) (by decide) (he_int (by decide) (by decide) (fun _ => by simp only [updS_ap]; simp)) (Nat.le_of_ble_eq_true rfl) (Nat.le_of_ble_eq_true rfl) dX4_init_61 ?_
  refine v_putR (pc := 63) (ci := 4) (k := 10) C hini rfl fiX4_init_X4 (by decide) (by decide) (by decide) rfl (by decide) (by decide +kernel) rfl rfl tyX4_ok nmX4 rfl rfl rfl rfl dX4_init_63 ?_
  refine v_aload_n (pc := 66) C dX4_init_66 rfl rfl ?_
  refine v_bipush (pc := 67) C (by decide +kernel) dX4_init_67 ?_
  refine v_newa (pc := 69) (atype := .int) (ty := .int) (N := 100) (t0 := 0) (t9 := 5) C rfl (by decide +kernel) rfl (fun _ h => h) (by decide) (by decide) (by decide) (by decide) (he_int (by decide) (by decide) (fun _ => by simp only [updS_ap]; simp)) (Nat.le_of_ble_eq_true rfl) (Nat.le_of_ble_eq_true rfl) dX4_init_69 ?_
  refine v_putR (pc := 71) (ci := 4) (k := 11) C hini rfl fiX4_init_X4 (by decide) (by decide) (by decide) rfl (by decide) (by decide +kernel) rfl rfl tyX4_ok nmX4 rfl rfl rfl rfl dX4_init_71 ?_
  refine v_aload_n (pc := 74) C dX4_init_74 rfl rfl ?_
  refine v_bipush (pc := 75) C (by decide +kernel) dX4_init_75 ?_
  refine v_newa (pc := 77) (atype := .boolean) (ty := .boolean) (N := 100) (t0 := 1) (t9 := 6) C rfl (by decide +kernel) rfl (fun _ h => h) (by decide) (by decide) (by decide) (by decide) (he_bool (by decide) (by decide) (fun _ => by simp only [updS_ap]; simp)) (Nat.le_of_ble_eq_true rfl) (Nat.le_of_ble_eq_true rfl) dX4_init_77 ?_
  refine v_putR (pc := 79) (ci := 4) (k := 12) C hini rfl fiX4_init_X4 (by decide) (by decide) (by decide) rfl (by decide) (by decide +kernel) rfl rfl tyX4_ok nmX4 rfl rfl rfl rfl dX4_init_79 ?_
  refine v_aload_n (pc := 82) C dX4_init_82 rfl rfl ?_
  refine v_iconst (pc := 83) C dX4_init_83 ?_
  refine v_putI (pc := 84) (ci := 4) (k := 15) (ki := 15) C rfl rfl fiX4_init_X4 (by decide) (by decide) (by decide) rfl (by decide) (by decide +kernel) rfl tyX4_ok nmX4 rfl rfl rfl dX4_init_84 ?_
  refine v_aload_n (pc := 87) C dX4_init_87 rfl rfl ?_
  refine v_sipush (pc := 88) C (by decide +kernel) dX4_init_88 ?_
  refine v_newa (pc := 91) (atype := .int) (ty := .int) (N := 240) (t0 := 0) (t9 := 5) C rfl (by decide +kernel) rfl (fun _ h => h) (by decide) (by decide) (by decide) (by decide) (he_int (by decide) (by decide) (fun _ => by simp only [updS_ap]; simp)) (Nat.le_of_ble_eq_true rfl) (Nat.le_of_ble_eq_true rfl) dX4_init_91 ?_
  refine v_putR (pc := 93) (ci := 4) (k := 16) C hini rfl fiX4_init_X4 (by decide) (by decide) (by decide) rfl (by decide) (by decide +kernel) rfl rfl tyX4_ok nmX4 rfl rfl rfl rfl dX4_init_93 ?_
  refine v_aload_n (pc := 96) C dX4_init_96 rfl rfl ?_
  refine v_sipush (pc := 97) C (by decide +kernel) dX4_init_97 ?_
  refine v_newa (pc := 100) (atype := .int) (ty := .int) (N := 320) (t0 := 0) (t9 := 5) C rfl (by decide +kernel) rfl (fun _ h => h) (by decide) (by decide) (by decide) (by decide) (he_int (by decide) (by decide) (fun _ => by simp only [updS_ap]; simp)) (Nat.le_of_ble_eq_true rfl) (Nat.le_of_ble_eq_true rfl) dX4_init_100 ?_
  refine v_putR (pc := 102) (ci := 4) (k := 17) C hini rfl fiX4_init_X4 (by decide) (by decide) (by decide) rfl (by decide) (by decide +kernel) rfl rfl tyX4_ok nmX4 rfl rfl rfl rfl dX4_init_102 ?_
  refine v_aload_n (pc := 105) C dX4_init_105 rfl rfl ?_
  refine v_bipush (pc := 106) C (by decide +kernel) dX4_init_106 ?_
  refine v_newa (pc := 108) (atype := .int) (ty := .int) (N := 40) (t0 := 0) (t9 := 5) C rfl (by decide +kernel) rfl (fun _ h => h) (by decide) (by decide) (by decide) (by decide) (he_int (by decide) (by decide) (fun _ => by simp only [updS_ap]; simp)) (Nat.le_of_ble_eq_true rfl) (Nat.le_of_ble_eq_true rfl) dX4_init_108 ?_
  refine v_putR (pc := 110) (ci := 4) (k := 18) C hini rfl fiX4_init_X4 (by decide) (by decide) (by decide) rfl (by decide) (by decide +kernel) rfl rfl tyX4_ok nmX4 rfl rfl rfl rfl dX4_init_110 ?_
  refine v_aload_n (pc := 113) C dX4_init_113 rfl rfl ?_
  refine v_bipush (pc := 114) C (by decide +kernel) dX4_init_114 ?_
  refine v_newa (pc := 116) (atype := .int) (ty := .int) (N := 40) (t0 := 0) (t9 := 5) C rfl (by decide +kernel) rfl (fun _ h => h) (by decide) (by decide) (by decide) (by decide) (he_int (by decide) (by decide) (fun _ => by simp only [updS_ap]; simp)) (Nat.le_of_ble_eq_true rfl) (Nat.le_of_ble_eq_true rfl) dX4_init_116 ?_
  refine v_putR (pc := 118) (ci := 4) (k := 19) C hini rfl fiX4_init_X4 (by decide) (by decide) (by decide) rfl (by decide) (by decide +kernel) rfl rfl tyX4_ok nmX4 rfl rfl rfl rfl dX4_init_118 ?_
  refine v_aload_n (pc := 121) C dX4_init_121 rfl rfl ?_
  refine v_bipush (pc := 122) C (by decide +kernel) dX4_init_122 ?_
  refine v_newa (pc := 124) (atype := .boolean) (ty := .boolean) (N := 40) (t0 := 1) (t9 := 6) C rfl (by decide +kernel) rfl (fun _ h => h) (by decide) (by decide) (by decide) (by decide) (he_bool (by decide) (by decide) (fun _ => by simp only [updS_ap]; simp)) (Nat.le_of_ble_eq_true rfl) (Nat.le_of_ble_eq_true rfl) dX4_init_124 ?_
  refine v_putR (pc := 126) (ci := 4) (k := 20) C hini rfl fiX4_init_X4 (by decide) (by decide) (by decide) rfl (by decide) (by decide +kernel) rfl rfl tyX4_ok nmX4 rfl rfl rfl rfl dX4_init_126 ?_
  refine v_aload_n (pc := 129) C dX4_init_129 rfl rfl ?_
  refine v_bipush (pc := 130) C (by decide +kernel) dX4_init_130 ?_
  refine v_newa (pc := 132) (atype := .int) (ty := .int) (N := 6) (t0 := 0) (t9 := 5) C rfl (by decide +kernel) rfl (fun _ h => h) (by decide) (by decide) (by decide) (by decide) (he_int (by decide) (by decide) (fun _ => by simp only [updS_ap]; simp)) (Nat.le_of_ble_eq_true rfl) (Nat.le_of_ble_eq_true rfl) dX4_init_132 ?_
  refine v_putR (pc := 134) (ci := 4) (k := 21) C hini rfl fiX4_init_X4 (by decide) (by decide) (by decide) rfl (by decide) (by decide +kernel) rfl rfl tyX4_ok nmX4 rfl rfl rfl rfl dX4_init_134 ?_
  exact v_vret (pc := 137) C hret (by decide) (by decide) dX4_init_137

