theorem k0 : kd 0 = 3 := by decide
theorem k1 : kd 1 = 1 := by decide
theorem k2 : kd 2 = 5 := by decide
theorem n2 : ln 2 = 6 := by decide
theorem k3 : kd 3 = 7 := by decide
theorem n3 : ln 3 = 8 := by decide
theorem k12 : kd 12 = 7 := by decide
theorem n12 : ln 12 = 8 := by decide
theorem k21 : kd 21 = 5 := by decide
theorem n21 : ln 21 = 6 := by decide
theorem k22 : kd 22 = 2 := by decide
theorem k23 : kd 23 = 7 := by decide
theorem n23 : ln 23 = 100 := by decide
theorem k124 : kd 124 = 5 := by decide
theorem n124 : ln 124 = 100 := by decide
theorem k125 : kd 125 = 5 := by decide
theorem n125 : ln 125 = 100 := by decide
theorem k126 : kd 126 = 5 := by decide
theorem n126 : ln 126 = 100 := by decide
theorem k127 : kd 127 = 6 := by decide
theorem n127 : ln 127 = 100 := by decide
theorem k128 : kd 128 = 0 := by decide
theorem k129 : kd 129 = 7 := by decide
theorem n129 : ln 129 = 40 := by decide
theorem k170 : kd 170 = 7 := by decide
theorem n170 : ln 170 = 40 := by decide
theorem k211 : kd 211 = 5 := by decide
theorem n211 : ln 211 = 40 := by decide
theorem k212 : kd 212 = 5 := by decide
theorem n212 : ln 212 = 40 := by decide
theorem k213 : kd 213 = 5 := by decide
theorem n213 : ln 213 = 40 := by decide
theorem k214 : kd 214 = 5 := by decide
theorem n214 : ln 214 = 40 := by decide
theorem k215 : kd 215 = 5 := by decide
theorem n215 : ln 215 = 6 := by decide
theorem k216 : kd 216 = 4 := by decide
theorem k217 : kd 217 = 5 := by decide
theorem n217 : ln 217 = 6 := by decide
theorem k218 : kd 218 = 5 := by decide
theorem n218 : ln 218 = 6 := by decide
theorem k219 : kd 219 = 5 := by decide
theorem n219 : ln 219 = 48 := by decide
theorem k220 : kd 220 = 5 := by decide
theorem n220 : ln 220 = 48 := by decide
theorem k221 : kd 221 = 5 := by decide
theorem n221 : ln 221 = 600 := by decide
theorem k222 : kd 222 = 5 := by decide
theorem n222 : ln 222 = 100 := by decide
theorem k223 : kd 223 = 5 := by decide
theorem n223 : ln 223 = 100 := by decide
theorem k224 : kd 224 = 5 := by decide
theorem n224 : ln 224 = 100 := by decide
theorem k225 : kd 225 = 6 := by decide
theorem n225 : ln 225 = 100 := by decide
theorem k226 : kd 226 = 5 := by decide
theorem n226 : ln 226 = 240 := by decide
theorem k227 : kd 227 = 5 := by decide
theorem n227 : ln 227 = 320 := by decide
theorem k228 : kd 228 = 5 := by decide
theorem n228 : ln 228 = 40 := by decide
theorem k229 : kd 229 = 5 := by decide
theorem n229 : ln 229 = 40 := by decide
theorem k230 : kd 230 = 6 := by decide
theorem n230 : ln 230 = 40 := by decide
theorem k231 : kd 231 = 5 := by decide
theorem n231 : ln 231 = 6 := by decide
theorem k232 : kd 232 = 8 := by decide
theorem n232 : ln 232 = 1 := by decide
theorem k_r3 {x : Nat} (h : x < 8) : kd (4 + x) = 5 := by
  unfold kd
  rw [if_neg (by omega), if_neg (by omega), if_neg (by omega), if_neg (by omega), if_neg (by omega), if_neg (by omega), if_neg (by omega), if_neg (by omega)]
theorem n_r3 {x : Nat} (h : x < 8) : ln (4 + x) = 6 := by
  unfold ln
  rw [if_neg (by omega), if_pos (by omega)]
theorem l_r3 {x : Nat} (h : x < 8) : 4 + x < 233 := by omega
theorem k_r12 {x : Nat} (h : x < 8) : kd (13 + x) = 5 := by
  unfold kd
  rw [if_neg (by omega), if_neg (by omega), if_neg (by omega), if_neg (by omega), if_neg (by omega), if_neg (by omega), if_neg (by omega), if_neg (by omega)]
theorem n_r12 {x : Nat} (h : x < 8) : ln (13 + x) = 6 := by
  unfold ln
  rw [if_neg (by omega), if_pos (by omega)]
theorem l_r12 {x : Nat} (h : x < 8) : 13 + x < 233 := by omega
theorem k_r23 {x : Nat} (h : x < 100) : kd (24 + x) = 5 := by
  unfold kd
  rw [if_neg (by omega), if_neg (by omega), if_neg (by omega), if_neg (by omega), if_neg (by omega), if_neg (by omega), if_neg (by omega), if_neg (by omega)]
theorem n_r23 {x : Nat} (h : x < 100) : ln (24 + x) = 6 := by
  unfold ln
  rw [if_neg (by omega), if_neg (by omega), if_neg (by omega), if_pos (by omega)]
theorem l_r23 {x : Nat} (h : x < 100) : 24 + x < 233 := by omega
theorem k_r129 {x : Nat} (h : x < 40) : kd (130 + x) = 5 := by
  unfold kd
  rw [if_neg (by omega), if_neg (by omega), if_neg (by omega), if_neg (by omega), if_neg (by omega), if_neg (by omega), if_neg (by omega), if_neg (by omega)]
theorem n_r129 {x : Nat} (h : x < 40) : ln (130 + x) = 6 := by
  unfold ln
  rw [if_neg (by omega), if_neg (by omega), if_neg (by omega), if_neg (by omega), if_neg (by omega), if_neg (by omega), if_pos (by omega)]
theorem l_r129 {x : Nat} (h : x < 40) : 130 + x < 233 := by omega
theorem k_r170 {x : Nat} (h : x < 40) : kd (171 + x) = 5 := by
  unfold kd
  rw [if_neg (by omega), if_neg (by omega), if_neg (by omega), if_neg (by omega), if_neg (by omega), if_neg (by omega), if_neg (by omega), if_neg (by omega)]
theorem n_r170 {x : Nat} (h : x < 40) : ln (171 + x) = 8 := by
  unfold ln
  rw [if_neg (by omega), if_neg (by omega), if_neg (by omega), if_neg (by omega), if_neg (by omega), if_neg (by omega), if_neg (by omega), if_neg (by omega), if_pos (by omega)]
theorem l_r170 {x : Nat} (h : x < 40) : 171 + x < 233 := by omega
theorem up_to (M : Nat) (Pf : Nat → Prop) (h : ∀ i, i ≤ M → (i < M → Pf (i + 1)) → Pf i) : ∀ i, i ≤ M → Pf i := by
  have hh : ∀ n i, M - i = n → i ≤ M → Pf i := by
    intro n
    induction n with
    | zero => exact fun i e hi => h i hi (fun z => absurd z (by omega))
    | succ n ih => exact fun i e hi => h i hi (fun z => ih (i + 1) (by omega) (by omega))
  exact fun i hi => hh _ i rfl hi
theorem by_meas {α : Type} (f : α → Nat) (Pf : α → Prop) (h : ∀ a, (∀ b, f b < f a → Pf b) → Pf a) : ∀ a, Pf a := by
  have hh : ∀ n a, f a ≤ n → Pf a := by
    intro n
    induction n with
    | zero => exact fun a e => h a (fun b hb => absurd hb (by omega))
    | succ n ih => exact fun a e => h a (fun b hb => ih b (by omega))
  exact fun a => hh _ a (Nat.le_refl _)
def bI (q : Prop) [Decidable q] : Int := if q then 1 else 0
theorem bI_t {q : Prop} [Decidable q] (h : q) : bI q = 1 := if_pos h
theorem bI_f {q : Prop} [Decidable q] (h : ¬ q) : bI q = 0 := if_neg h
theorem bI_01 (q : Prop) [Decidable q] : bI q = 0 ∨ bI q = 1 := by
  unfold bI
  split
  · exact Or.inr rfl
  · exact Or.inl rfl
theorem bI_1 {q : Prop} [Decidable q] : bI q = 1 ↔ q := by
  unfold bI
  split <;> simp_all
theorem bI_0 {q : Prop} [Decidable q] : bI q = 0 ↔ ¬ q := by
  unfold bI
  split <;> simp_all
theorem updS_ap (μ : St) (a : Nat) (k v : Int) (b : Nat) (j : Int) : updS μ a k v b j = if b = a ∧ j = k then v else μ b j := rfl
theorem cpS_ap (μ : St) (a b x : Nat) (k : Int) : cpS μ a b x k = if x = a ∧ 0 ≤ k ∧ k < 6 then μ b k else μ x k := rfl
/- the first i places of the array b hold F -/
def preS (μ : St) (b : Nat) (i : Nat) (F : Int → Int) : St := fun x k => if x = b ∧ 0 ≤ k ∧ k < (i : Int) then F k else μ x k
theorem preS_ap (μ : St) (b i : Nat) (F : Int → Int) (x : Nat) (k : Int) : preS μ b i F x k = if x = b ∧ 0 ≤ k ∧ k < (i : Int) then F k else μ x k := rfl
theorem preS_0 (μ : St) (b : Nat) (F : Int → Int) : preS μ b 0 F = μ := by
  funext x k
  rw [preS_ap, if_neg (by omega)]
theorem preS_ne (μ : St) {b x : Nat} (i : Nat) (F : Int → Int) (k : Int) (h : x ≠ b) : preS μ b i F x k = μ x k := by
  rw [preS_ap, if_neg (fun z => h z.1)]
theorem preS_out (μ : St) (b i : Nat) (F : Int → Int) (x : Nat) (k : Int) (h : (i : Int) ≤ k) : preS μ b i F x k = μ x k := by
  rw [preS_ap, if_neg (by omega)]
theorem preS_step (μ : St) (b i : Nat) (F : Int → Int) {v : Int} (h : v = F i) : updS (preS μ b i F) b i v = preS μ b (i + 1) F := by
  subst h
  funext x k
  rw [updS_ap, preS_ap, preS_ap]
  by_cases hx : x = b
  · by_cases hk : k = (i : Int)
    · rw [if_pos ⟨hx, hk⟩, if_pos ⟨hx, by omega, by omega⟩, hk]
    · rw [if_neg (fun z => hk z.2)]
      by_cases hl : 0 ≤ k ∧ k < (i : Int)
      · rw [if_pos ⟨hx, hl⟩, if_pos ⟨hx, by omega, by omega⟩]
      · rw [if_neg (fun z => hl z.2), if_neg (fun z => by omega)]
  · rw [if_neg (fun z => hx z.1), if_neg (fun z => hx z.1), if_neg (fun z => hx z.1)]
theorem preS_skip (μ : St) (b i : Nat) (F : Int → Int) (h : F i = μ b i) : preS μ b i F = preS μ b (i + 1) F := by
  funext x k
  rw [preS_ap, preS_ap]
  by_cases hx : x = b
  · by_cases hk : k = (i : Int)
    · rw [if_neg (by omega), if_pos ⟨hx, by omega, by omega⟩, hk, h, hx]
    · by_cases hl : 0 ≤ k ∧ k < (i : Int)
      · rw [if_pos ⟨hx, hl⟩, if_pos ⟨hx, by omega, by omega⟩]
      · rw [if_neg (fun z => hl z.2), if_neg (fun z => by omega)]
  · rw [if_neg (fun z => hx z.1), if_neg (fun z => hx z.1)]
abbrev r0 (k : Nat) : Room := { frames := k, cells := 0, slots := 0, locals := 36 * k }
abbrev r1 (k : Nat) : Room := { frames := k, cells := 1, slots := 6, locals := 36 * k }
