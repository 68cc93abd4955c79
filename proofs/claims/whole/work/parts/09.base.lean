theorem ex_lt {H : ex_H} {a : Nat} {c : ex_C} (h : H[a]? = some c) : a < H.length := (List.getElem?_eq_some_iff.mp h).1
theorem ex_eq {H : ex_H} {a : Nat} {c : ex_C} (h : a < H.length) : (H.set a c)[a]? = some c := List.getElem?_set_self h
theorem ex_ne {H : ex_H} {a k : Nat} {c c0 : ex_C} (h : H[k]? = some c0) (hn : a ≠ k) : (H.set a c)[k]? = some c0 := (List.getElem?_set_ne hn).trans h
theorem ex_rfv (r : Option Nat) : va_rf r = .null ∨ (∃ a, va_rf r = .ref a) ∨ ∃ a, va_rf r = .retAddr a := by
  cases r with
  | none => exact Or.inl rfl
  | some a => exact Or.inr (Or.inl ⟨a, rfl⟩)
theorem ex_rfs (r : Option Nat) : va_rf r = .null ∨ ∃ a, va_rf r = .ref a := by
  cases r with
  | none => exact Or.inl rfl
  | some a => exact Or.inr ⟨a, rfl⟩
/-- the answer of a method that changes nothing -/
abbrev ex_r (H : ex_H) (v : Value) : ex_H → Option Value → Prop := fun H' r => H = H' ∧ r = some v
theorem ex_inc (i : Nat) : nI i + Int32.ofInt 1 = nI (i + 1) := nI_1 i
theorem nI_z {a : Nat} (h : a < 2 ^ 31) : nI a = 0 ↔ a = 0 := by
  rw [← nI_0]
  exact nI_eq h (by decide)
/-- a loop's state: F 0, F 1 .. one after another -/
def fl {σ : Type} (F : Nat → σ → σ) : Nat → σ → σ
  | 0, s => s
  | n + 1, s => F n (fl F n s)
theorem fl_down {σ : Type} {F : Nat → σ → σ} {P : Nat → σ → Prop} (n : Nat) (s0 : σ) (hs : ∀ i s, i < n → s = fl F i s0 → P (i + 1) (F i s) → P i s) (he : P n (fl F n s0)) : P 0 s0 := by
  have key : ∀ k, k ≤ n → P k (fl F k s0) → P 0 s0 := by
    intro k
    induction k with
    | zero => intro _ h; exact h
    | succ k ih => intro hk h; exact ih (by omega) (hs k _ (by omega) rfl h)
  exact key n (Nat.le_refl n) he
theorem fl_congr {σ : Type} {F G : Nat → σ → σ} {n : Nat} (h : ∀ i s, i < n → F i s = G i s) (s : σ) : fl F n s = fl G n s := by
  induction n with
  | zero => rfl
  | succ n ih => show F n (fl F n s) = G n (fl G n s); rw [ih (fun i s hi => h i s (by omega)), h n _ (by omega)]
theorem fl_add {σ : Type} (F : Nat → σ → σ) (a b : Nat) (s : σ) : fl F (a + b) s = fl (fun i => F (a + i)) b (fl F a s) := by
  induction b with
  | zero => rfl
  | succ b ih => show F (a + b) (fl F (a + b) s) = _; rw [ih]; rfl
/-- a loop over w * h dots is one over h rows of w -/
theorem fl_rows {σ : Type} (F : Nat → σ → σ) (w h : Nat) (s : σ) : fl F (w * h) s = fl (fun j s => fl (fun i => F (j * w + i)) w s) h s := by
  induction h with
  | zero => rfl
  | succ h ih => rw [Nat.mul_succ, fl_add, ih]; show _ = fl _ w _; rw [Nat.mul_comm w h]
theorem fl_inv {σ : Type} {F : Nat → σ → σ} (P : Nat → σ → Prop) (n : Nat) (s0 : σ) (h0 : P 0 s0) (hs : ∀ i s, i < n → P i s → P (i + 1) (F i s)) : P n (fl F n s0) := by
  induction n with
  | zero => exact h0
  | succ n ih => exact hs n _ (Nat.lt_succ_self n) (ih (fun i s hi => hs i s (by omega)))
/-- two heaps: the cells at L, and new ones, may differ -/
def ex_ch (H H' : ex_H) (L : List Nat) : Prop := H.length ≤ H'.length ∧ ∀ k, k < H.length → k ∉ L → H'[k]? = H[k]?
theorem ex_ch.rf {H : ex_H} {L : List Nat} : ex_ch H H L := ⟨Nat.le_refl _, fun _ _ _ => rfl⟩
theorem ex_ch.at {H H' : ex_H} {L : List Nat} {k : Nat} {c : ex_C} (h : ex_ch H H' L) (hk : H[k]? = some c) (hn : k ∉ L) : H'[k]? = some c := (h.2 k (List.getElem?_eq_some_iff.mp hk).1 hn).trans hk
theorem ex_ch.set {H H' : ex_H} {L : List Nat} {a : Nat} {c : ex_C} (h : ex_ch H H' L) (ha : a ∈ L) : ex_ch H (H'.set a c) L := ⟨by rw [List.length_set]; exact h.1, fun k hk hn => by
  rw [List.getElem?_set_ne (fun e => hn (by rw [← e]; exact ha))]
  exact h.2 k hk hn⟩
theorem ex_ch.tr {H H' H'' : ex_H} {L L' : List Nat} (h : ex_ch H H' L) (h' : ex_ch H' H'' L') (hs : ∀ k ∈ L', k ∈ L ∨ H.length ≤ k) : ex_ch H H'' L := ⟨Nat.le_trans h.1 h'.1, fun k hk hn => by
  rw [h'.2 k (Nat.lt_of_lt_of_le hk h.1) (fun e => (hs k e).elim hn (fun z => absurd hk (Nat.not_lt.mpr z)))]
  exact h.2 k hk hn⟩
theorem ex_ch.sub {H H' : ex_H} {L L' : List Nat} (h : ex_ch H H' L') (hs : ∀ k ∈ L', k ∈ L ∨ H.length ≤ k) : ex_ch H H' L := ex_ch.rf.tr h hs
theorem ex_ch.app {H H' : ex_H} {L : List Nat} {c : ex_C} (h : ex_ch H H' L) : ex_ch H (H' ++ [c]) L := ⟨by rw [List.length_append]; have := h.1; omega, fun k hk hn => by
  rw [List.getElem?_append_left (Nat.lt_of_lt_of_le hk h.1)]
  exact h.2 k hk hn⟩
