theorem bs_pl (w : Nat) (g m : Nat → Nat) (bo fi : Nat) (c : Nat → Nat) (ro co : Option Nat) : bs c 0 256 ≤ bs (pl w g m bo fi c ro co) 0 256 ∧ bs (pl w g m bo fi c ro co) 0 256 ≤ bs c 0 256 + 1 := by
  have h : ∀ v t, t ≤ 1 → bs c 0 256 ≤ bs (ca c v t) 0 256 ∧ bs (ca c v t) 0 256 ≤ bs c 0 256 + 1 := fun v t ht => by
    rw [bs_ca]
    split <;> omega
  unfold pl
  split
  · split
    · exact h _ _ (by omega)
    · exact ⟨Nat.le_refl _, by omega⟩
  · exact h _ _ (by split <;> omega)
theorem bs_row (w : Nat) (g m : Nat → Nat) (bo fi ac x : Nat) (ro : Option Nat) (c : Nat → Nat) : bs c 0 256 ≤ bs (rowc w g m bo fi ac x ro c) 0 256 ∧ bs (rowc w g m bo fi ac x ro c) 0 256 ≤ bs c 0 256 + (2 * ac + 1) :=
  fl_inv (P := fun i (c' : Nat → Nat) => bs c 0 256 ≤ bs c' 0 256 ∧ bs c' 0 256 ≤ bs c 0 256 + i) (2 * ac + 1) c ⟨Nat.le_refl _, Nat.le_add_right _ _⟩ (fun i c' _ hh => by
    have := bs_pl w g m bo fi c' ro (sf bo w (x + i) ac)
    omega)
theorem bs_rows (w h : Nat) (g m : Nat → Nat) (fi ac dn bo x y n : Nat) (c : Nat → Nat) : bs c 0 256 ≤ bs (fl (fun t c => rowc w g m bo fi ac x (sf bo h (y + t) dn) c) n c) 0 256 ∧ bs (fl (fun t c => rowc w g m bo fi ac x (sf bo h (y + t) dn) c) n c) 0 256 ≤ bs c 0 256 + n * (2 * ac + 1) :=
  fl_inv (P := fun i (c' : Nat → Nat) => bs c 0 256 ≤ bs c' 0 256 ∧ bs c' 0 256 ≤ bs c 0 256 + i * (2 * ac + 1)) n c ⟨Nat.le_refl _, Nat.le_add_right _ _⟩ (fun i c' _ hh => by
    have := bs_row w g m bo fi ac x (sf bo h (y + i) dn) c'
    rw [Nat.succ_mul]
    omega)
theorem cnts_le {w h : Nat} {g m : Nat → Nat} {fi ac dn bo wt x y : Nat} (hac : ac ≤ 4) (hdn : dn ≤ 4) (hwt : wt ≤ 9) : bs (cnts w h g m fi ac dn bo wt x y) 0 256 ≤ 90 := by
  have h1 := (bs_rows w h g m fi ac dn bo x y (2 * dn + 1) (fun _ => 0)).2
  rw [bs_zero] at h1
  have h2 : (2 * dn + 1) * (2 * ac + 1) ≤ 9 * 9 := Nat.mul_le_mul (by omega) (by omega)
  unfold cnts
  split
  · rw [bs_ca]; split <;> omega
  · omega
theorem fl_pick {σ : Type} (M : σ → Nat) {F : Nat → σ → σ} {n i : Nat} {s : σ} (hm : ∀ j s, M s ≤ M (F j s)) (hi : i < n) (h1 : ∀ s, M s + 1 ≤ M (F i s)) : M s + 1 ≤ M (fl F n s) := by
  obtain ⟨k, rfl⟩ := Nat.exists_eq_add_of_lt hi
  have hmono : ∀ n (s : σ), M s ≤ M (fl F n s) := fun n s => by
    induction n with
    | zero => exact Nat.le_refl _
    | succ n ih => exact Nat.le_trans ih (hm n _)
  induction k with
  | zero =>
    show M s + 1 ≤ M (F i (fl F i s))
    have a1 := h1 (fl F i s)
    have a2 := hmono i s
    omega
  | succ k ih => exact Nat.le_trans (ih (by omega)) (hm _ _)
theorem cnts_pos {w h : Nat} {g m : Nat → Nat} {fi ac dn bo wt x y : Nat} (hx : x < w) (hy : y < h) (hg : g (y * w + x) < 256) (hm : m (y * w + x) = 0) : 1 ≤ bs (cnts w h g m fi ac dn bo wt x y) 0 256 := by
  have e1 : sf bo w (x + ac) ac = some x := by unfold sf; rw [if_pos (by omega)]; simp
  have e2 : sf bo h (y + dn) dn = some y := by unfold sf; rw [if_pos (by omega)]; simp
  have hrow : ∀ c : Nat → Nat, bs c 0 256 + 1 ≤ bs (rowc w g m bo fi ac x (some y) c) 0 256 := fun c =>
    fl_pick (M := fun c : Nat → Nat => bs c 0 256) (i := ac) (fun j s => (bs_pl w g m bo fi s (some y) _).1) (by omega) (fun s => by
      show bs s 0 256 + 1 ≤ bs (pl w g m bo fi s (some y) (sf bo w (x + ac) ac)) 0 256
      rw [e1]
      show bs s 0 256 + 1 ≤ bs (if m (y * w + x) = 0 then ca s (g (y * w + x)) 1 else s) 0 256
      rw [if_pos hm, bs_ca, if_pos (by omega)]
      exact Nat.le_refl _)
  have hall : bs (fun _ => 0) 0 256 + 1 ≤ bs (fl (fun t c => rowc w g m bo fi ac x (sf bo h (y + t) dn) c) (2 * dn + 1) (fun _ => 0)) 0 256 :=
    fl_pick (M := fun c : Nat → Nat => bs c 0 256) (i := dn) (fun j s => (bs_row w g m bo fi ac x _ s).1) (by omega) (fun s => by
      show bs s 0 256 + 1 ≤ bs (rowc w g m bo fi ac x (sf bo h (y + dn) dn) s) 0 256
      rw [e2]
      exact hrow s)
  unfold cnts
  rw [if_pos hm, bs_ca]
  omega
theorem kv_spec {c : Nat → Nat} {k : Nat} (h : k < bs c 0 256) : kv c k < 256 ∧ bs c 0 (kv c k) ≤ k ∧ k < bs c 0 (kv c k + 1) := by
  have hex : ∀ n, k < bs c 0 n → ∃ v, v < n ∧ bs c 0 v ≤ k ∧ k < bs c 0 (v + 1) := by
    intro n
    induction n with
    | zero => intro h; exact absurd h (Nat.not_lt_zero k)
    | succ n ih =>
      intro h
      by_cases q : k < bs c 0 n
      · obtain ⟨v, v1, v2⟩ := ih q
        exact ⟨v, by omega, v2⟩
      · exact ⟨n, by omega, by omega, h⟩
  obtain ⟨v, v1, v2, v3⟩ := hex 256 h
  rw [kv_eq v2 v3]
  exact ⟨v1, v2, v3⟩
/-- what a dot would be by a filter -/
noncomputable def lsN (P : PT) (v : FV) (fi x y : Nat) : Nat := bs (cnts P.1 P.2.1 P.2.2.1 P.2.2.2 fi v.1 v.2.1 v.2.2.2.1 v.2.2.2.2 x y) 0 256
noncomputable def lsV (P : PT) (v : FV) (fi x y : Nat) : Nat := kv (cnts P.1 P.2.1 P.2.2.1 P.2.2.2 fi v.1 v.2.1 v.2.2.2.1 v.2.2.2.2 x y) (v.2.2.1 * (lsN P v fi x y - 1) / 100)
noncomputable def lsI (P : PT) (v : FV) (fi x y : Nat) : Int32 := if lsN P v fi x y = 0 then -1 else nI (lsV P v fi x y)
theorem lsV_lt {P : PT} {v : FV} {fi x y : Nat} (hrk : v.2.2.1 ≤ 100) (hN : 1 ≤ lsN P v fi x y) : lsV P v fi x y < 256 := by
  refine (kv_spec ?_).1
  have hm : v.2.2.1 * (lsN P v fi x y - 1) ≤ 100 * (lsN P v fi x y - 1) := Nat.mul_le_mul_right _ hrk
  show _ < lsN P v fi x y
  omega
abbrev SS : Type := (Nat × (Nat → Nat)) × Int32 × ST × (Nat → Nat) × (Nat → ST) × (Nat × (Nat → PT)) × (Nat × (Nat → BV))
/-- the class's cells -/
def cl_is (H : ex_H) (S : SS) : Prop :=
  H[0]? = some (ob 9 [.ref 1, .ref 3, .ref 9, .ref 22, .ref 23, .ref 73, .ref 77, .ref 80, .ref 83, .int S.2.1]) ∧ (∃ pl, tx_is H 1 S.1.1 S.1.2 pl) ∧ st_is H 3 S.2.2.1 ∧ (∃ f, H[9]? = some (rr RX6 2 f) ∧ f 0 = some 10 ∧ f 1 = some 16) ∧ st_is H 10 (S.2.2.2.2.1 0) ∧ st_is H 16 (S.2.2.2.2.1 1) ∧ (∃ f, H[22]? = some (ar .boolean 2 f) ∧ ∀ i, i < 2 → f i = nI (S.2.2.2.1 i) ∧ S.2.2.2.1 i < 2) ∧ hi_is H S.2.2.2.2.2.1.1 S.2.2.2.2.2.1.2 ∧ bk_is H S.2.2.2.2.2.2.1 S.2.2.2.2.2.2.2 ∧ (∃ c, wi_is H 77 c) ∧ pi_any H 80 ∧ pi_any H 83
theorem sp_lastOf {d : Nat} {H : ex_H} {a x y : Nat} {v : FV} {fi : Nat} {P : PT} {c1 c3 c4 c5 c6 c7 c8 u1 u2 : Value} {fa : Value} {cw : Nat → Nat} (a1 : H[0]? = some (ob 9 [c1, .ref 3, c3, c4, c5, c6, .ref 77, c7, c8, fa])) (b1 : H[3]? = some (ob 6 [.ref 4, u1, .int (nI fi), u2])) (hfi : fi < 256) (hp : pis H 4 P) (hw : wi_is H 77 cw) (ha : 98 ≤ a) (hv : fiv H a v) (hx : x < P.1) (hy : y < P.2.1) : ex_Met mX9_lastOf (d + 4) 0 0 H [.ref 0, .ref a, .int (nI x), .int (nI y)] (fun H' r => r = some (.int (lsI P v fi x y)) ∧ ex_ch H H' [77, 78, 79] ∧ ∃ c, wi_is H' 77 c) := by
  obtain ⟨w, h, g, m⟩ := P
  obtain ⟨ac, dn, rk, bo, wt⟩ := v
  obtain ⟨w1, co, fn, w2, w3, w4⟩ := id hw
  obtain ⟨v1, v2, v3, v4, v5, v6, v7⟩ := id hv
  have hN := cnts_le (w := w) (h := h) (g := g) (m := m) (fi := fi) (bo := bo) (x := x) (y := y) v2 v3 v7
  dsimp only at *
  refine ex_meth [(0, .ref 0), (1, .ref a), (2, .int (nI x)), (3, .int (nI y))] rfl rfl rfl (fun b => Nat.le_of_ble_eq_true rfl) ?_
  refine ew_aload_n (M := mX9_lastOf) dX9_lastOf_0 rfl (Or.inr (Or.inl ⟨_, rfl⟩)) ?_
  refine ew_get (M := mX9_lastOf) dX9_lastOf_1 fX9_48 (by repeat (first | with_reducible assumption | refine ex_eq ?_ | refine ex_ne ?_ (by omega) | exact ex_lt (by with_reducible assumption) | rw [List.length_set] | assumption)) (by rfl) ?_
  refine ew_aload_n (M := mX9_lastOf) dX9_lastOf_4 rfl (Or.inr (Or.inl ⟨_, rfl⟩)) ?_
  refine ew_get (M := mX9_lastOf) dX9_lastOf_5 fX9_19 (by repeat (first | with_reducible assumption | refine ex_eq ?_ | refine ex_ne ?_ (by omega) | exact ex_lt (by with_reducible assumption) | rw [List.length_set] | assumption)) (by rfl) ?_
  refine ew_get (M := mX9_lastOf) dX9_lastOf_8 fX9_86 (by repeat (first | with_reducible assumption | refine ex_eq ?_ | refine ex_ne ?_ (by omega) | exact ex_lt (by with_reducible assumption) | rw [List.length_set] | assumption)) (by rfl) ?_
  refine ew_aload_n (M := mX9_lastOf) dX9_lastOf_11 rfl (Or.inr (Or.inl ⟨_, rfl⟩)) ?_
  refine ew_aload_n (M := mX9_lastOf) dX9_lastOf_12 rfl (Or.inr (Or.inl ⟨_, rfl⟩)) ?_
  refine ew_get (M := mX9_lastOf) dX9_lastOf_13 fX9_19 (by repeat (first | with_reducible assumption | refine ex_eq ?_ | refine ex_ne ?_ (by omega) | exact ex_lt (by with_reducible assumption) | rw [List.length_set] | assumption)) (by rfl) ?_
  refine ew_get (M := mX9_lastOf) dX9_lastOf_16 fX9_129 (by repeat (first | with_reducible assumption | refine ex_eq ?_ | refine ex_ne ?_ (by omega) | exact ex_lt (by with_reducible assumption) | rw [List.length_set] | assumption)) (by rfl) ?_
  refine ew_iload_n (M := mX9_lastOf) dX9_lastOf_19 rfl ?_
  refine ew_iload_n (M := mX9_lastOf) dX9_lastOf_20 rfl ?_
  refine ew_callV (M := mX9_lastOf) dX9_lastOf_21 vX9_174 (by repeat (first | with_reducible assumption | refine ex_eq ?_ | refine ex_ne ?_ (by omega) | exact ex_lt (by with_reducible assumption) | rw [List.length_set] | assumption)) rfl (sp_lookAt hw hp hv hfi hx hy (by omega) (by omega)) rfl (Nat.le_of_ble_eq_true rfl) ⟨Nat.le_refl _, Nat.le_refl _⟩ rfl (fun H21 r21 q21 => ?_)
  obtain ⟨rfl, hc1, hw1⟩ := q21
  have hw1 : wi_is H21 77 (cnts w h g m fi ac dn bo wt x y) := hw1
  have a11 := hc1.at a1 (by simp <;> omega)
  have v11 := hc1.at v1 (by simp <;> omega)
  obtain ⟨w11, co1, fn1, w21, w31, w41⟩ := id hw1
  by_cases h0 : bs (cnts w h g m fi ac dn bo wt x y) 0 256 = 0
  · refine ew_aload_n (M := mX9_lastOf) dX9_lastOf_24 rfl (Or.inr (Or.inl ⟨_, rfl⟩)) ?_
    refine ew_get (M := mX9_lastOf) dX9_lastOf_25 fX9_48 (by repeat (first | with_reducible assumption | refine ex_eq ?_ | refine ex_ne ?_ (by omega) | exact ex_lt (by with_reducible assumption) | rw [List.length_set] | assumption)) (by rfl) ?_
    refine ew_aload_n (M := mX9_lastOf) dX9_lastOf_28 rfl (Or.inr (Or.inl ⟨_, rfl⟩)) ?_
    refine ew_get (M := mX9_lastOf) dX9_lastOf_29 fX9_178 (by repeat (first | with_reducible assumption | refine ex_eq ?_ | refine ex_ne ?_ (by omega) | exact ex_lt (by with_reducible assumption) | rw [List.length_set] | assumption)) (by rfl) ?_
    refine ew_callV (M := mX9_lastOf) dX9_lastOf_32 vX9_181 (by repeat (first | with_reducible assumption | refine ex_eq ?_ | refine ex_ne ?_ (by omega) | exact ex_lt (by with_reducible assumption) | rw [List.length_set] | assumption)) rfl (sp_ranked0 hw1 h0) rfl (Nat.le_of_ble_eq_true rfl) ⟨Nat.le_refl _, Nat.le_refl _⟩ rfl (fun H32 r32 q32 => ?_)
    obtain ⟨rfl, rfl⟩ := q32
    refine ew_iret (M := mX9_lastOf) dX9_lastOf_35 rfl (by first | rfl | decide) (Nat.le_refl _) (Nat.le_refl _) ?_
    have e0 : lsI (w, h, g, m) (ac, dn, rk, bo, wt) fi x y = -1 := by unfold lsI; exact if_pos h0
    exact ⟨by rw [e0], hc1, _, hw1⟩
  · refine ew_aload_n (M := mX9_lastOf) dX9_lastOf_24 rfl (Or.inr (Or.inl ⟨_, rfl⟩)) ?_
    refine ew_get (M := mX9_lastOf) dX9_lastOf_25 fX9_48 (by repeat (first | with_reducible assumption | refine ex_eq ?_ | refine ex_ne ?_ (by omega) | exact ex_lt (by with_reducible assumption) | rw [List.length_set] | assumption)) (by rfl) ?_
    refine ew_aload_n (M := mX9_lastOf) dX9_lastOf_28 rfl (Or.inr (Or.inl ⟨_, rfl⟩)) ?_
    refine ew_get (M := mX9_lastOf) dX9_lastOf_29 fX9_178 (by repeat (first | with_reducible assumption | refine ex_eq ?_ | refine ex_ne ?_ (by omega) | exact ex_lt (by with_reducible assumption) | rw [List.length_set] | assumption)) (by rfl) ?_
    refine ew_callV (M := mX9_lastOf) dX9_lastOf_32 vX9_181 (by repeat (first | with_reducible assumption | refine ex_eq ?_ | refine ex_ne ?_ (by omega) | exact ex_lt (by with_reducible assumption) | rw [List.length_set] | assumption)) rfl (sp_ranked hw1 v4 (by omega) (by omega)) rfl (Nat.le_of_ble_eq_true rfl) ⟨Nat.le_refl _, Nat.le_refl _⟩ rfl (fun H32 r32 q32 => ?_)
    obtain ⟨rfl, rfl⟩ := q32
    refine ew_iret (M := mX9_lastOf) dX9_lastOf_35 rfl (by first | rfl | decide) (Nat.le_refl _) (Nat.le_refl _) ?_
    have e0 : lsI (w, h, g, m) (ac, dn, rk, bo, wt) fi x y = nI (lsV (w, h, g, m) (ac, dn, rk, bo, wt) fi x y) := by unfold lsI; exact if_neg h0
    exact ⟨by rw [e0]; rfl, hc1, _, hw1⟩
theorem pi_is.congr {H : ex_H} {p w h : Nat} {g m g' m' : Nat → Nat} (hp : pi_is H p w h g m) (hg : ∀ k, k < w * h → g k = g' k) (hm : ∀ k, k < w * h → m k = m' k) : pi_is H p w h g' m' := by
  obtain ⟨⟨hz, hgm⟩, gs, ms, h1, h2⟩ := hp
  exact ⟨⟨hz, fun k hk => by rw [← hg k hk, ← hm k hk]; exact hgm k hk⟩, gs, ms, h1, fun k hk => by rw [← hg k hk, ← hm k hk]; exact h2 k hk⟩
/-- the greys behind a filter -/
noncomputable def apG (P : PT) (v : FV) (fi : Nat) : Nat → Nat := fun k => if P.2.2.2 k = 0 then lsV P v fi (k % P.1) (k / P.1) else P.2.2.1 k
noncomputable def apP (P : PT) (v : FV) (fi : Nat) : PT := (P.1, P.2.1, apG P v fi, P.2.2.2)
theorem apG_lt {P : PT} {v : FV} {fi k : Nat} (hok : pi_ok P.1 P.2.1 P.2.2.1 P.2.2.2) (hrk : v.2.2.1 ≤ 100) (hk : k < P.1 * P.2.1) : apG P v fi k < 256 := by
  obtain ⟨i, j, hi, hj, rfl⟩ := tu_split hk
  obtain ⟨ta, tb⟩ := tu_at (j := j) hi
  unfold apG
  rw [ta, tb]
  split
  · rename_i e
    exact lsV_lt hrk (cnts_pos hi hj (hok.2 _ hk).1 e)
  · exact (hok.2 _ hk).1
theorem sp_apply {d : Nat} {H : ex_H} {a : Nat} {v : FV} {fi : Nat} {P : PT} {c1 c3 c4 c5 c6 c8 u1 u2 : Value} {fa : Value} {cw : Nat → Nat} (a1 : H[0]? = some (ob 9 [c1, .ref 3, c3, c4, c5, c6, .ref 77, .ref 80, c8, fa])) (b1 : H[3]? = some (ob 6 [.ref 4, u1, .int (nI fi), u2])) (hfi : fi < 256) (hp : pis H 4 P) (hw : wi_is H 77 cw) (hs : pi_any H 80) (ha : 98 ≤ a) (hv : fiv H a v) : ex_Met mX9_apply (d + 5) 0 0 H [.ref 0, .ref a] (fun H' r => r = some (.int (nI (pm_gother P.1 P.2.1 P.2.2.1 (apG P v fi)))) ∧ ex_ch H H' [4, 5, 6, 77, 78, 79, 80, 81, 82] ∧ (∃ c, wi_is H' 77 c) ∧ pi_any H' 80 ∧ pis H' 4 (apP P v fi)) := by
  obtain ⟨w, h, g, m⟩ := P
  obtain ⟨hok, gs, ms, hp0, hct⟩ := id hp
  obtain ⟨hz, hgm⟩ := id hok
  obtain ⟨hp1, hp2, hp3⟩ := id hp0
  obtain ⟨w0, h0, gs0, ms0, hs0⟩ := id hs
  obtain ⟨hs1, hs2, hs3⟩ := id hs0
  obtain ⟨v1, v2, v3, v4, v5, v6, v7⟩ := id hv
  have hrk : v.2.2.1 ≤ 100 := v4
  dsimp only at *
  have h80 := pi_80 hz
  obtain ⟨hz1, hz2, hz3, hz4⟩ := id hz
  have hag : ∀ k, k < w * h → apG (w, h, g, m) v fi k < 256 := fun k hk => apG_lt (P := (w, h, g, m)) hok hrk hk
  refine ex_meth [(0, .ref 0), (1, .ref a)] rfl rfl rfl (fun b => Nat.le_of_ble_eq_true rfl) ?_
  refine ew_aload_n (M := mX9_apply) dX9_apply_0 rfl (Or.inr (Or.inl ⟨_, rfl⟩)) ?_
  refine ew_get (M := mX9_apply) dX9_apply_1 fX9_55 (by repeat (first | with_reducible assumption | refine ex_eq ?_ | refine ex_ne ?_ (by omega) | exact ex_lt (by with_reducible assumption) | rw [List.length_set] | assumption)) (by rfl) ?_
  refine ew_aload_n (M := mX9_apply) dX9_apply_4 rfl (Or.inr (Or.inl ⟨_, rfl⟩)) ?_
  refine ew_get (M := mX9_apply) dX9_apply_5 fX9_19 (by repeat (first | with_reducible assumption | refine ex_eq ?_ | refine ex_ne ?_ (by omega) | exact ex_lt (by with_reducible assumption) | rw [List.length_set] | assumption)) (by rfl) ?_
  refine ew_get (M := mX9_apply) dX9_apply_8 fX9_86 (by repeat (first | with_reducible assumption | refine ex_eq ?_ | refine ex_ne ?_ (by omega) | exact ex_lt (by with_reducible assumption) | rw [List.length_set] | assumption)) (by rfl) ?_
  refine ew_callV (M := mX9_apply) dX9_apply_11 vX9_93 (by repeat (first | with_reducible assumption | refine ex_eq ?_ | refine ex_ne ?_ (by omega) | exact ex_lt (by with_reducible assumption) | rw [List.length_set] | assumption)) rfl (sp_become hs0 hp (by omega)) rfl (Nat.le_of_ble_eq_true rfl) ⟨Nat.le_refl _, Nat.le_refl _⟩ rfl (fun H11 r11 q11 => ?_)
  obtain ⟨rfl, hc1, hs4⟩ := q11
  refine ew_iconst (M := mX9_apply) dX9_apply_14 (v := nI 0) (by decide) ?_
  refine ew_istore_n (M := mX9_apply) dX9_apply_15 (by decide) rfl ?_
  refine ew_ls [(0, .ref 0), (1, .ref a), (2, .int (nI 0))] ⟨rfl, rfl, rfl, trivial⟩ ?_
  refine nat_down (P := fun j => ∀ H2 : ex_H, ex_ch H H2 [77, 78, 79, 80, 81, 82] → (∃ c, wi_is H2 77 c) → pi_is H2 80 w h (fun k => if k < j * w then apG (w, h, g, m) v fi k else g k) m → ex_W mX9_apply (d + 5) 0 0 (fun H' r => r = some (.int (nI (pm_gother w h g (apG (w, h, g, m) v fi)))) ∧ ex_ch H H' [4, 5, 6, 77, 78, 79, 80, 81, 82] ∧ (∃ c, wi_is H' 77 c) ∧ pi_any H' 80 ∧ pis H' 4 (apP (w, h, g, m) v fi)) H2 16 [(0, .ref 0), (1, .ref a), (2, .int (nI j))] [] 0 0) h (fun j hj k => ?_) ?_ H11 (hc1.sub (by simp)) ⟨cw, hw.ch hc1 (by simp) (by simp) (by simp)⟩ (pi_is.congr hs4 (fun k hk => by rw [if_neg (by rw [Nat.zero_mul]; exact Nat.not_lt_zero k)]) (fun k hk => rfl))
  · intro H2 hc2 hw2 hs5
    obtain ⟨cw2, hw2⟩ := hw2
    have a12 := hc2.at a1 (by simp)
    have b12 := hc2.at b1 (by simp)
    have hp9 : pi_is H2 4 w h g m := pi_is.ch hc2 hp (by simp) (by simp) (by simp)
    obtain ⟨-, gs9, ms9, ⟨hp91, hp92, hp93⟩, -⟩ := id hp9
    obtain ⟨-, gs8, ms8, ⟨hs91, hs92, hs93⟩, -⟩ := id hs5
    have v12 := fiv.ch hc2 hv (by simp <;> omega)
    refine ew_iload_n (M := mX9_apply) dX9_apply_16 rfl ?_
    refine ew_aload_n (M := mX9_apply) dX9_apply_17 rfl (Or.inr (Or.inl ⟨_, rfl⟩)) ?_
    refine ew_get (M := mX9_apply) dX9_apply_18 fX9_19 (by repeat (first | with_reducible assumption | refine ex_eq ?_ | refine ex_ne ?_ (by omega) | exact ex_lt (by with_reducible assumption) | rw [List.length_set] | assumption)) (by rfl) ?_
    refine ew_get (M := mX9_apply) dX9_apply_21 fX9_86 (by repeat (first | with_reducible assumption | refine ex_eq ?_ | refine ex_ne ?_ (by omega) | exact ex_lt (by with_reducible assumption) | rw [List.length_set] | assumption)) (by rfl) ?_
    refine ew_get (M := mX9_apply) dX9_apply_24 fX9_102 (by repeat (first | with_reducible assumption | refine ex_eq ?_ | refine ex_ne ?_ (by omega) | exact ex_lt (by with_reducible assumption) | rw [List.length_set] | assumption)) (by rfl) ?_
    refine ew_icmp_ge (M := mX9_apply) (tgt := 89) dX9_apply_27 rfl (fun h => absurd h (nI_ge hj (by omega))) (fun _ => ?_)
    refine ew_iconst (M := mX9_apply) dX9_apply_30 (v := nI 0) (by decide) ?_
    refine ew_istore_n (M := mX9_apply) dX9_apply_31 (by decide) rfl ?_
    refine ew_ls [(0, .ref 0), (1, .ref a), (2, .int (nI j)), (3, .int (nI 0))] ⟨rfl, rfl, rfl, rfl, trivial⟩ ?_
    refine nat_down (P := fun i => ∀ H2 : ex_H, ex_ch H H2 [77, 78, 79, 80, 81, 82] → (∃ c, wi_is H2 77 c) → pi_is H2 80 w h (fun k => if k < j * w + i then apG (w, h, g, m) v fi k else g k) m → ex_W mX9_apply (d + 5) 0 0 (fun H' r => r = some (.int (nI (pm_gother w h g (apG (w, h, g, m) v fi)))) ∧ ex_ch H H' [4, 5, 6, 77, 78, 79, 80, 81, 82] ∧ (∃ c, wi_is H' 77 c) ∧ pi_any H' 80 ∧ pis H' 4 (apP (w, h, g, m) v fi)) H2 32 [(0, .ref 0), (1, .ref a), (2, .int (nI j)), (3, .int (nI i))] [] 0 0) w (fun i hi k => ?_) ?_ H2 hc2 ⟨cw2, hw2⟩ hs5
    · intro H2 hc2 hw2 hs5
      obtain ⟨cw2, hw2⟩ := hw2
      have a12 := hc2.at a1 (by simp)
      have b12 := hc2.at b1 (by simp)
      have hp9 : pi_is H2 4 w h g m := pi_is.ch hc2 hp (by simp) (by simp) (by simp)
      obtain ⟨-, gs9, ms9, ⟨hp91, hp92, hp93⟩, -⟩ := id hp9
      obtain ⟨-, gs8, ms8, ⟨hs91, hs92, hs93⟩, -⟩ := id hs5
      have v12 := fiv.ch hc2 hv (by simp <;> omega)
      have hkk := pi_lt hi hj
      have hg1 := hgm _ hkk
      have tat := tu_at (j := j) hi
      have hae : m (j * w + i) = 0 → lsI (w, h, g, m) v fi i j = nI (apG (w, h, g, m) v fi (j * w + i)) := fun e => by
        have hpos : lsN (w, h, g, m) v fi i j ≠ 0 := Nat.ne_of_gt (cnts_pos hi hj hg1.1 e)
        have eg : apG (w, h, g, m) v fi (j * w + i) = lsV (w, h, g, m) v fi i j := by
          unfold apG
          rw [if_pos e]
          show lsV (w, h, g, m) v fi ((j * w + i) % w) ((j * w + i) / w) = _
          rw [tat.1, tat.2]
        rw [lsI, if_neg hpos, eg]
      refine ew_iload_n (M := mX9_apply) dX9_apply_32 rfl ?_
      refine ew_aload_n (M := mX9_apply) dX9_apply_33 rfl (Or.inr (Or.inl ⟨_, rfl⟩)) ?_
      refine ew_get (M := mX9_apply) dX9_apply_34 fX9_19 (by repeat (first | with_reducible assumption | refine ex_eq ?_ | refine ex_ne ?_ (by omega) | exact ex_lt (by with_reducible assumption) | rw [List.length_set] | assumption)) (by rfl) ?_
      refine ew_get (M := mX9_apply) dX9_apply_37 fX9_86 (by repeat (first | with_reducible assumption | refine ex_eq ?_ | refine ex_ne ?_ (by omega) | exact ex_lt (by with_reducible assumption) | rw [List.length_set] | assumption)) (by rfl) ?_
      refine ew_get (M := mX9_apply) dX9_apply_40 fX9_99 (by repeat (first | with_reducible assumption | refine ex_eq ?_ | refine ex_ne ?_ (by omega) | exact ex_lt (by with_reducible assumption) | rw [List.length_set] | assumption)) (by rfl) ?_
      refine ew_icmp_ge (M := mX9_apply) (tgt := 83) dX9_apply_43 rfl (fun h => absurd h (nI_ge hi (by omega))) (fun _ => ?_)
      refine ew_aload_n (M := mX9_apply) dX9_apply_46 rfl (Or.inr (Or.inl ⟨_, rfl⟩)) ?_
      refine ew_get (M := mX9_apply) dX9_apply_47 fX9_19 (by repeat (first | with_reducible assumption | refine ex_eq ?_ | refine ex_ne ?_ (by omega) | exact ex_lt (by with_reducible assumption) | rw [List.length_set] | assumption)) (by rfl) ?_
      refine ew_get (M := mX9_apply) dX9_apply_50 fX9_86 (by repeat (first | with_reducible assumption | refine ex_eq ?_ | refine ex_ne ?_ (by omega) | exact ex_lt (by with_reducible assumption) | rw [List.length_set] | assumption)) (by rfl) ?_
      refine ew_iload_n (M := mX9_apply) dX9_apply_53 rfl ?_
      refine ew_iload_n (M := mX9_apply) dX9_apply_54 rfl ?_
      refine ew_callV (M := mX9_apply) dX9_apply_55 vX9_146 (by repeat (first | with_reducible assumption | refine ex_eq ?_ | refine ex_ne ?_ (by omega) | exact ex_lt (by with_reducible assumption) | rw [List.length_set] | assumption)) rfl (sp_isMasked hp9 hi hj) rfl (Nat.le_of_ble_eq_true rfl) ⟨Nat.le_refl _, Nat.le_refl _⟩ rfl (fun H55 r55 q55 => ?_)
      obtain ⟨rfl, rfl⟩ := q55
      refine ew_if_ne (M := mX9_apply) (tgt := 77) dX9_apply_58 rfl (fun c58 => ?_) (fun c58 => ?_)
      · rw [nI_z (by omega)] at c58
        refine ew_iinc (M := mX9_apply) dX9_apply_77 rfl (ex_inc i) (by decide) rfl ?_
        refine ew_goto (M := mX9_apply) (tgt := 32) dX9_apply_80 rfl ?_
        first
          | (refine ew_ls _ ?_ (k _ ((hc2.tr hc3 (by simp)).tr hc4 (by simp)) (hw3.elim fun c hc => ⟨c, hc.ch hc4 (by simp) (by simp) (by simp)⟩) (pi_is.congr hs7 (fun k' hk' => ?_) (fun _ _ => rfl)))
             · exact ⟨rfl, rfl, rfl, rfl, trivial⟩
             · by_cases e : k' = j * w + i
               · subst e; simp only [va_up, if_true]; rw [if_pos (by omega)]
               · simp only [va_up, if_neg e]
                 by_cases e2 : k' < j * w + i
                 · rw [if_pos e2, if_pos (by omega)]
                 · rw [if_neg e2, if_neg (by omega)])
          | (refine ew_ls _ ?_ (k _ hc2 ⟨cw2, hw2⟩ (pi_is.congr hs5 (fun k' hk' => ?_) (fun _ _ => rfl)))
             · exact ⟨rfl, rfl, rfl, rfl, trivial⟩
             · by_cases e : k' = j * w + i
               · subst e
                 rw [if_neg (by omega), if_pos (by omega)]
                 exact (if_neg c58).symm
               · by_cases e2 : k' < j * w + i
                 · rw [if_pos e2, if_pos (by omega)]
                 · rw [if_neg e2, if_neg (by omega)])
      · rw [nI_z (by omega)] at c58
        refine ew_aload_n (M := mX9_apply) dX9_apply_61 rfl (Or.inr (Or.inl ⟨_, rfl⟩)) ?_
        refine ew_get (M := mX9_apply) dX9_apply_62 fX9_55 (by repeat (first | with_reducible assumption | refine ex_eq ?_ | refine ex_ne ?_ (by omega) | exact ex_lt (by with_reducible assumption) | rw [List.length_set] | assumption)) (by rfl) ?_
        refine ew_iload_n (M := mX9_apply) dX9_apply_65 rfl ?_
        refine ew_iload_n (M := mX9_apply) dX9_apply_66 rfl ?_
        refine ew_aload_n (M := mX9_apply) dX9_apply_67 rfl (Or.inr (Or.inl ⟨_, rfl⟩)) ?_
        refine ew_aload_n (M := mX9_apply) dX9_apply_68 rfl (Or.inr (Or.inl ⟨_, rfl⟩)) ?_
        refine ew_iload_n (M := mX9_apply) dX9_apply_69 rfl ?_
        refine ew_iload_n (M := mX9_apply) dX9_apply_70 rfl ?_
        refine ew_callV (M := mX9_apply) dX9_apply_71 vX9_193 (by repeat (first | with_reducible assumption | refine ex_eq ?_ | refine ex_ne ?_ (by omega) | exact ex_lt (by with_reducible assumption) | rw [List.length_set] | assumption)) rfl (sp_lastOf (P := (w, h, g, m)) a12 b12 hfi hp9 hw2 ha v12 hi hj) rfl (Nat.le_of_ble_eq_true rfl) ⟨Nat.le_refl _, Nat.le_refl _⟩ rfl (fun H71 r71 q71 => ?_)
        obtain ⟨rfl, hc3, hw3⟩ := q71
        rw [hae c58]
        have hs6 := pi_is.ch hc3 hs5 (by simp) (by simp) (by simp)
        obtain ⟨-, gs7, ms7, ⟨hs71, hs72, hs73⟩, -⟩ := id hs6
        refine ew_callV (M := mX9_apply) dX9_apply_74 vX9_202 (by repeat (first | with_reducible assumption | refine ex_eq ?_ | refine ex_ne ?_ (by omega) | exact ex_lt (by with_reducible assumption) | rw [List.length_set] | assumption)) rfl (sp_setGrey hs6 hi hj (hag _ hkk)) rfl (Nat.le_of_ble_eq_true rfl) ⟨Nat.le_refl _, Nat.le_refl _⟩ rfl (fun H74 r74 q74 => ?_)
        obtain ⟨rfl, hc4, hs7⟩ := q74
        refine ew_iinc (M := mX9_apply) dX9_apply_77 rfl (ex_inc i) (by decide) rfl ?_
        refine ew_goto (M := mX9_apply) (tgt := 32) dX9_apply_80 rfl ?_
        first
          | (refine ew_ls _ ?_ (k _ ((hc2.tr hc3 (by simp)).tr hc4 (by simp)) (hw3.elim fun c hc => ⟨c, hc.ch hc4 (by simp) (by simp) (by simp)⟩) (pi_is.congr hs7 (fun k' hk' => ?_) (fun _ _ => rfl)))
             · exact ⟨rfl, rfl, rfl, rfl, trivial⟩
             · by_cases e : k' = j * w + i
               · subst e; simp only [va_up, if_true]; rw [if_pos (by omega)]
               · simp only [va_up, if_neg e]
                 by_cases e2 : k' < j * w + i
                 · rw [if_pos e2, if_pos (by omega)]
                 · rw [if_neg e2, if_neg (by omega)])
          | (refine ew_ls _ ?_ (k _ hc2 ⟨cw2, hw2⟩ (pi_is.congr hs5 (fun k' hk' => ?_) (fun _ _ => rfl)))
             · exact ⟨rfl, rfl, rfl, rfl, trivial⟩
             · by_cases e : k' = j * w + i
               · subst e
                 rw [if_neg (by omega), if_pos (by omega)]
                 exact (if_neg c58).symm
               · by_cases e2 : k' < j * w + i
                 · rw [if_pos e2, if_pos (by omega)]
                 · rw [if_neg e2, if_neg (by omega)])
    · intro H2 hc2 hw2 hs5
      obtain ⟨cw2, hw2⟩ := hw2
      have a12 := hc2.at a1 (by simp)
      have b12 := hc2.at b1 (by simp)
      have hp9 : pi_is H2 4 w h g m := pi_is.ch hc2 hp (by simp) (by simp) (by simp)
      obtain ⟨-, gs9, ms9, ⟨hp91, hp92, hp93⟩, -⟩ := id hp9
      obtain ⟨-, gs8, ms8, ⟨hs91, hs92, hs93⟩, -⟩ := id hs5
      have v12 := fiv.ch hc2 hv (by simp <;> omega)
      refine ew_iload_n (M := mX9_apply) dX9_apply_32 rfl ?_
      refine ew_aload_n (M := mX9_apply) dX9_apply_33 rfl (Or.inr (Or.inl ⟨_, rfl⟩)) ?_
      refine ew_get (M := mX9_apply) dX9_apply_34 fX9_19 (by repeat (first | with_reducible assumption | refine ex_eq ?_ | refine ex_ne ?_ (by omega) | exact ex_lt (by with_reducible assumption) | rw [List.length_set] | assumption)) (by rfl) ?_
      refine ew_get (M := mX9_apply) dX9_apply_37 fX9_86 (by repeat (first | with_reducible assumption | refine ex_eq ?_ | refine ex_ne ?_ (by omega) | exact ex_lt (by with_reducible assumption) | rw [List.length_set] | assumption)) (by rfl) ?_
      refine ew_get (M := mX9_apply) dX9_apply_40 fX9_99 (by repeat (first | with_reducible assumption | refine ex_eq ?_ | refine ex_ne ?_ (by omega) | exact ex_lt (by with_reducible assumption) | rw [List.length_set] | assumption)) (by rfl) ?_
      refine ew_icmp_ge (M := mX9_apply) (tgt := 83) dX9_apply_43 rfl (fun _ => ?_) (fun h => absurd (nI_le (Nat.le_refl _) (by omega)) h)
      refine ew_iinc (M := mX9_apply) dX9_apply_83 rfl (ex_inc j) (by decide) rfl ?_
      refine ew_goto (M := mX9_apply) (tgt := 16) dX9_apply_86 rfl ?_
      refine ew_ls _ ?_ (k _ hc2 ⟨cw2, hw2⟩ (pi_is.congr hs5 (fun k' hk' => by rw [Nat.succ_mul]) (fun _ _ => rfl)))
      exact ⟨rfl, rfl, rfl, trivial⟩
  · intro H2 hc2 hw2 hs5
    obtain ⟨cw2, hw2⟩ := hw2
    have a12 := hc2.at a1 (by simp)
    have b12 := hc2.at b1 (by simp)
    have hp9 : pi_is H2 4 w h g m := pi_is.ch hc2 hp (by simp) (by simp) (by simp)
    obtain ⟨-, gs9, ms9, ⟨hp91, hp92, hp93⟩, -⟩ := id hp9
    obtain ⟨-, gs8, ms8, ⟨hs91, hs92, hs93⟩, -⟩ := id hs5
    have v12 := fiv.ch hc2 hv (by simp <;> omega)
    have hs6 : pi_is H2 80 w h (apG (w, h, g, m) v fi) m := pi_is.congr hs5 (fun k hk => if_pos (by rw [Nat.mul_comm]; exact hk)) (fun _ _ => rfl)
    refine ew_iload_n (M := mX9_apply) dX9_apply_16 rfl ?_
    refine ew_aload_n (M := mX9_apply) dX9_apply_17 rfl (Or.inr (Or.inl ⟨_, rfl⟩)) ?_
    refine ew_get (M := mX9_apply) dX9_apply_18 fX9_19 (by repeat (first | with_reducible assumption | refine ex_eq ?_ | refine ex_ne ?_ (by omega) | exact ex_lt (by with_reducible assumption) | rw [List.length_set] | assumption)) (by rfl) ?_
    refine ew_get (M := mX9_apply) dX9_apply_21 fX9_86 (by repeat (first | with_reducible assumption | refine ex_eq ?_ | refine ex_ne ?_ (by omega) | exact ex_lt (by with_reducible assumption) | rw [List.length_set] | assumption)) (by rfl) ?_
    refine ew_get (M := mX9_apply) dX9_apply_24 fX9_102 (by repeat (first | with_reducible assumption | refine ex_eq ?_ | refine ex_ne ?_ (by omega) | exact ex_lt (by with_reducible assumption) | rw [List.length_set] | assumption)) (by rfl) ?_
    refine ew_icmp_ge (M := mX9_apply) (tgt := 89) dX9_apply_27 rfl (fun _ => ?_) (fun h => absurd (nI_le (Nat.le_refl _) (by omega)) h)
    refine ew_aload_n (M := mX9_apply) dX9_apply_89 rfl (Or.inr (Or.inl ⟨_, rfl⟩)) ?_
    refine ew_get (M := mX9_apply) dX9_apply_90 fX9_19 (by repeat (first | with_reducible assumption | refine ex_eq ?_ | refine ex_ne ?_ (by omega) | exact ex_lt (by with_reducible assumption) | rw [List.length_set] | assumption)) (by rfl) ?_
    refine ew_get (M := mX9_apply) dX9_apply_93 fX9_86 (by repeat (first | with_reducible assumption | refine ex_eq ?_ | refine ex_ne ?_ (by omega) | exact ex_lt (by with_reducible assumption) | rw [List.length_set] | assumption)) (by rfl) ?_
    refine ew_aload_n (M := mX9_apply) dX9_apply_96 rfl (Or.inr (Or.inl ⟨_, rfl⟩)) ?_
    refine ew_get (M := mX9_apply) dX9_apply_97 fX9_55 (by repeat (first | with_reducible assumption | refine ex_eq ?_ | refine ex_ne ?_ (by omega) | exact ex_lt (by with_reducible assumption) | rw [List.length_set] | assumption)) (by rfl) ?_
    refine ew_callV (M := mX9_apply) dX9_apply_100 vX9_218 (by repeat (first | with_reducible assumption | refine ex_eq ?_ | refine ex_ne ?_ (by omega) | exact ex_lt (by with_reducible assumption) | rw [List.length_set] | assumption)) rfl (sp_greysOtherThan hp9 hs6) rfl (Nat.le_of_ble_eq_true rfl) ⟨Nat.le_refl _, Nat.le_refl _⟩ rfl (fun H100 r100 q100 => ?_)
    obtain ⟨rfl, rfl⟩ := q100
    refine ew_istore_n (M := mX9_apply) dX9_apply_103 (by decide) rfl ?_
    refine ew_aload_n (M := mX9_apply) dX9_apply_104 rfl (Or.inr (Or.inl ⟨_, rfl⟩)) ?_
    refine ew_get (M := mX9_apply) dX9_apply_105 fX9_19 (by repeat (first | with_reducible assumption | refine ex_eq ?_ | refine ex_ne ?_ (by omega) | exact ex_lt (by with_reducible assumption) | rw [List.length_set] | assumption)) (by rfl) ?_
    refine ew_get (M := mX9_apply) dX9_apply_108 fX9_86 (by repeat (first | with_reducible assumption | refine ex_eq ?_ | refine ex_ne ?_ (by omega) | exact ex_lt (by with_reducible assumption) | rw [List.length_set] | assumption)) (by rfl) ?_
    refine ew_aload_n (M := mX9_apply) dX9_apply_111 rfl (Or.inr (Or.inl ⟨_, rfl⟩)) ?_
    refine ew_get (M := mX9_apply) dX9_apply_112 fX9_55 (by repeat (first | with_reducible assumption | refine ex_eq ?_ | refine ex_ne ?_ (by omega) | exact ex_lt (by with_reducible assumption) | rw [List.length_set] | assumption)) (by rfl) ?_
    refine ew_callV (M := mX9_apply) dX9_apply_115 vX9_93 (by repeat (first | with_reducible assumption | refine ex_eq ?_ | refine ex_ne ?_ (by omega) | exact ex_lt (by with_reducible assumption) | rw [List.length_set] | assumption)) rfl (sp_become ⟨hp91, hp92, hp93⟩ hs6 (by omega)) rfl (Nat.le_of_ble_eq_true rfl) ⟨Nat.le_refl _, Nat.le_refl _⟩ rfl (fun H115 r115 q115 => ?_)
    obtain ⟨rfl, hc3, hp8⟩ := q115
    refine ew_iload_n (M := mX9_apply) dX9_apply_118 rfl ?_
    refine ew_iret (M := mX9_apply) dX9_apply_119 rfl (by first | rfl | decide) (Nat.le_refl _) (Nat.le_refl _) ?_
    exact ⟨rfl, (hc2.sub (by simp)).tr hc3 (by simp), ⟨cw2, hw2.ch hc3 (by simp) (by simp) (by simp)⟩, (pis.any (P := (_, _, _, _)) hs6).ch hc3 (by simp) (by simp) (by simp), hp8⟩
