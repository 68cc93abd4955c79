/-- c lo, c (lo + 1) .. together, n of them -/
def bs (c : Nat → Nat) (lo : Nat) : Nat → Nat
  | 0 => 0
  | n + 1 => bs c lo n + c (lo + n)
/-- v counts t times more -/
def ca (c : Nat → Nat) (v t : Nat) : Nat → Nat := fun u => if u = v then c u + t else c u
theorem bs_ca (c : Nat → Nat) (v t lo n : Nat) : bs (ca c v t) lo n = bs c lo n + (if lo ≤ v ∧ v < lo + n then t else 0) := by
  induction n with
  | zero => rw [if_neg (by omega)]; rfl
  | succ n ih =>
    show bs (ca c v t) lo n + ca c v t (lo + n) = bs c lo n + c (lo + n) + _
    rw [ih]
    unfold ca
    by_cases h : lo + n = v
    · rw [if_pos h, if_neg (by omega), if_pos (by omega)]; omega
    · rw [if_neg h]
      by_cases h2 : lo ≤ v ∧ v < lo + n
      · rw [if_pos h2, if_pos (by omega)]; omega
      · rw [if_neg h2, if_neg (by omega)]; omega
theorem bs_add (c : Nat → Nat) (lo a b : Nat) : bs c lo (a + b) = bs c lo a + bs c (lo + a) b := by
  induction b with
  | zero => rfl
  | succ b ih => show bs c lo (a + b) + c (lo + (a + b)) = bs c lo a + (bs c (lo + a) b + c (lo + a + b)); rw [ih, Nat.add_assoc, Nat.add_assoc lo a b]
theorem bs_mono (c : Nat → Nat) (lo : Nat) {a b : Nat} (h : a ≤ b) : bs c lo a ≤ bs c lo b := by
  obtain ⟨k, rfl⟩ := Nat.exists_eq_add_of_le h
  rw [bs_add]; omega
theorem bs_zero (lo n : Nat) : bs (fun _ => 0) lo n = 0 := by
  induction n with
  | zero => rfl
  | succ n ih => show bs _ lo n + 0 = 0; rw [ih]
theorem bs_congr {c c' : Nat → Nat} {lo n : Nat} (h : ∀ i, i < n → c (lo + i) = c' (lo + i)) : bs c lo n = bs c' lo n := by
  induction n with
  | zero => rfl
  | succ n ih => show bs c lo n + c (lo + n) = bs c' lo n + c' (lo + n); rw [ih (fun i hi => h i (by omega)), h n (by omega)]
/-- of all that is counted, rising, that with the number k -/
noncomputable def kv (c : Nat → Nat) (k : Nat) : Nat := Classical.epsilon (fun v => bs c 0 v ≤ k ∧ k < bs c 0 (v + 1))
theorem kv_eq {c : Nat → Nat} {k v : Nat} (h1 : bs c 0 v ≤ k) (h2 : k < bs c 0 (v + 1)) : kv c k = v := by
  have h := Classical.epsilon_spec (p := fun v => bs c 0 v ≤ k ∧ k < bs c 0 (v + 1)) ⟨v, h1, h2⟩
  have h3 : bs c 0 (kv c k) ≤ k ∧ k < bs c 0 (kv c k + 1) := h
  rcases Nat.lt_trichotomy (kv c k) v with e | e | e
  · have := bs_mono c 0 (show kv c k + 1 ≤ v by omega); omega
  · exact e
  · have := bs_mono c 0 (show v + 1 ≤ kv c k by omega); omega
/-- a window's cells -/
def wi_is (H : ex_H) (q : Nat) (c : Nat → Nat) : Prop := H[q]? = some (ob 8 [.int (nI (bs c 0 256)), .ref (q + 1), .ref (q + 2)]) ∧ ∃ co fi, H[q + 1]? = some (ar .int 16 co) ∧ H[q + 2]? = some (ar .int 256 fi) ∧ (∀ k, k < 16 → co k = nI (bs c (16 * k) 16)) ∧ ∀ k, k < 256 → fi k = nI (c k)
theorem wi_is.ch {H H' : ex_H} {L : List Nat} {q : Nat} {c : Nat → Nat} (hc : ex_ch H H' L) (h : wi_is H q c) (h0 : q ∉ L) (h1 : q + 1 ∉ L) (h2 : q + 2 ∉ L) : wi_is H' q c := by
  obtain ⟨a, co, fi, b, d, e⟩ := h
  exact ⟨hc.at a h0, co, fi, hc.at b h1, hc.at d h2, e⟩
theorem sp_count {d : Nat} {H : ex_H} {q v t : Nat} {c : Nat → Nat} (hq : wi_is H q c) (hv : v < 256) : ex_Met mX8_count (d + 1) 0 0 H [.ref q, .int (nI v), .int (nI t)] (fun H' r => r = none ∧ ex_ch H H' [q, q + 1, q + 2] ∧ wi_is H' q (ca c v t)) := by
  obtain ⟨hq1, co, fi, hq2, hq3, hco, hfi⟩ := id hq
  refine ex_meth [(0, .ref q), (1, .int (nI v)), (2, .int (nI t))] rfl rfl rfl (fun b => Nat.le_of_ble_eq_true rfl) ?_
  refine ew_iload_n (M := mX8_count) dX8_count_0 rfl ?_
  refine ew_iconst (M := mX8_count) dX8_count_1 (v := nI 0) (by decide) ?_
  refine ew_sipush (M := mX8_count) dX8_count_2 (v := nI 255) (by decide) ?_
  refine ew_callS (M := mX8_count) dX8_count_5 vX8_74 (sp_within_y (nI_le (Nat.zero_le v) (by omega)) (nI_le (b := 255) (by omega) (by decide))) rfl (Nat.le_of_ble_eq_true rfl) ⟨Nat.le_refl _, Nat.le_refl _⟩ rfl (fun H5 r5 q5 => ?_)
  obtain ⟨rfl, rfl⟩ := q5
  refine ew_if_eq (M := mX8_count) (tgt := 44) dX8_count_8 rfl (fun h => absurd h (by decide)) (fun _ => ?_)
  refine ew_aload_n (M := mX8_count) dX8_count_11 rfl (Or.inr (Or.inl ⟨_, rfl⟩)) ?_
  refine ew_dup (M := mX8_count) dX8_count_12 rfl ?_
  refine ew_get (M := mX8_count) dX8_count_13 fX8_9 (by repeat (first | with_reducible assumption | refine ex_eq ?_ | refine ex_ne ?_ (by omega) | exact ex_lt (by with_reducible assumption) | rw [List.length_set] | assumption)) (by rfl) ?_
  refine ew_iload_n (M := mX8_count) dX8_count_16 rfl ?_
  refine ew_iadd (M := mX8_count) dX8_count_17 ?_
  refine ew_put (M := mX8_count) dX8_count_18 fX8_9 (by repeat (first | with_reducible assumption | refine ex_eq ?_ | refine ex_ne ?_ (by omega) | exact ex_lt (by with_reducible assumption) | rw [List.length_set] | assumption)) (by exact Nat.le_of_ble_eq_true rfl) ⟨rfl, rfl, fun _ h => by cases h⟩ ?_
  refine ew_aload_n (M := mX8_count) dX8_count_21 rfl (Or.inr (Or.inl ⟨_, rfl⟩)) ?_
  refine ew_get (M := mX8_count) dX8_count_22 fX8_15 (by repeat (first | with_reducible assumption | refine ex_eq ?_ | refine ex_ne ?_ (by omega) | exact ex_lt (by with_reducible assumption) | rw [List.length_set] | assumption)) (by rfl) ?_
  refine ew_iload_n (M := mX8_count) dX8_count_25 rfl ?_
  refine ew_bipush (M := mX8_count) dX8_count_26 (v := nI 16) (by decide) ?_
  refine ew_idiv (M := mX8_count) dX8_count_28 (by decide) ?_
  refine ew_dup2 (M := mX8_count) dX8_count_29 rfl rfl ?_
  refine ew_iald (M := mX8_count) (v / 16) dX8_count_30 (by repeat (first | with_reducible assumption | refine ex_eq ?_ | refine ex_ne ?_ (by omega) | exact ex_lt (by with_reducible assumption) | rw [List.length_set] | assumption)) ⟨pk_div (by omega) (by decide) (by decide), by omega, by decide⟩ ?_
  refine ew_iload_n (M := mX8_count) dX8_count_31 rfl ?_
  refine ew_iadd (M := mX8_count) dX8_count_32 ?_
  refine ew_iast (M := mX8_count) (v / 16) dX8_count_33 (by repeat (first | with_reducible assumption | refine ex_eq ?_ | refine ex_ne ?_ (by omega) | exact ex_lt (by with_reducible assumption) | rw [List.length_set] | assumption)) ⟨pk_div (by omega) (by decide) (by decide), by omega, by decide⟩ ?_
  refine ew_aload_n (M := mX8_count) dX8_count_34 rfl (Or.inr (Or.inl ⟨_, rfl⟩)) ?_
  refine ew_get (M := mX8_count) dX8_count_35 fX8_19 (by repeat (first | with_reducible assumption | refine ex_eq ?_ | refine ex_ne ?_ (by omega) | exact ex_lt (by with_reducible assumption) | rw [List.length_set] | assumption)) (by rfl) ?_
  refine ew_iload_n (M := mX8_count) dX8_count_38 rfl ?_
  refine ew_dup2 (M := mX8_count) dX8_count_39 rfl rfl ?_
  refine ew_iald (M := mX8_count) v dX8_count_40 (by repeat (first | with_reducible assumption | refine ex_eq ?_ | refine ex_ne ?_ (by omega) | exact ex_lt (by with_reducible assumption) | rw [List.length_set] | assumption)) ⟨rfl, hv, by decide⟩ ?_
  refine ew_iload_n (M := mX8_count) dX8_count_41 rfl ?_
  refine ew_iadd (M := mX8_count) dX8_count_42 ?_
  refine ew_iast (M := mX8_count) v dX8_count_43 (by repeat (first | with_reducible assumption | refine ex_eq ?_ | refine ex_ne ?_ (by omega) | exact ex_lt (by with_reducible assumption) | rw [List.length_set] | assumption)) ⟨rfl, hv, by decide⟩ ?_
  refine ew_vret (M := mX8_count) dX8_count_44 rfl (Nat.le_refl _) (Nat.le_refl _) ?_
  have e1 : nI (bs c 0 256) + nI t = nI (bs (ca c v t) 0 256) := by rw [bs_ca, if_pos (by omega), nI_add]
  refine ⟨rfl, ((ex_ch.rf.set (by simp)).set (by simp)).set (by simp), ?_, _, _, (by repeat (first | with_reducible assumption | refine ex_eq ?_ | refine ex_ne ?_ (by omega) | exact ex_lt (by with_reducible assumption) | rw [List.length_set] | assumption)), (by repeat (first | with_reducible assumption | refine ex_eq ?_ | refine ex_ne ?_ (by omega) | exact ex_lt (by with_reducible assumption) | rw [List.length_set] | assumption)), fun k hk => ?_, fun k hk => ?_⟩
  · rw [← e1]
    exact ex_ne (ex_ne (ex_eq (ex_lt hq1)) (by omega)) (by omega)
  · by_cases e : k = v / 16
    · subst e
      simp only [upd, if_true]
      rw [hco _ hk, bs_ca, if_pos (by omega), nI_add]
    · simp only [upd, if_neg e]
      rw [hco _ hk, bs_ca, if_neg (by omega)]
      rfl
  · by_cases e : k = v
    · subst e
      simp only [upd, if_true]
      rw [hfi _ hk]
      simp only [ca, if_true, nI_add]
    · simp only [upd, if_neg e]
      rw [hfi _ hk]
      simp only [ca, if_neg e]
/-- the dot's x or y that stands for the place a less c, by the border; none -/
def sf (bo n a c : Nat) : Option Nat := if c ≤ a ∧ a < n + c then some (a - c) else if bo = 1 then some (if a < c then 0 else n - 1) else if bo = 2 then some (min (fm a c (2 * n)) (2 * n - 1 - fm a c (2 * n))) else if bo = 3 then some (fm a c n) else none
def oI : Option Nat → Int32
  | some k => nI k
  | none => -1
theorem nI_m1 {a : Nat} (h : a < 2 ^ 31) : ¬ nI a = -1 := fun e => by
  have h1 : (nI a).toInt = (-1 : Int32).toInt := by rw [e]
  rw [nI_toInt h] at h1
  have h2 : (-1 : Int32).toInt = -1 := by decide
  omega
theorem sf_lt {bo n a c k : Nat} (hn : 1 ≤ n) (h : sf bo n a c = some k) : k < n := by
  unfold sf at h
  have h2 : fm a c (2 * n) < 2 * n := Nat.mod_lt _ (by omega)
  have h3 : fm a c n < n := Nat.mod_lt _ (by omega)
  split at h
  · cases h; omega
  · split at h
    · cases h; split <;> omega
    · split at h
      · cases h; omega
      · split at h
        · cases h; exact h3
        · cases h
theorem sp_standingFor {d : Nat} {H : ex_H} {bo n a c : Nat} (ha : a < 18) (hc : c < 5) (hn : 1 ≤ n) (hn2 : n ≤ 10) (hbo : bo ≤ 4) : ex_Met mX8_standingFor (d + 1) 0 0 H [.int (nI a - nI c), .int (nI n), .int (nI bo)] (ex_r H (.int (oI (sf bo n a c)))) := by
  have e2 : nI n - nI 1 = nI (n - 1) := pk_sub hn
  refine ex_meth [(0, .int (nI a - nI c)), (1, .int (nI n)), (2, .int (nI bo))] rfl rfl rfl (fun b => Nat.le_of_ble_eq_true rfl) ?_
  by_cases hin : c ≤ a ∧ a < n + c
  · have e1 : nI a - nI c = nI (a - c) := pk_sub hin.1
    have e3 : sf bo n a c = some (a - c) := if_pos hin
    rw [e3, e1]
    refine ew_iload_n (M := mX8_standingFor) dX8_standingFor_0 rfl ?_
    refine ew_iconst (M := mX8_standingFor) dX8_standingFor_1 (v := nI 1) (by decide) ?_
    refine ew_icmp_ge (M := mX8_standingFor) (tgt := 7) dX8_standingFor_2 rfl (fun _ => ?_) (fun h => absurd (nI_le hn (by omega)) h)
    refine ew_iload_n (M := mX8_standingFor) dX8_standingFor_7 rfl ?_
    refine ew_iconst (M := mX8_standingFor) dX8_standingFor_8 (v := nI 0) (by decide) ?_
    refine ew_iload_n (M := mX8_standingFor) dX8_standingFor_9 rfl ?_
    refine ew_iconst (M := mX8_standingFor) dX8_standingFor_10 (v := nI 1) (by decide) ?_
    refine ew_isub (M := mX8_standingFor) dX8_standingFor_11 ?_
    rw [e2]
    refine ew_callS (M := mX8_standingFor) dX8_standingFor_12 vX8_74 (sp_within_y (nI_le (Nat.zero_le _) (by omega)) (nI_le (by omega) (by omega))) rfl (Nat.le_of_ble_eq_true rfl) ⟨Nat.le_refl _, Nat.le_refl _⟩ rfl (fun H12 r12 q12 => ?_)
    obtain ⟨rfl, rfl⟩ := q12
    refine ew_if_eq (M := mX8_standingFor) (tgt := 20) dX8_standingFor_15 rfl (fun h => absurd h (by decide)) (fun _ => ?_)
    refine ew_iload_n (M := mX8_standingFor) dX8_standingFor_18 rfl ?_
    refine ew_iret (M := mX8_standingFor) dX8_standingFor_19 rfl (by first | rfl | decide) (Nat.le_refl _) (Nat.le_refl _) ?_
    exact ⟨rfl, rfl⟩
  · have hw : ¬ (nI 0 ≤ nI a - nI c ∧ nI a - nI c ≤ nI (n - 1)) := by
      rintro ⟨g1, g2⟩
      rcases Nat.lt_or_ge a c with hac | hac
      · exact absurd (pk_sneg (by omega) hac) (Int32.not_lt.mpr (by rw [← nI_0]; exact g1))
      · rw [pk_sub hac, nI_leI (by omega) (by omega)] at g2
        omega
    rcases (show bo = 0 ∨ bo = 1 ∨ bo = 2 ∨ bo = 3 ∨ bo = 4 by omega) with rfl | rfl | rfl | rfl | rfl
    · have e3 : sf 0 n a c = none := by unfold sf; rw [if_neg hin]; rfl
      rw [e3]
      refine ew_iload_n (M := mX8_standingFor) dX8_standingFor_0 rfl ?_
      refine ew_iconst (M := mX8_standingFor) dX8_standingFor_1 (v := nI 1) (by decide) ?_
      refine ew_icmp_ge (M := mX8_standingFor) (tgt := 7) dX8_standingFor_2 rfl (fun _ => ?_) (fun h => absurd (nI_le hn (by omega)) h)
      refine ew_iload_n (M := mX8_standingFor) dX8_standingFor_7 rfl ?_
      refine ew_iconst (M := mX8_standingFor) dX8_standingFor_8 (v := nI 0) (by decide) ?_
      refine ew_iload_n (M := mX8_standingFor) dX8_standingFor_9 rfl ?_
      refine ew_iconst (M := mX8_standingFor) dX8_standingFor_10 (v := nI 1) (by decide) ?_
      refine ew_isub (M := mX8_standingFor) dX8_standingFor_11 ?_
      rw [e2]
      refine ew_callS (M := mX8_standingFor) dX8_standingFor_12 vX8_74 (sp_within_n hw) rfl (Nat.le_of_ble_eq_true rfl) ⟨Nat.le_refl _, Nat.le_refl _⟩ rfl (fun H12 r12 q12 => ?_)
      obtain ⟨rfl, rfl⟩ := q12
      refine ew_if_eq (M := mX8_standingFor) (tgt := 20) dX8_standingFor_15 rfl (fun _ => ?_) (fun h => absurd (by decide) h)
      refine ew_iload_n (M := mX8_standingFor) dX8_standingFor_20 rfl ?_
      refine ew_iconst (M := mX8_standingFor) dX8_standingFor_21 (v := nI 2) (by decide) ?_
      refine ew_iload_n (M := mX8_standingFor) dX8_standingFor_22 rfl ?_
      refine ew_imul (M := mX8_standingFor) dX8_standingFor_23 ?_
      rw [pk_mul]
      refine ew_callS (M := mX8_standingFor) dX8_standingFor_24 vX8_78 (sp_floorMod ha hc (by omega) (by omega)) rfl (Nat.le_of_ble_eq_true rfl) ⟨Nat.le_refl _, Nat.le_refl _⟩ rfl (fun H24 r24 q24 => ?_)
      obtain ⟨rfl, rfl⟩ := q24
      refine ew_istore_n (M := mX8_standingFor) dX8_standingFor_27 (by decide) rfl ?_
      refine ew_iload_n (M := mX8_standingFor) dX8_standingFor_28 rfl ?_
      refine ew_tableOut (M := mX8_standingFor) (tgt := 86) dX8_standingFor_29 (by decide) rfl ?_
      refine ew_iconst (M := mX8_standingFor) dX8_standingFor_86 (v := (-1)) (by decide) ?_
      refine ew_iret (M := mX8_standingFor) dX8_standingFor_87 rfl (by first | rfl | decide) (Nat.le_refl _) (Nat.le_refl _) ?_
      exact ⟨rfl, rfl⟩
    · have e3 : sf 1 n a c = some (if a < c then 0 else n - 1) := by unfold sf; rw [if_neg hin]; rfl
      rw [e3]
      refine ew_iload_n (M := mX8_standingFor) dX8_standingFor_0 rfl ?_
      refine ew_iconst (M := mX8_standingFor) dX8_standingFor_1 (v := nI 1) (by decide) ?_
      refine ew_icmp_ge (M := mX8_standingFor) (tgt := 7) dX8_standingFor_2 rfl (fun _ => ?_) (fun h => absurd (nI_le hn (by omega)) h)
      refine ew_iload_n (M := mX8_standingFor) dX8_standingFor_7 rfl ?_
      refine ew_iconst (M := mX8_standingFor) dX8_standingFor_8 (v := nI 0) (by decide) ?_
      refine ew_iload_n (M := mX8_standingFor) dX8_standingFor_9 rfl ?_
      refine ew_iconst (M := mX8_standingFor) dX8_standingFor_10 (v := nI 1) (by decide) ?_
      refine ew_isub (M := mX8_standingFor) dX8_standingFor_11 ?_
      rw [e2]
      refine ew_callS (M := mX8_standingFor) dX8_standingFor_12 vX8_74 (sp_within_n hw) rfl (Nat.le_of_ble_eq_true rfl) ⟨Nat.le_refl _, Nat.le_refl _⟩ rfl (fun H12 r12 q12 => ?_)
      obtain ⟨rfl, rfl⟩ := q12
      refine ew_if_eq (M := mX8_standingFor) (tgt := 20) dX8_standingFor_15 rfl (fun _ => ?_) (fun h => absurd (by decide) h)
      refine ew_iload_n (M := mX8_standingFor) dX8_standingFor_20 rfl ?_
      refine ew_iconst (M := mX8_standingFor) dX8_standingFor_21 (v := nI 2) (by decide) ?_
      refine ew_iload_n (M := mX8_standingFor) dX8_standingFor_22 rfl ?_
      refine ew_imul (M := mX8_standingFor) dX8_standingFor_23 ?_
      rw [pk_mul]
      refine ew_callS (M := mX8_standingFor) dX8_standingFor_24 vX8_78 (sp_floorMod ha hc (by omega) (by omega)) rfl (Nat.le_of_ble_eq_true rfl) ⟨Nat.le_refl _, Nat.le_refl _⟩ rfl (fun H24 r24 q24 => ?_)
      obtain ⟨rfl, rfl⟩ := q24
      refine ew_istore_n (M := mX8_standingFor) dX8_standingFor_27 (by decide) rfl ?_
      refine ew_iload_n (M := mX8_standingFor) dX8_standingFor_28 rfl ?_
      refine ew_tableIn (M := mX8_standingFor) (tgt := 56) (off := 27) dX8_standingFor_29 (by decide) (by decide) (by decide) rfl ?_
      refine ew_iload_n (M := mX8_standingFor) dX8_standingFor_56 rfl ?_
      refine ew_if_ge (M := mX8_standingFor) (tgt := 64) dX8_standingFor_57 rfl (fun c57 => ?_) (fun c57 => ?_)
      · rw [if_neg (fun hac => absurd (pk_sneg (by omega) hac) (Int32.not_lt.mpr c57))]
        refine ew_iload_n (M := mX8_standingFor) dX8_standingFor_64 rfl ?_
        refine ew_iconst (M := mX8_standingFor) dX8_standingFor_65 (v := nI 1) (by decide) ?_
        refine ew_isub (M := mX8_standingFor) dX8_standingFor_66 ?_
        rw [e2]
        refine ew_iret (M := mX8_standingFor) dX8_standingFor_67 rfl (by first | rfl | decide) (Nat.le_refl _) (Nat.le_refl _) ?_
        exact ⟨rfl, rfl⟩
      · rw [if_pos (Nat.not_le.mp (fun hac => c57 (by rw [pk_sub hac]; exact nI_pos' (by omega))))]
        refine ew_iconst (M := mX8_standingFor) dX8_standingFor_60 (v := nI 0) (by decide) ?_
        refine ew_goto (M := mX8_standingFor) (tgt := 67) dX8_standingFor_61 rfl ?_
        refine ew_iret (M := mX8_standingFor) dX8_standingFor_67 rfl (by first | rfl | decide) (Nat.le_refl _) (Nat.le_refl _) ?_
        exact ⟨rfl, rfl⟩
    · have e3 : sf 2 n a c = some (min (fm a c (2 * n)) (2 * n - 1 - fm a c (2 * n))) := by unfold sf; rw [if_neg hin]; rfl
      rw [e3]
      refine ew_iload_n (M := mX8_standingFor) dX8_standingFor_0 rfl ?_
      refine ew_iconst (M := mX8_standingFor) dX8_standingFor_1 (v := nI 1) (by decide) ?_
      refine ew_icmp_ge (M := mX8_standingFor) (tgt := 7) dX8_standingFor_2 rfl (fun _ => ?_) (fun h => absurd (nI_le hn (by omega)) h)
      refine ew_iload_n (M := mX8_standingFor) dX8_standingFor_7 rfl ?_
      refine ew_iconst (M := mX8_standingFor) dX8_standingFor_8 (v := nI 0) (by decide) ?_
      refine ew_iload_n (M := mX8_standingFor) dX8_standingFor_9 rfl ?_
      refine ew_iconst (M := mX8_standingFor) dX8_standingFor_10 (v := nI 1) (by decide) ?_
      refine ew_isub (M := mX8_standingFor) dX8_standingFor_11 ?_
      rw [e2]
      refine ew_callS (M := mX8_standingFor) dX8_standingFor_12 vX8_74 (sp_within_n hw) rfl (Nat.le_of_ble_eq_true rfl) ⟨Nat.le_refl _, Nat.le_refl _⟩ rfl (fun H12 r12 q12 => ?_)
      obtain ⟨rfl, rfl⟩ := q12
      refine ew_if_eq (M := mX8_standingFor) (tgt := 20) dX8_standingFor_15 rfl (fun _ => ?_) (fun h => absurd (by decide) h)
      refine ew_iload_n (M := mX8_standingFor) dX8_standingFor_20 rfl ?_
      refine ew_iconst (M := mX8_standingFor) dX8_standingFor_21 (v := nI 2) (by decide) ?_
      refine ew_iload_n (M := mX8_standingFor) dX8_standingFor_22 rfl ?_
      refine ew_imul (M := mX8_standingFor) dX8_standingFor_23 ?_
      rw [pk_mul]
      refine ew_callS (M := mX8_standingFor) dX8_standingFor_24 vX8_78 (sp_floorMod ha hc (by omega) (by omega)) rfl (Nat.le_of_ble_eq_true rfl) ⟨Nat.le_refl _, Nat.le_refl _⟩ rfl (fun H24 r24 q24 => ?_)
      obtain ⟨rfl, rfl⟩ := q24
      refine ew_istore_n (M := mX8_standingFor) dX8_standingFor_27 (by decide) rfl ?_
      refine ew_iload_n (M := mX8_standingFor) dX8_standingFor_28 rfl ?_
      refine ew_tableIn (M := mX8_standingFor) (tgt := 68) (off := 39) dX8_standingFor_29 (by decide) (by decide) (by decide) rfl ?_
      refine ew_iload_n (M := mX8_standingFor) dX8_standingFor_68 rfl ?_
      refine ew_iconst (M := mX8_standingFor) dX8_standingFor_69 (v := nI 2) (by decide) ?_
      refine ew_iload_n (M := mX8_standingFor) dX8_standingFor_70 rfl ?_
      refine ew_imul (M := mX8_standingFor) dX8_standingFor_71 ?_
      refine ew_iconst (M := mX8_standingFor) dX8_standingFor_72 (v := nI 1) (by decide) ?_
      refine ew_isub (M := mX8_standingFor) dX8_standingFor_73 ?_
      refine ew_iload_n (M := mX8_standingFor) dX8_standingFor_74 rfl ?_
      refine ew_isub (M := mX8_standingFor) dX8_standingFor_75 ?_
      rw [pk_mul, pk_sub (show 1 ≤ 2 * n by omega), pk_sub (show fm a c (2 * n) ≤ 2 * n - 1 by have : fm a c (2 * n) < 2 * n := Nat.mod_lt _ (by omega); omega)]
      refine ew_callS (M := mX8_standingFor) dX8_standingFor_76 vX8_83 (sp_min (by have : fm a c (2 * n) < 2 * n := Nat.mod_lt _ (by omega); omega) (by omega)) rfl (Nat.le_of_ble_eq_true rfl) ⟨Nat.le_refl _, Nat.le_refl _⟩ rfl (fun H76 r76 q76 => ?_)
      obtain ⟨rfl, rfl⟩ := q76
      refine ew_iret (M := mX8_standingFor) dX8_standingFor_79 rfl (by first | rfl | decide) (Nat.le_refl _) (Nat.le_refl _) ?_
      exact ⟨rfl, rfl⟩
    · have e3 : sf 3 n a c = some (fm a c n) := by unfold sf; rw [if_neg hin]; rfl
      rw [e3]
      refine ew_iload_n (M := mX8_standingFor) dX8_standingFor_0 rfl ?_
      refine ew_iconst (M := mX8_standingFor) dX8_standingFor_1 (v := nI 1) (by decide) ?_
      refine ew_icmp_ge (M := mX8_standingFor) (tgt := 7) dX8_standingFor_2 rfl (fun _ => ?_) (fun h => absurd (nI_le hn (by omega)) h)
      refine ew_iload_n (M := mX8_standingFor) dX8_standingFor_7 rfl ?_
      refine ew_iconst (M := mX8_standingFor) dX8_standingFor_8 (v := nI 0) (by decide) ?_
      refine ew_iload_n (M := mX8_standingFor) dX8_standingFor_9 rfl ?_
      refine ew_iconst (M := mX8_standingFor) dX8_standingFor_10 (v := nI 1) (by decide) ?_
      refine ew_isub (M := mX8_standingFor) dX8_standingFor_11 ?_
      rw [e2]
      refine ew_callS (M := mX8_standingFor) dX8_standingFor_12 vX8_74 (sp_within_n hw) rfl (Nat.le_of_ble_eq_true rfl) ⟨Nat.le_refl _, Nat.le_refl _⟩ rfl (fun H12 r12 q12 => ?_)
      obtain ⟨rfl, rfl⟩ := q12
      refine ew_if_eq (M := mX8_standingFor) (tgt := 20) dX8_standingFor_15 rfl (fun _ => ?_) (fun h => absurd (by decide) h)
      refine ew_iload_n (M := mX8_standingFor) dX8_standingFor_20 rfl ?_
      refine ew_iconst (M := mX8_standingFor) dX8_standingFor_21 (v := nI 2) (by decide) ?_
      refine ew_iload_n (M := mX8_standingFor) dX8_standingFor_22 rfl ?_
      refine ew_imul (M := mX8_standingFor) dX8_standingFor_23 ?_
      rw [pk_mul]
      refine ew_callS (M := mX8_standingFor) dX8_standingFor_24 vX8_78 (sp_floorMod ha hc (by omega) (by omega)) rfl (Nat.le_of_ble_eq_true rfl) ⟨Nat.le_refl _, Nat.le_refl _⟩ rfl (fun H24 r24 q24 => ?_)
      obtain ⟨rfl, rfl⟩ := q24
      refine ew_istore_n (M := mX8_standingFor) dX8_standingFor_27 (by decide) rfl ?_
      refine ew_iload_n (M := mX8_standingFor) dX8_standingFor_28 rfl ?_
      refine ew_tableIn (M := mX8_standingFor) (tgt := 80) (off := 51) dX8_standingFor_29 (by decide) (by decide) (by decide) rfl ?_
      refine ew_iload_n (M := mX8_standingFor) dX8_standingFor_80 rfl ?_
      refine ew_iload_n (M := mX8_standingFor) dX8_standingFor_81 rfl ?_
      refine ew_callS (M := mX8_standingFor) dX8_standingFor_82 vX8_78 (sp_floorMod ha hc (by omega) (by omega)) rfl (Nat.le_of_ble_eq_true rfl) ⟨Nat.le_refl _, Nat.le_refl _⟩ rfl (fun H82 r82 q82 => ?_)
      obtain ⟨rfl, rfl⟩ := q82
      refine ew_iret (M := mX8_standingFor) dX8_standingFor_85 rfl (by first | rfl | decide) (Nat.le_refl _) (Nat.le_refl _) ?_
      exact ⟨rfl, rfl⟩
    · have e3 : sf 4 n a c = none := by unfold sf; rw [if_neg hin]; rfl
      rw [e3]
      refine ew_iload_n (M := mX8_standingFor) dX8_standingFor_0 rfl ?_
      refine ew_iconst (M := mX8_standingFor) dX8_standingFor_1 (v := nI 1) (by decide) ?_
      refine ew_icmp_ge (M := mX8_standingFor) (tgt := 7) dX8_standingFor_2 rfl (fun _ => ?_) (fun h => absurd (nI_le hn (by omega)) h)
      refine ew_iload_n (M := mX8_standingFor) dX8_standingFor_7 rfl ?_
      refine ew_iconst (M := mX8_standingFor) dX8_standingFor_8 (v := nI 0) (by decide) ?_
      refine ew_iload_n (M := mX8_standingFor) dX8_standingFor_9 rfl ?_
      refine ew_iconst (M := mX8_standingFor) dX8_standingFor_10 (v := nI 1) (by decide) ?_
      refine ew_isub (M := mX8_standingFor) dX8_standingFor_11 ?_
      rw [e2]
      refine ew_callS (M := mX8_standingFor) dX8_standingFor_12 vX8_74 (sp_within_n hw) rfl (Nat.le_of_ble_eq_true rfl) ⟨Nat.le_refl _, Nat.le_refl _⟩ rfl (fun H12 r12 q12 => ?_)
      obtain ⟨rfl, rfl⟩ := q12
      refine ew_if_eq (M := mX8_standingFor) (tgt := 20) dX8_standingFor_15 rfl (fun _ => ?_) (fun h => absurd (by decide) h)
      refine ew_iload_n (M := mX8_standingFor) dX8_standingFor_20 rfl ?_
      refine ew_iconst (M := mX8_standingFor) dX8_standingFor_21 (v := nI 2) (by decide) ?_
      refine ew_iload_n (M := mX8_standingFor) dX8_standingFor_22 rfl ?_
      refine ew_imul (M := mX8_standingFor) dX8_standingFor_23 ?_
      rw [pk_mul]
      refine ew_callS (M := mX8_standingFor) dX8_standingFor_24 vX8_78 (sp_floorMod ha hc (by omega) (by omega)) rfl (Nat.le_of_ble_eq_true rfl) ⟨Nat.le_refl _, Nat.le_refl _⟩ rfl (fun H24 r24 q24 => ?_)
      obtain ⟨rfl, rfl⟩ := q24
      refine ew_istore_n (M := mX8_standingFor) dX8_standingFor_27 (by decide) rfl ?_
      refine ew_iload_n (M := mX8_standingFor) dX8_standingFor_28 rfl ?_
      refine ew_tableOut (M := mX8_standingFor) (tgt := 86) dX8_standingFor_29 (by decide) rfl ?_
      refine ew_iconst (M := mX8_standingFor) dX8_standingFor_86 (v := (-1)) (by decide) ?_
      refine ew_iret (M := mX8_standingFor) dX8_standingFor_87 rfl (by first | rfl | decide) (Nat.le_refl _) (Nat.le_refl _) ?_
      exact ⟨rfl, rfl⟩
