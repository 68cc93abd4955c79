/-- the first n of C are what is counted, rising -/
def srt (C : Nat → Int32) (n : Nat) (c : Nat → Nat) : Prop := bs c 0 256 = n ∧ ∀ k, k < n → C k = nI (kv c k)
theorem mo_mn {H H' : ex_H} {S : SS} {R : Int32 × Int32 × Int32 × Int32} {mn mn' : Int32} {C N C' : Nat → Int32} (hS : mo_at H S R mn C N) (hc : ex_ch H H' [86, 96]) (h86 : H'[86]? = some (mob (nI S.2.2.2.2.2.1.1) (nI (S.2.2.2.1 0 + 2 * S.2.2.2.1 1)) (nI S.2.2.1.2.2.2) (nI S.1.1) S.2.1 (nI S.2.2.1.2.2.1) (nI S.2.2.2.2.2.2.1) R.1 R.2.1 R.2.2.1 R.2.2.2 mn')) (h96 : H'[96]? = some (ar .int 96 C')) : mo_at H' S R mn' C' N := by
  obtain ⟨a1, ⟨hfi, hsd, hkp⟩, ⟨W, a2, hw0, ⟨hcn, hwh⟩, hwi⟩, ⟨T, a3, htn, htx⟩, ⟨F, a4, hfl⟩, ⟨IF, IL, IS, a5, a6, a7, him⟩, ⟨BX, BY, BG, a8, a9, a10, hbn, hbk⟩, a11, a12⟩ := id hS
  exact ⟨h86, ⟨hfi, hsd, hkp⟩, ⟨W, hc.at a2 (by simp), hw0, ⟨hcn, hwh⟩, hwi⟩, ⟨T, hc.at a3 (by simp), htn, htx⟩, ⟨F, hc.at a4 (by simp), hfl⟩, ⟨IF, IL, IS, hc.at a5 (by simp), hc.at a6 (by simp), hc.at a7 (by simp), him⟩, ⟨BX, BY, BG, hc.at a8 (by simp), hc.at a9 (by simp), hc.at a10 (by simp), hbn, hbk⟩, h96, hc.at a12 (by simp)⟩
/-- an entry put in: those from p on one further -/
def isW (C : Nat → Int32) (n t : Nat) : Nat → Int32 := fun q => if n - t < q ∧ q ≤ n then C (q - 1) else C q
theorem isW_0 (C : Nat → Int32) (n : Nat) : isW C n 0 = C := by
  funext q
  exact if_neg (by omega)
theorem isW_s (C : Nat → Int32) {n t : Nat} (ht : t < n) : upd (isW C n t) (n - t) (isW C n t (n - t - 1)) = isW C n (t + 1) := by
  funext q
  simp only [upd, isW]
  by_cases e : q = n - t
  · subst e
    rw [if_pos rfl, if_neg (by omega), if_pos (by omega)]
  · rw [if_neg e]
    by_cases h : n - t < q ∧ q ≤ n
    · rw [if_pos h, if_pos (by omega)]
    · rw [if_neg h, if_neg (by omega)]
theorem kv_lo {c : Nat → Nat} {n k v : Nat} (hc : bs c 0 256 = n) (hk : k < n) (h : k < bs c 0 (v + 1)) : kv c k ≤ v := by
  obtain ⟨s1, s2, s3⟩ := kv_spec (c := c) (k := k) (by omega)
  rcases Nat.lt_or_ge v (kv c k) with e | e
  · have := bs_mono c 0 (show v + 1 ≤ kv c k by omega); omega
  · exact e
theorem kv_hi {c : Nat → Nat} {n k v : Nat} (hc : bs c 0 256 = n) (hk : k < n) (h : bs c 0 (v + 1) ≤ k) : v < kv c k := by
  obtain ⟨s1, s2, s3⟩ := kv_spec (c := c) (k := k) (by omega)
  rcases Nat.lt_or_ge v (kv c k) with e | e
  · exact e
  · have := bs_mono c 0 (show kv c k + 1 ≤ v + 1 by omega); omega
theorem srt_ins {C : Nat → Int32} {n v : Nat} {c : Nat → Nat} (hs : srt C n c) (hv : v < 256) : bs c 0 (v + 1) ≤ n ∧ srt (upd (isW C n (n - bs c 0 (v + 1))) (bs c 0 (v + 1)) (nI v)) (n + 1) (ca c v 1) := by
  obtain ⟨h1, h2⟩ := hs
  have hp : bs c 0 (v + 1) ≤ n := by rw [← h1]; exact bs_mono c 0 (by omega)
  have hb : ∀ u, bs (ca c v 1) 0 u = bs c 0 u + (if v < u then 1 else 0) := fun u => by
    rw [bs_ca]
    congr 1
    by_cases e : v < u
    · rw [if_pos (by omega), if_pos e]
    · rw [if_neg (by omega), if_neg e]
  refine ⟨hp, ?_, fun k hk => ?_⟩
  · rw [hb, if_pos hv, h1]
  generalize hpe : bs c 0 (v + 1) = p at hp
  simp only [upd, isW]
  rcases Nat.lt_trichotomy k p with e | e | e
  · rw [if_neg (by omega), if_neg (by omega), h2 k (by omega)]
    congr 1
    obtain ⟨s1, s2, s3⟩ := kv_spec (c := c) (k := k) (by omega)
    have hl := kv_lo (v := v) h1 (show k < n by omega) (by omega)
    refine (kv_eq ?_ ?_).symm
    · rw [hb, if_neg (by omega)]; omega
    · rw [hb]; omega
  · subst e
    rw [if_pos rfl]
    congr 1
    refine (kv_eq ?_ ?_).symm
    · rw [hb, if_neg (by omega)]
      have := bs_mono c 0 (show v ≤ v + 1 by omega)
      omega
    · rw [hb, if_pos (by omega)]
      omega
  · rw [if_neg (by omega), if_pos (by omega), h2 (k - 1) (by omega)]
    congr 1
    obtain ⟨s1, s2, s3⟩ := kv_spec (c := c) (k := k - 1) (by omega)
    have hl := kv_hi (v := v) h1 (show k - 1 < n by omega) (by omega)
    refine (kv_eq ?_ ?_).symm
    · rw [hb, if_pos (by omega)]; omega
    · rw [hb, if_pos (by omega)]; omega
theorem ms_count {d : Nat} {H : ex_H} {S : SS} {R : Int32 × Int32 × Int32 × Int32} {C N : Nat → Int32} {n : Nat} {c : Nat → Nat} (hS : mo_at H S R (nI n) C N) (hs : srt C n c) {v : Nat} (hv : v < 256) (hn : n < 96) : ex_Met mX10_count d 0 0 H [.ref 86, .int (nI v)] (fun H' r => r = none ∧ ex_ch H H' [86, 96] ∧ ∃ C', mo_at H' S R (nI (n + 1)) C' N ∧ srt C' (n + 1) (ca c v 1)) := by
  obtain ⟨a1, ⟨hfi, hsd, hkp⟩, ⟨W, a2, hw0, ⟨hcn, hwh⟩, hwi⟩, ⟨T, a3, htn, htx⟩, ⟨F, a4, hfl⟩, ⟨IF, IL, IS, a5, a6, a7, him⟩, ⟨BX, BY, BG, a8, a9, a10, hbn, hbk⟩, a11, a12⟩ := id hS
  obtain ⟨hp, hins⟩ := srt_ins hs hv
  obtain ⟨hs1, hs2⟩ := id hs
  generalize hpe : bs c 0 (v + 1) = p at hp hins
  have hgt : ∀ k, p ≤ k → k < n → nI v < C k := fun k h1 h2 => by
    rw [hs2 k h2]
    have := (kv_spec (c := c) (k := k) (by omega)).1
    exact nI_lt (kv_hi hs1 h2 (by omega)) (by omega)
  have hle : 0 < p → C (p - 1) ≤ nI v := fun h => by
    rw [hs2 (p - 1) (by omega)]
    exact nI_le (kv_lo hs1 (by omega) (by omega)) (by omega)
  refine ex_meth [(0, .ref 86), (1, .int (nI v))] rfl rfl rfl (fun b => Nat.le_of_ble_eq_true rfl) ?_
  refine ew_aload_n (M := mX10_count) dX10_count_0 rfl (Or.inr (Or.inl ⟨_, rfl⟩)) ?_
  refine ew_get (M := mX10_count) dX10_count_1 fX10_121 (by repeat (first | with_reducible assumption | refine ex_eq ?_ | refine ex_ne ?_ (by omega) | exact ex_lt (by with_reducible assumption) | rw [List.length_set] | assumption)) (by rfl) ?_
  refine ew_istore_n (M := mX10_count) dX10_count_4 (by decide) rfl ?_
  refine ew_ls [(0, .ref 86), (1, .int (nI v)), (2, .int (nI (n - 0)))] ⟨rfl, rfl, rfl, trivial⟩ ?_
  refine nat_down (P := fun t => ∀ H2 : ex_H, ex_ch H H2 [96] → H2[96]? = some (ar .int 96 (isW C n t)) → ex_W mX10_count d 0 0 _ H2 5 [(0, .ref 86), (1, .int (nI v)), (2, .int (nI (n - t)))] [] 0 0) (n - p) (fun t ht k => ?_) ?_ H ex_ch.rf (by rw [isW_0]; exact a11)
  · intro H2 hc2 b11
    have b1 := hc2.at a1 (by simp)
    have e1 : isW C n t (n - t - 1) = C (n - t - 1) := if_neg (by omega)
    refine ew_iload_n (M := mX10_count) dX10_count_5 rfl ?_
    refine ew_if_le (M := mX10_count) (tgt := 41) dX10_count_6 rfl (fun h => absurd h (nI_nle (by omega) (by omega))) (fun _ => ?_)
    refine ew_aload_n (M := mX10_count) dX10_count_9 rfl (Or.inr (Or.inl ⟨_, rfl⟩)) ?_
    refine ew_get (M := mX10_count) dX10_count_10 fX10_41 (by repeat (first | with_reducible assumption | refine ex_eq ?_ | refine ex_ne ?_ (by omega) | exact ex_lt (by with_reducible assumption) | rw [List.length_set] | assumption)) (by rfl) ?_
    refine ew_iload_n (M := mX10_count) dX10_count_13 rfl ?_
    refine ew_iconst (M := mX10_count) dX10_count_14 (v := nI 1) (by decide) ?_
    refine ew_isub (M := mX10_count) dX10_count_15 ?_
    rw [nI_s1 (by omega)]
    refine ew_iald (M := mX10_count) (n - t - 1) dX10_count_16 (by repeat (first | with_reducible assumption | refine ex_eq ?_ | refine ex_ne ?_ (by omega) | exact ex_lt (by with_reducible assumption) | rw [List.length_set] | assumption)) ⟨rfl, by omega, by decide⟩ ?_
    refine ew_iload_n (M := mX10_count) dX10_count_17 rfl ?_
    refine ew_icmp_le (M := mX10_count) (tgt := 41) dX10_count_18 rfl (fun h => absurd h (Int32.not_le.mpr (by rw [e1]; exact hgt _ (by omega) (by omega)))) (fun _ => ?_)
    refine ew_aload_n (M := mX10_count) dX10_count_21 rfl (Or.inr (Or.inl ⟨_, rfl⟩)) ?_
    refine ew_get (M := mX10_count) dX10_count_22 fX10_41 (by repeat (first | with_reducible assumption | refine ex_eq ?_ | refine ex_ne ?_ (by omega) | exact ex_lt (by with_reducible assumption) | rw [List.length_set] | assumption)) (by rfl) ?_
    refine ew_iload_n (M := mX10_count) dX10_count_25 rfl ?_
    refine ew_aload_n (M := mX10_count) dX10_count_26 rfl (Or.inr (Or.inl ⟨_, rfl⟩)) ?_
    refine ew_get (M := mX10_count) dX10_count_27 fX10_41 (by repeat (first | with_reducible assumption | refine ex_eq ?_ | refine ex_ne ?_ (by omega) | exact ex_lt (by with_reducible assumption) | rw [List.length_set] | assumption)) (by rfl) ?_
    refine ew_iload_n (M := mX10_count) dX10_count_30 rfl ?_
    refine ew_iconst (M := mX10_count) dX10_count_31 (v := nI 1) (by decide) ?_
    refine ew_isub (M := mX10_count) dX10_count_32 ?_
    rw [nI_s1 (by omega)]
    refine ew_iald (M := mX10_count) (n - t - 1) dX10_count_33 (by repeat (first | with_reducible assumption | refine ex_eq ?_ | refine ex_ne ?_ (by omega) | exact ex_lt (by with_reducible assumption) | rw [List.length_set] | assumption)) ⟨rfl, by omega, by decide⟩ ?_
    refine ew_iast (M := mX10_count) (n - t) dX10_count_34 (by repeat (first | with_reducible assumption | refine ex_eq ?_ | refine ex_ne ?_ (by omega) | exact ex_lt (by with_reducible assumption) | rw [List.length_set] | assumption)) ⟨rfl, by omega, by decide⟩ ?_
    refine ew_iinc (M := mX10_count) dX10_count_35 rfl (show nI (n - t) + Int32.ofInt (-1) = nI (n - (t + 1)) from by rw [show n - t = n - (t + 1) + 1 by omega]; exact pk_m1 _) (by decide) rfl ?_
    refine ew_goto (M := mX10_count) (tgt := 5) dX10_count_38 rfl ?_
    refine ew_ls _ ?_ (k _ (hc2.set (by simp)) (by rw [← isW_s C (by omega)]; exact ex_eq (ex_lt b11)))
    exact ⟨rfl, rfl, rfl, trivial⟩
  · intro H2 hc2 b11
    have b1 := hc2.at a1 (by simp)
    rw [show n - (n - p) = p by omega]
    by_cases h0 : p = 0
    · rw [h0] at b11 hins ⊢
      refine ew_iload_n (M := mX10_count) dX10_count_5 rfl ?_
      refine ew_if_le (M := mX10_count) (tgt := 41) dX10_count_6 rfl (fun _ => ?_) (fun h => absurd (by decide) h)
      refine ew_aload_n (M := mX10_count) dX10_count_41 rfl (Or.inr (Or.inl ⟨_, rfl⟩)) ?_
      refine ew_get (M := mX10_count) dX10_count_42 fX10_41 (by repeat (first | with_reducible assumption | refine ex_eq ?_ | refine ex_ne ?_ (by omega) | exact ex_lt (by with_reducible assumption) | rw [List.length_set] | assumption)) (by rfl) ?_
      refine ew_iload_n (M := mX10_count) dX10_count_45 rfl ?_
      refine ew_iload_n (M := mX10_count) dX10_count_46 rfl ?_
      refine ew_iast (M := mX10_count) 0 dX10_count_47 (by repeat (first | with_reducible assumption | refine ex_eq ?_ | refine ex_ne ?_ (by omega) | exact ex_lt (by with_reducible assumption) | rw [List.length_set] | assumption)) ⟨rfl, by omega, by decide⟩ ?_
      refine ew_aload_n (M := mX10_count) dX10_count_48 rfl (Or.inr (Or.inl ⟨_, rfl⟩)) ?_
      refine ew_dup (M := mX10_count) dX10_count_49 rfl ?_
      refine ew_get (M := mX10_count) dX10_count_50 fX10_121 (by repeat (first | with_reducible assumption | refine ex_eq ?_ | refine ex_ne ?_ (by omega) | exact ex_lt (by with_reducible assumption) | rw [List.length_set] | assumption)) (by rfl) ?_
      refine ew_iconst (M := mX10_count) dX10_count_53 (v := nI 1) (by decide) ?_
      refine ew_iadd (M := mX10_count) dX10_count_54 ?_
      rw [nI_add]
      refine ew_put (M := mX10_count) dX10_count_55 fX10_121 (by repeat (first | with_reducible assumption | refine ex_eq ?_ | refine ex_ne ?_ (by omega) | exact ex_lt (by with_reducible assumption) | rw [List.length_set] | assumption)) (by exact Nat.le_of_ble_eq_true rfl) ⟨rfl, rfl, fun _ h => by cases h⟩ ?_
      refine ew_vret (M := mX10_count) dX10_count_58 rfl (Nat.le_refl _) (Nat.le_refl _) ?_
      refine ⟨rfl, ((hc2.sub (by simp)).set (by simp)).set (by simp), _, mo_mn hS (((hc2.sub (by simp)).set (by simp)).set (by simp)) (ex_eq (by rw [List.length_set]; exact ex_lt b1)) (ex_ne (ex_eq (ex_lt b11)) (by decide)), hins⟩
    · have e1 : isW C n (n - p) (p - 1) = C (p - 1) := if_neg (by omega)
      refine ew_iload_n (M := mX10_count) dX10_count_5 rfl ?_
      refine ew_if_le (M := mX10_count) (tgt := 41) dX10_count_6 rfl (fun h => absurd h (nI_nle (by omega) (by omega))) (fun _ => ?_)
      refine ew_aload_n (M := mX10_count) dX10_count_9 rfl (Or.inr (Or.inl ⟨_, rfl⟩)) ?_
      refine ew_get (M := mX10_count) dX10_count_10 fX10_41 (by repeat (first | with_reducible assumption | refine ex_eq ?_ | refine ex_ne ?_ (by omega) | exact ex_lt (by with_reducible assumption) | rw [List.length_set] | assumption)) (by rfl) ?_
      refine ew_iload_n (M := mX10_count) dX10_count_13 rfl ?_
      refine ew_iconst (M := mX10_count) dX10_count_14 (v := nI 1) (by decide) ?_
      refine ew_isub (M := mX10_count) dX10_count_15 ?_
      rw [nI_s1 (by omega)]
      refine ew_iald (M := mX10_count) (p - 1) dX10_count_16 (by repeat (first | with_reducible assumption | refine ex_eq ?_ | refine ex_ne ?_ (by omega) | exact ex_lt (by with_reducible assumption) | rw [List.length_set] | assumption)) ⟨rfl, by omega, by decide⟩ ?_
      refine ew_iload_n (M := mX10_count) dX10_count_17 rfl ?_
      refine ew_icmp_le (M := mX10_count) (tgt := 41) dX10_count_18 rfl (fun _ => ?_) (fun h => absurd (by rw [e1]; exact hle (by omega)) h)
      refine ew_aload_n (M := mX10_count) dX10_count_41 rfl (Or.inr (Or.inl ⟨_, rfl⟩)) ?_
      refine ew_get (M := mX10_count) dX10_count_42 fX10_41 (by repeat (first | with_reducible assumption | refine ex_eq ?_ | refine ex_ne ?_ (by omega) | exact ex_lt (by with_reducible assumption) | rw [List.length_set] | assumption)) (by rfl) ?_
      refine ew_iload_n (M := mX10_count) dX10_count_45 rfl ?_
      refine ew_iload_n (M := mX10_count) dX10_count_46 rfl ?_
      refine ew_iast (M := mX10_count) p dX10_count_47 (by repeat (first | with_reducible assumption | refine ex_eq ?_ | refine ex_ne ?_ (by omega) | exact ex_lt (by with_reducible assumption) | rw [List.length_set] | assumption)) ⟨rfl, by omega, by decide⟩ ?_
      refine ew_aload_n (M := mX10_count) dX10_count_48 rfl (Or.inr (Or.inl ⟨_, rfl⟩)) ?_
      refine ew_dup (M := mX10_count) dX10_count_49 rfl ?_
      refine ew_get (M := mX10_count) dX10_count_50 fX10_121 (by repeat (first | with_reducible assumption | refine ex_eq ?_ | refine ex_ne ?_ (by omega) | exact ex_lt (by with_reducible assumption) | rw [List.length_set] | assumption)) (by rfl) ?_
      refine ew_iconst (M := mX10_count) dX10_count_53 (v := nI 1) (by decide) ?_
      refine ew_iadd (M := mX10_count) dX10_count_54 ?_
      rw [nI_add]
      refine ew_put (M := mX10_count) dX10_count_55 fX10_121 (by repeat (first | with_reducible assumption | refine ex_eq ?_ | refine ex_ne ?_ (by omega) | exact ex_lt (by with_reducible assumption) | rw [List.length_set] | assumption)) (by exact Nat.le_of_ble_eq_true rfl) ⟨rfl, rfl, fun _ h => by cases h⟩ ?_
      refine ew_vret (M := mX10_count) dX10_count_58 rfl (Nat.le_refl _) (Nat.le_refl _) ?_
      refine ⟨rfl, ((hc2.sub (by simp)).set (by simp)).set (by simp), _, mo_mn hS (((hc2.sub (by simp)).set (by simp)).set (by simp)) (ex_eq (by rw [List.length_set]; exact ex_lt b1)) (ex_ne (ex_eq (ex_lt b11)) (by decide)), hins⟩
theorem ms_leftOver {d : Nat} {H : ex_H} {a c n : Nat} (ha : a < 18) (hc : c < 5) (hn : n < 21) (h0 : 0 < n) : ex_Met mX10_leftOver d 0 0 H [.int (nI a - nI c), .int (nI n)] (ex_r H (.int (nI (fm a c n)))) := by
  refine ex_meth [(0, .int (nI a - nI c)), (1, .int (nI n))] rfl rfl rfl (fun b => Nat.le_of_ble_eq_true rfl) ?_
  refine ew_iload_n (M := mX10_leftOver) dX10_leftOver_0 rfl ?_
  refine ew_iload_n (M := mX10_leftOver) dX10_leftOver_1 rfl ?_
  refine ew_irem (M := mX10_leftOver) dX10_leftOver_2 (nI_n0 h0 (by omega)) ?_
  refine ew_iload_n (M := mX10_leftOver) dX10_leftOver_3 rfl ?_
  refine ew_iadd (M := mX10_leftOver) dX10_leftOver_4 ?_
  refine ew_iload_n (M := mX10_leftOver) dX10_leftOver_5 rfl ?_
  refine ew_irem (M := mX10_leftOver) dX10_leftOver_6 (nI_n0 h0 (by omega)) ?_
  refine ew_iret (M := mX10_leftOver) dX10_leftOver_7 rfl (by first | rfl | decide) (Nat.le_refl _) (Nat.le_refl _) ?_
  exact ⟨rfl, congrArg (fun q => some (Value.int q)) (fm_ok2 a ha c hc n hn h0)⟩
set_option maxRecDepth 100000 in
theorem si_pos : ∀ a < 18, ∀ c < 5, (0 ≤ nI a - nI c) ↔ c ≤ a := by decide +kernel
theorem fm_in {a c n : Nat} (h1 : c ≤ a) (h2 : a < n + c) : fm a c n = a - c := by
  unfold fm
  rw [show a + 4 * n - c = (a - c) + n * 4 by omega, Nat.add_mul_mod_self_left, Nat.mod_eq_of_lt (by omega)]
theorem ms_standIn {d : Nat} {H : ex_H} {bo n a c k : Nat} (ha : a < 18) (hc : c < 5) (hn : 1 ≤ n) (hn2 : n ≤ 10) (h1 : 1 ≤ bo) (h3 : bo ≤ 3) (hk : sf bo n a c = some k) : ex_Met mX10_standIn (d + 1) 0 0 H [.int (nI bo), .int (nI a - nI c), .int (nI n)] (ex_r H (.int (nI k))) := by
  unfold sf at hk
  rcases (show bo = 1 ∨ bo = 2 ∨ bo = 3 by omega) with rfl | rfl | rfl
  · by_cases hac : a < c
    · rw [if_neg (by omega), if_pos rfl, if_pos hac] at hk
      injection hk with hk
      subst hk
      refine ex_meth [(0, .int (nI 1)), (1, .int (nI a - nI c)), (2, .int (nI n))] rfl rfl rfl (fun b => Nat.le_of_ble_eq_true rfl) ?_
      refine ew_iload_n (M := mX10_standIn) dX10_standIn_0 rfl ?_
      refine ew_iconst (M := mX10_standIn) dX10_standIn_1 (v := nI 1) (by decide) ?_
      refine ew_icmp_ne (M := mX10_standIn) (tgt := 26) dX10_standIn_2 rfl (fun h => absurd rfl h) (fun _ => ?_)
      refine ew_iload_n (M := mX10_standIn) dX10_standIn_5 rfl ?_
      refine ew_if_ge (M := mX10_standIn) (tgt := 13) dX10_standIn_6 rfl (fun h => absurd h (fun q => by rw [si_pos a ha c hc] at q; omega)) (fun _ => ?_)
      refine ew_iconst (M := mX10_standIn) dX10_standIn_9 (v := nI 0) (by decide) ?_
      refine ew_goto (M := mX10_standIn) (tgt := 25) dX10_standIn_10 rfl ?_
      refine ew_iret (M := mX10_standIn) dX10_standIn_25 rfl (by first | rfl | decide) (Nat.le_refl _) (Nat.le_refl _) ?_
      exact ⟨rfl, rfl⟩
    · rw [nI_sb (by omega)]
      by_cases hr : a - c < n
      · rw [if_pos (by omega)] at hk
        injection hk with hk
        subst hk
        refine ex_meth [(0, .int (nI 1)), (1, .int (nI (a - c))), (2, .int (nI n))] rfl rfl rfl (fun b => Nat.le_of_ble_eq_true rfl) ?_
        refine ew_iload_n (M := mX10_standIn) dX10_standIn_0 rfl ?_
        refine ew_iconst (M := mX10_standIn) dX10_standIn_1 (v := nI 1) (by decide) ?_
        refine ew_icmp_ne (M := mX10_standIn) (tgt := 26) dX10_standIn_2 rfl (fun h => absurd rfl h) (fun _ => ?_)
        refine ew_iload_n (M := mX10_standIn) dX10_standIn_5 rfl ?_
        refine ew_if_ge (M := mX10_standIn) (tgt := 13) dX10_standIn_6 rfl (fun _ => ?_) (fun h => absurd (nI_pos' (by omega)) h)
        refine ew_iload_n (M := mX10_standIn) dX10_standIn_13 rfl ?_
        refine ew_iload_n (M := mX10_standIn) dX10_standIn_14 rfl ?_
        refine ew_icmp_lt (M := mX10_standIn) (tgt := 24) dX10_standIn_15 rfl (fun _ => ?_) (fun h => absurd (nI_lt hr (by omega)) h)
        refine ew_iload_n (M := mX10_standIn) dX10_standIn_24 rfl ?_
        refine ew_iret (M := mX10_standIn) dX10_standIn_25 rfl (by first | rfl | decide) (Nat.le_refl _) (Nat.le_refl _) ?_
        exact ⟨rfl, rfl⟩
      · rw [if_neg (by omega), if_pos rfl, if_neg hac] at hk
        injection hk with hk
        subst hk
        refine ex_meth [(0, .int (nI 1)), (1, .int (nI (a - c))), (2, .int (nI n))] rfl rfl rfl (fun b => Nat.le_of_ble_eq_true rfl) ?_
        refine ew_iload_n (M := mX10_standIn) dX10_standIn_0 rfl ?_
        refine ew_iconst (M := mX10_standIn) dX10_standIn_1 (v := nI 1) (by decide) ?_
        refine ew_icmp_ne (M := mX10_standIn) (tgt := 26) dX10_standIn_2 rfl (fun h => absurd rfl h) (fun _ => ?_)
        refine ew_iload_n (M := mX10_standIn) dX10_standIn_5 rfl ?_
        refine ew_if_ge (M := mX10_standIn) (tgt := 13) dX10_standIn_6 rfl (fun _ => ?_) (fun h => absurd (nI_pos' (by omega)) h)
        refine ew_iload_n (M := mX10_standIn) dX10_standIn_13 rfl ?_
        refine ew_iload_n (M := mX10_standIn) dX10_standIn_14 rfl ?_
        refine ew_icmp_lt (M := mX10_standIn) (tgt := 24) dX10_standIn_15 rfl (fun h => absurd h (nI_nlt (by omega) (by omega))) (fun _ => ?_)
        refine ew_iload_n (M := mX10_standIn) dX10_standIn_18 rfl ?_
        refine ew_iconst (M := mX10_standIn) dX10_standIn_19 (v := nI 1) (by decide) ?_
        refine ew_isub (M := mX10_standIn) dX10_standIn_20 ?_
        rw [nI_s1 hn]
        refine ew_goto (M := mX10_standIn) (tgt := 25) dX10_standIn_21 rfl ?_
        refine ew_iret (M := mX10_standIn) dX10_standIn_25 rfl (by first | rfl | decide) (Nat.le_refl _) (Nat.le_refl _) ?_
        exact ⟨rfl, rfl⟩
  · have hlt : fm a c (2 * n) < 2 * n := Nat.mod_lt _ (by omega)
    have hv : k = (if fm a c (2 * n) < n then fm a c (2 * n) else 2 * n - 1 - fm a c (2 * n)) := by
      by_cases hr : c ≤ a ∧ a < n + c
      · rw [if_pos hr] at hk
        injection hk with hk
        rw [fm_in (n := 2 * n) hr.1 (by omega), if_pos (by omega), hk]
      · rw [if_neg hr, if_neg (by decide), if_pos rfl] at hk
        injection hk with hk
        split <;> omega
    by_cases hr : fm a c (2 * n) < n
    · rw [if_pos hr] at hv
      subst hv
      refine ex_meth [(0, .int (nI 2)), (1, .int (nI a - nI c)), (2, .int (nI n))] rfl rfl rfl (fun b => Nat.le_of_ble_eq_true rfl) ?_
      refine ew_iload_n (M := mX10_standIn) dX10_standIn_0 rfl ?_
      refine ew_iconst (M := mX10_standIn) dX10_standIn_1 (v := nI 1) (by decide) ?_
      refine ew_icmp_ne (M := mX10_standIn) (tgt := 26) dX10_standIn_2 rfl (fun _ => ?_) (fun h => absurd h (by decide))
      refine ew_iload_n (M := mX10_standIn) dX10_standIn_26 rfl ?_
      refine ew_iconst (M := mX10_standIn) dX10_standIn_27 (v := nI 3) (by decide) ?_
      refine ew_icmp_ne (M := mX10_standIn) (tgt := 37) dX10_standIn_28 rfl (fun _ => ?_) (fun h => absurd h (by decide))
      refine ew_iload_n (M := mX10_standIn) dX10_standIn_37 rfl ?_
      refine ew_iconst (M := mX10_standIn) dX10_standIn_38 (v := nI 2) (by decide) ?_
      refine ew_iload_n (M := mX10_standIn) dX10_standIn_39 rfl ?_
      refine ew_imul (M := mX10_standIn) dX10_standIn_40 ?_
      rw [pk_mul]
      refine ew_callS (M := mX10_standIn) dX10_standIn_41 vX10_124 (ms_leftOver ha hc (by omega) (by omega)) rfl (Nat.le_of_ble_eq_true rfl) ⟨Nat.le_refl _, Nat.le_refl _⟩ rfl (fun H41 r41 q41 => ?_)
      obtain ⟨rfl, rfl⟩ := q41
      refine ew_istore_n (M := mX10_standIn) dX10_standIn_44 (by decide) rfl ?_
      refine ew_iload_n (M := mX10_standIn) dX10_standIn_45 rfl ?_
      refine ew_iload_n (M := mX10_standIn) dX10_standIn_46 rfl ?_
      refine ew_icmp_ge (M := mX10_standIn) (tgt := 54) dX10_standIn_47 rfl (fun h => absurd h (nI_ge hr (by omega))) (fun _ => ?_)
      refine ew_iload_n (M := mX10_standIn) dX10_standIn_50 rfl ?_
      refine ew_goto (M := mX10_standIn) (tgt := 61) dX10_standIn_51 rfl ?_
      refine ew_iret (M := mX10_standIn) dX10_standIn_61 rfl (by first | rfl | decide) (Nat.le_refl _) (Nat.le_refl _) ?_
      exact ⟨rfl, rfl⟩
    · rw [if_neg hr] at hv
      subst hv
      refine ex_meth [(0, .int (nI 2)), (1, .int (nI a - nI c)), (2, .int (nI n))] rfl rfl rfl (fun b => Nat.le_of_ble_eq_true rfl) ?_
      refine ew_iload_n (M := mX10_standIn) dX10_standIn_0 rfl ?_
      refine ew_iconst (M := mX10_standIn) dX10_standIn_1 (v := nI 1) (by decide) ?_
      refine ew_icmp_ne (M := mX10_standIn) (tgt := 26) dX10_standIn_2 rfl (fun _ => ?_) (fun h => absurd h (by decide))
      refine ew_iload_n (M := mX10_standIn) dX10_standIn_26 rfl ?_
      refine ew_iconst (M := mX10_standIn) dX10_standIn_27 (v := nI 3) (by decide) ?_
      refine ew_icmp_ne (M := mX10_standIn) (tgt := 37) dX10_standIn_28 rfl (fun _ => ?_) (fun h => absurd h (by decide))
      refine ew_iload_n (M := mX10_standIn) dX10_standIn_37 rfl ?_
      refine ew_iconst (M := mX10_standIn) dX10_standIn_38 (v := nI 2) (by decide) ?_
      refine ew_iload_n (M := mX10_standIn) dX10_standIn_39 rfl ?_
      refine ew_imul (M := mX10_standIn) dX10_standIn_40 ?_
      rw [pk_mul]
      refine ew_callS (M := mX10_standIn) dX10_standIn_41 vX10_124 (ms_leftOver ha hc (by omega) (by omega)) rfl (Nat.le_of_ble_eq_true rfl) ⟨Nat.le_refl _, Nat.le_refl _⟩ rfl (fun H41 r41 q41 => ?_)
      obtain ⟨rfl, rfl⟩ := q41
      refine ew_istore_n (M := mX10_standIn) dX10_standIn_44 (by decide) rfl ?_
      refine ew_iload_n (M := mX10_standIn) dX10_standIn_45 rfl ?_
      refine ew_iload_n (M := mX10_standIn) dX10_standIn_46 rfl ?_
      refine ew_icmp_ge (M := mX10_standIn) (tgt := 54) dX10_standIn_47 rfl (fun _ => ?_) (fun h => absurd (nI_le (by omega) (by omega)) h)
      refine ew_iconst (M := mX10_standIn) dX10_standIn_54 (v := nI 2) (by decide) ?_
      refine ew_iload_n (M := mX10_standIn) dX10_standIn_55 rfl ?_
      refine ew_imul (M := mX10_standIn) dX10_standIn_56 ?_
      rw [pk_mul]
      refine ew_iconst (M := mX10_standIn) dX10_standIn_57 (v := nI 1) (by decide) ?_
      refine ew_isub (M := mX10_standIn) dX10_standIn_58 ?_
      rw [nI_s1 (by omega)]
      refine ew_iload_n (M := mX10_standIn) dX10_standIn_59 rfl ?_
      refine ew_isub (M := mX10_standIn) dX10_standIn_60 ?_
      rw [nI_sb (a := 2 * n - 1) (b := fm a c (2 * n)) (by omega)]
      refine ew_iret (M := mX10_standIn) dX10_standIn_61 rfl (by first | rfl | decide) (Nat.le_refl _) (Nat.le_refl _) ?_
      exact ⟨rfl, rfl⟩
  · have hv : k = fm a c n := by
      by_cases hr : c ≤ a ∧ a < n + c
      · rw [if_pos hr] at hk
        injection hk with hk
        rw [fm_in hr.1 (by omega), hk]
      · rw [if_neg hr, if_neg (by decide), if_neg (by decide), if_pos rfl] at hk
        injection hk with hk
        exact hk.symm
    subst hv
    refine ex_meth [(0, .int (nI 3)), (1, .int (nI a - nI c)), (2, .int (nI n))] rfl rfl rfl (fun b => Nat.le_of_ble_eq_true rfl) ?_
    refine ew_iload_n (M := mX10_standIn) dX10_standIn_0 rfl ?_
    refine ew_iconst (M := mX10_standIn) dX10_standIn_1 (v := nI 1) (by decide) ?_
    refine ew_icmp_ne (M := mX10_standIn) (tgt := 26) dX10_standIn_2 rfl (fun _ => ?_) (fun h => absurd h (by decide))
    refine ew_iload_n (M := mX10_standIn) dX10_standIn_26 rfl ?_
    refine ew_iconst (M := mX10_standIn) dX10_standIn_27 (v := nI 3) (by decide) ?_
    refine ew_icmp_ne (M := mX10_standIn) (tgt := 37) dX10_standIn_28 rfl (fun h => absurd rfl h) (fun _ => ?_)
    refine ew_iload_n (M := mX10_standIn) dX10_standIn_31 rfl ?_
    refine ew_iload_n (M := mX10_standIn) dX10_standIn_32 rfl ?_
    refine ew_callS (M := mX10_standIn) dX10_standIn_33 vX10_124 (ms_leftOver ha hc (by omega) (by omega)) rfl (Nat.le_of_ble_eq_true rfl) ⟨Nat.le_refl _, Nat.le_refl _⟩ rfl (fun H33 r33 q33 => ?_)
    obtain ⟨rfl, rfl⟩ := q33
    refine ew_iret (M := mX10_standIn) dX10_standIn_36 rfl (by first | rfl | decide) (Nat.le_refl _) (Nat.le_refl _) ?_
    exact ⟨rfl, rfl⟩
theorem ca_0 (c : Nat → Nat) (v : Nat) : ca c v 0 = c := by
  funext u
  unfold ca
  split <;> rfl
theorem sf_some {bo n a c : Nat} (h1 : 1 ≤ bo) (h3 : bo ≤ 3) : ∃ k, sf bo n a c = some k := by
  unfold sf
  by_cases hr : c ≤ a ∧ a < n + c
  · rw [if_pos hr]; exact ⟨_, rfl⟩
  · rw [if_neg hr]
    rcases (show bo = 1 ∨ bo = 2 ∨ bo = 3 by omega) with rfl | rfl | rfl
    · exact ⟨_, rfl⟩
    · exact ⟨_, rfl⟩
    · exact ⟨_, rfl⟩
theorem sf_none {bo n a c : Nat} (h : bo = 0 ∨ bo = 4) (hr : ¬ (c ≤ a ∧ a < n + c)) : sf bo n a c = none := by
  unfold sf
  rw [if_neg hr, if_neg (by omega), if_neg (by omega), if_neg (by omega)]
theorem pl_out {w h : Nat} {g m c : Nat → Nat} {bo fi a ac b dn : Nat} (hb : bo = 0 ∨ bo = 4) (hn : ¬ ((ac ≤ a ∧ a < w + ac) ∧ (dn ≤ b ∧ b < h + dn))) : pl w g m bo fi c (sf bo h b dn) (sf bo w a ac) = ca c fi (if bo = 4 then 1 else 0) := by
  by_cases hr : ac ≤ a ∧ a < w + ac
  · rw [sf_none hb (fun q => hn ⟨hr, q⟩)]
    rfl
  · rw [sf_none (n := w) hb hr]
    cases sf bo h b dn <;> rfl
theorem ms_countOut {d : Nat} {H : ex_H} {S : SS} {R : Int32 × Int32 × Int32 × Int32} {C N : Nat → Int32} {n : Nat} {c : Nat → Nat} (hS : mo_at H S R (nI n) C N) (hs : srt C n c) (hn : n < 96) {bo a ac b dn : Nat} (hbo : bo ≤ 4) (ha : a < 18) (hac : ac < 5) (hb : b < 18) (hdn : dn < 5) (hout : ¬ ((ac ≤ a ∧ a < S.2.2.1.1.1 + ac) ∧ (dn ≤ b ∧ b < S.2.2.1.1.2.1 + dn))) : ex_Met mX10_countOut (d + 2) 0 0 H [.ref 86, .int (nI bo), .int (nI a - nI ac), .int (nI b - nI dn)] (fun H' r => r = none ∧ ex_ch H H' [86, 96] ∧ ∃ n' C', mo_at H' S R (nI n') C' N ∧ srt C' n' (pl S.2.2.1.1.1 S.2.2.1.1.2.2.1 S.2.2.1.1.2.2.2 bo S.2.2.1.2.2.1 c (sf bo S.2.2.1.1.2.1 b dn) (sf bo S.2.2.1.1.1 a ac)) ∧ n' ≤ n + 1) := by
  obtain ⟨a1, ⟨hfi, hsd, hkp⟩, ⟨W, a2, hw0, ⟨hcn, hwh⟩, hwi⟩, ⟨T, a3, htn, htx⟩, ⟨F, a4, hfl⟩, ⟨IF, IL, IS, a5, a6, a7, him⟩, ⟨BX, BY, BG, a8, a9, a10, hbn, hbk⟩, a11, a12⟩ := id hS
  obtain ⟨⟨⟨hz1, hz2, hz3, hz4⟩, hgm⟩, hW0, hW1, hWd⟩ := id hw0
  have hW1 : W 1 = nI S.2.2.1.1.2.1 := hW1
  by_cases h4 : bo = 4
  · subst h4
    rw [pl_out (Or.inr rfl) hout, if_pos rfl]
    refine ex_meth [(0, .ref 86), (1, .int (nI 4)), (2, .int (nI a - nI ac)), (3, .int (nI b - nI dn))] rfl rfl rfl (fun b => Nat.le_of_ble_eq_true rfl) ?_
    refine ew_iload_n (M := mX10_countOut) dX10_countOut_0 rfl ?_
    refine ew_iconst (M := mX10_countOut) dX10_countOut_1 (v := nI 4) (by decide) ?_
    refine ew_icmp_ne (M := mX10_countOut) (tgt := 16) dX10_countOut_2 rfl (fun h => absurd rfl h) (fun _ => ?_)
    refine ew_aload_n (M := mX10_countOut) dX10_countOut_5 rfl (Or.inr (Or.inl ⟨_, rfl⟩)) ?_
    refine ew_aload_n (M := mX10_countOut) dX10_countOut_6 rfl (Or.inr (Or.inl ⟨_, rfl⟩)) ?_
    refine ew_get (M := mX10_countOut) dX10_countOut_7 fX10_127 (by repeat (first | with_reducible assumption | refine ex_eq ?_ | refine ex_ne ?_ (by omega) | exact ex_lt (by with_reducible assumption) | rw [List.length_set] | assumption)) (by rfl) ?_
    refine ew_callV (M := mX10_countOut) dX10_countOut_10 vX10_130 (by repeat (first | with_reducible assumption | refine ex_eq ?_ | refine ex_ne ?_ (by omega) | exact ex_lt (by with_reducible assumption) | rw [List.length_set] | assumption)) rfl (ms_count hS hs hfi hn) rfl (Nat.le_of_ble_eq_true rfl) ⟨Nat.le_refl _, Nat.le_refl _⟩ rfl (fun H10 r10 q10 => ?_)
    obtain ⟨rfl, hc2, C2, hS2, hs2⟩ := q10
    refine ew_goto (M := mX10_countOut) (tgt := 69) dX10_countOut_13 rfl ?_
    refine ew_vret (M := mX10_countOut) dX10_countOut_69 rfl (Nat.le_refl _) (Nat.le_refl _) ?_
    exact ⟨rfl, hc2, _, C2, hS2, hs2, Nat.le_refl _⟩
  by_cases h0 : bo = 0
  · subst h0
    rw [pl_out (Or.inl rfl) hout, if_neg (by decide), ca_0]
    refine ex_meth [(0, .ref 86), (1, .int (nI 0)), (2, .int (nI a - nI ac)), (3, .int (nI b - nI dn))] rfl rfl rfl (fun b => Nat.le_of_ble_eq_true rfl) ?_
    refine ew_iload_n (M := mX10_countOut) dX10_countOut_0 rfl ?_
    refine ew_iconst (M := mX10_countOut) dX10_countOut_1 (v := nI 4) (by decide) ?_
    refine ew_icmp_ne (M := mX10_countOut) (tgt := 16) dX10_countOut_2 rfl (fun _ => ?_) (fun h => absurd h (by decide))
    refine ew_iload_n (M := mX10_countOut) dX10_countOut_16 rfl ?_
    refine ew_if_le (M := mX10_countOut) (tgt := 69) dX10_countOut_17 rfl (fun _ => ?_) (fun h => absurd (by decide) h)
    refine ew_vret (M := mX10_countOut) dX10_countOut_69 rfl (Nat.le_refl _) (Nat.le_refl _) ?_
    exact ⟨rfl, ex_ch.rf, n, C, hS, hs, by omega⟩
  obtain ⟨i, hi⟩ := sf_some (bo := bo) (n := S.2.2.1.1.1) (a := a) (c := ac) (by omega) (by omega)
  obtain ⟨j, hj⟩ := sf_some (bo := bo) (n := S.2.2.1.1.2.1) (a := b) (c := dn) (by omega) (by omega)
  have hi2 := sf_lt hz1 hi
  have hj2 := sf_lt hz3 hj
  have hg := hgm _ (pi_lt hi2 hj2)
  rw [hi, hj]
  have hpl : pl S.2.2.1.1.1 S.2.2.1.1.2.2.1 S.2.2.1.1.2.2.2 bo S.2.2.1.2.2.1 c (some j) (some i) = if S.2.2.1.1.2.2.2 (j * S.2.2.1.1.1 + i) = 0 then ca c (S.2.2.1.1.2.2.1 (j * S.2.2.1.1.1 + i)) 1 else c := rfl
  rw [hpl]
  refine ex_meth [(0, .ref 86), (1, .int (nI bo)), (2, .int (nI a - nI ac)), (3, .int (nI b - nI dn))] rfl rfl rfl (fun b => Nat.le_of_ble_eq_true rfl) ?_
  refine ew_iload_n (M := mX10_countOut) dX10_countOut_0 rfl ?_
  refine ew_iconst (M := mX10_countOut) dX10_countOut_1 (v := nI 4) (by decide) ?_
  refine ew_icmp_ne (M := mX10_countOut) (tgt := 16) dX10_countOut_2 rfl (fun _ => ?_) (fun h => absurd h (fun e => h4 ((nI_eq (by omega) (by decide)).mp e)))
  refine ew_iload_n (M := mX10_countOut) dX10_countOut_16 rfl ?_
  refine ew_if_le (M := mX10_countOut) (tgt := 69) dX10_countOut_17 rfl (fun h => absurd h (nI_nle (by omega) (by omega))) (fun _ => ?_)
  refine ew_iload_n (M := mX10_countOut) dX10_countOut_20 rfl ?_
  refine ew_iload_n (M := mX10_countOut) dX10_countOut_21 rfl ?_
  refine ew_aload_n (M := mX10_countOut) dX10_countOut_22 rfl (Or.inr (Or.inl ⟨_, rfl⟩)) ?_
  refine ew_get (M := mX10_countOut) dX10_countOut_23 fX10_7 (by repeat (first | with_reducible assumption | refine ex_eq ?_ | refine ex_ne ?_ (by omega) | exact ex_lt (by with_reducible assumption) | rw [List.length_set] | assumption)) (by rfl) ?_
  refine ew_iconst (M := mX10_countOut) dX10_countOut_26 (v := nI 0) (by decide) ?_
  refine ew_iald (M := mX10_countOut) 0 dX10_countOut_27 (by repeat (first | with_reducible assumption | refine ex_eq ?_ | refine ex_ne ?_ (by omega) | exact ex_lt (by with_reducible assumption) | rw [List.length_set] | assumption)) ⟨rfl, by decide, by decide⟩ ?_
  rw [hW0]
  refine ew_callS (M := mX10_countOut) dX10_countOut_28 vX10_133 (ms_standIn ha hac hz1 hz2 (by omega) (by omega) hi) rfl (Nat.le_of_ble_eq_true rfl) ⟨Nat.le_refl _, Nat.le_refl _⟩ rfl (fun H28 r28 q28 => ?_)
  obtain ⟨rfl, rfl⟩ := q28
  refine ew_istore (M := mX10_countOut) dX10_countOut_31 (by decide) rfl ?_
  refine ew_iload_n (M := mX10_countOut) dX10_countOut_33 rfl ?_
  refine ew_iload_n (M := mX10_countOut) dX10_countOut_34 rfl ?_
  refine ew_aload_n (M := mX10_countOut) dX10_countOut_35 rfl (Or.inr (Or.inl ⟨_, rfl⟩)) ?_
  refine ew_get (M := mX10_countOut) dX10_countOut_36 fX10_7 (by repeat (first | with_reducible assumption | refine ex_eq ?_ | refine ex_ne ?_ (by omega) | exact ex_lt (by with_reducible assumption) | rw [List.length_set] | assumption)) (by rfl) ?_
  refine ew_iconst (M := mX10_countOut) dX10_countOut_39 (v := nI 1) (by decide) ?_
  refine ew_iald (M := mX10_countOut) 1 dX10_countOut_40 (by repeat (first | with_reducible assumption | refine ex_eq ?_ | refine ex_ne ?_ (by omega) | exact ex_lt (by with_reducible assumption) | rw [List.length_set] | assumption)) ⟨rfl, by decide, by decide⟩ ?_
  rw [hW1]
  refine ew_callS (M := mX10_countOut) dX10_countOut_41 vX10_133 (ms_standIn hb hdn hz3 (by omega) (by omega) (by omega) hj) rfl (Nat.le_of_ble_eq_true rfl) ⟨Nat.le_refl _, Nat.le_refl _⟩ rfl (fun H41 r41 q41 => ?_)
  obtain ⟨rfl, rfl⟩ := q41
  refine ew_istore (M := mX10_countOut) dX10_countOut_44 (by decide) rfl ?_
  refine ew_aload_n (M := mX10_countOut) dX10_countOut_46 rfl (Or.inr (Or.inl ⟨_, rfl⟩)) ?_
  refine ew_iload (M := mX10_countOut) dX10_countOut_47 rfl ?_
  refine ew_iload (M := mX10_countOut) dX10_countOut_49 rfl ?_
  refine ew_callV (M := mX10_countOut) dX10_countOut_51 vX10_62 (by repeat (first | with_reducible assumption | refine ex_eq ?_ | refine ex_ne ?_ (by omega) | exact ex_lt (by with_reducible assumption) | rw [List.length_set] | assumption)) rfl (ms_isMasked hS hi2 hj2) rfl (Nat.le_of_ble_eq_true rfl) ⟨Nat.le_refl _, Nat.le_refl _⟩ rfl (fun H51 r51 q51 => ?_)
  obtain ⟨rfl, rfl⟩ := q51
  refine ew_if_ne (M := mX10_countOut) (tgt := 69) dX10_countOut_54 rfl (fun c54 => ?_) (fun c54 => ?_)
  · rw [nI_z (by omega)] at c54
    rw [if_neg c54]
    refine ew_vret (M := mX10_countOut) dX10_countOut_69 rfl (Nat.le_refl _) (Nat.le_refl _) ?_
    first | exact ⟨rfl, hc2, _, C2, hS2, hs2, Nat.le_refl _⟩ | exact ⟨rfl, ex_ch.rf, n, C, hS, hs, by omega⟩
  · rw [nI_z (by omega)] at c54
    rw [if_pos c54]
    refine ew_aload_n (M := mX10_countOut) dX10_countOut_57 rfl (Or.inr (Or.inl ⟨_, rfl⟩)) ?_
    refine ew_aload_n (M := mX10_countOut) dX10_countOut_58 rfl (Or.inr (Or.inl ⟨_, rfl⟩)) ?_
    refine ew_iload (M := mX10_countOut) dX10_countOut_59 rfl ?_
    refine ew_iload (M := mX10_countOut) dX10_countOut_61 rfl ?_
    refine ew_callV (M := mX10_countOut) dX10_countOut_63 vX10_137 (by repeat (first | with_reducible assumption | refine ex_eq ?_ | refine ex_ne ?_ (by omega) | exact ex_lt (by with_reducible assumption) | rw [List.length_set] | assumption)) rfl (ms_grey hS hi2 hj2) rfl (Nat.le_of_ble_eq_true rfl) ⟨Nat.le_refl _, Nat.le_refl _⟩ rfl (fun H63 r63 q63 => ?_)
    obtain ⟨rfl, rfl⟩ := q63
    refine ew_callV (M := mX10_countOut) dX10_countOut_66 vX10_130 (by repeat (first | with_reducible assumption | refine ex_eq ?_ | refine ex_ne ?_ (by omega) | exact ex_lt (by with_reducible assumption) | rw [List.length_set] | assumption)) rfl (ms_count hS hs hg.1 hn) rfl (Nat.le_of_ble_eq_true rfl) ⟨Nat.le_refl _, Nat.le_refl _⟩ rfl (fun H66 r66 q66 => ?_)
    obtain ⟨rfl, hc2, C2, hS2, hs2⟩ := q66
    refine ew_vret (M := mX10_countOut) dX10_countOut_69 rfl (Nat.le_refl _) (Nat.le_refl _) ?_
    first | exact ⟨rfl, hc2, _, C2, hS2, hs2, Nat.le_refl _⟩ | exact ⟨rfl, ex_ch.rf, n, C, hS, hs, by omega⟩
theorem ca_ca (c : Nat → Nat) (v s t : Nat) : ca (ca c v s) v t = ca c v (s + t) := by
  funext u
  unfold ca
  by_cases e : u = v
  · rw [if_pos e, if_pos e, if_pos e, Nat.add_assoc]
  · rw [if_neg e, if_neg e, if_neg e]
theorem ca_cm (c : Nat → Nat) (v w s t : Nat) : ca (ca c v s) w t = ca (ca c w t) v s := by
  funext u
  unfold ca
  by_cases e : u = v
  · by_cases f : u = w
    · rw [if_pos f, if_pos e, if_pos e, if_pos f]; omega
    · rw [if_neg f, if_pos e, if_pos e, if_neg f]
  · by_cases f : u = w
    · rw [if_pos f, if_neg e, if_neg e, if_pos f]
    · rw [if_neg f, if_neg e, if_neg e, if_neg f]
theorem ms_cntLoop {d : Nat} {H : ex_H} {S : SS} {R : Int32 × Int32 × Int32 × Int32} {C N : Nat → Int32} {n : Nat} {c : Nat → Nat} (hS : mo_at H S R (nI n) C N) (hs : srt C n c) {i j o : Nat} {x1 : Int32} (hi : i < S.2.2.1.1.1) (hj : j < S.2.2.1.1.2.1) (hn : n + o ≤ 96) : ex_W mX10_countAt (d + 2) 0 0 (fun H' r => r = none ∧ ex_ch H H' [86, 96] ∧ ∃ C', mo_at H' S R (nI (n + o)) C' N ∧ srt C' (n + o) (ca c (S.2.2.1.1.2.2.1 (j * S.2.2.1.1.1 + i)) o)) H 53 [(0, .ref 86), (1, .int x1), (2, .int (nI i)), (3, .int (nI j)), (5, .int (nI o)), (6, .int (nI 0))] [] 0 0 := by
  have hg : S.2.2.1.1.2.2.1 (j * S.2.2.1.1.1 + i) < 256 := by
    obtain ⟨-, -, ⟨W, -, ⟨hok, -⟩, -⟩, -⟩ := id hS
    exact (hok.2 _ (pi_lt hi hj)).1
  refine nat_down (P := fun t => ∀ (H2 : ex_H) (C2 : Nat → Int32), ex_ch H H2 [86, 96] → mo_at H2 S R (nI (n + t)) C2 N → srt C2 (n + t) (ca c (S.2.2.1.1.2.2.1 (j * S.2.2.1.1.1 + i)) t) → ex_W mX10_countAt (d + 2) 0 0 _ H2 53 [(0, .ref 86), (1, .int x1), (2, .int (nI i)), (3, .int (nI j)), (5, .int (nI o)), (6, .int (nI t))] [] 0 0) o (fun t ht k => ?_) ?_ H C ex_ch.rf hS (by rw [ca_0]; exact hs)
  · intro H2 C2 hc2 hS2 hs2
    have b1 := hS2.1
    refine ew_iload (M := mX10_countAt) dX10_countAt_53 rfl ?_
    refine ew_iload (M := mX10_countAt) dX10_countAt_55 rfl ?_
    refine ew_icmp_ge (M := mX10_countAt) (tgt := 76) dX10_countAt_57 rfl (fun h => absurd h (nI_ge ht (by omega))) (fun _ => ?_)
    refine ew_aload_n (M := mX10_countAt) dX10_countAt_60 rfl (Or.inr (Or.inl ⟨_, rfl⟩)) ?_
    refine ew_aload_n (M := mX10_countAt) dX10_countAt_61 rfl (Or.inr (Or.inl ⟨_, rfl⟩)) ?_
    refine ew_iload_n (M := mX10_countAt) dX10_countAt_62 rfl ?_
    refine ew_iload_n (M := mX10_countAt) dX10_countAt_63 rfl ?_
    refine ew_callV (M := mX10_countAt) dX10_countAt_64 vX10_137 (by repeat (first | with_reducible assumption | refine ex_eq ?_ | refine ex_ne ?_ (by omega) | exact ex_lt (by with_reducible assumption) | rw [List.length_set] | assumption)) rfl (ms_grey hS2 hi hj) rfl (Nat.le_of_ble_eq_true rfl) ⟨Nat.le_refl _, Nat.le_refl _⟩ rfl (fun H64 r64 q64 => ?_)
    obtain ⟨rfl, rfl⟩ := q64
    refine ew_callV (M := mX10_countAt) dX10_countAt_67 vX10_130 (by repeat (first | with_reducible assumption | refine ex_eq ?_ | refine ex_ne ?_ (by omega) | exact ex_lt (by with_reducible assumption) | rw [List.length_set] | assumption)) rfl (ms_count hS2 hs2 hg (by omega)) rfl (Nat.le_of_ble_eq_true rfl) ⟨Nat.le_refl _, Nat.le_refl _⟩ rfl (fun H67 r67 q67 => ?_)
    obtain ⟨rfl, hc3, C3, hS3, hs3⟩ := q67
    rw [ca_ca] at hs3
    refine ew_iinc (M := mX10_countAt) dX10_countAt_70 rfl (ex_inc t) (by decide) rfl ?_
    refine ew_goto (M := mX10_countAt) (tgt := 53) dX10_countAt_73 rfl ?_
    refine ew_ls _ ?_ (k _ C3 (hc2.tr hc3 (by simp)) hS3 hs3)
    exact ⟨rfl, rfl, rfl, rfl, rfl, rfl, trivial⟩
  · intro H2 C2 hc2 hS2 hs2
    refine ew_iload (M := mX10_countAt) dX10_countAt_53 rfl ?_
    refine ew_iload (M := mX10_countAt) dX10_countAt_55 rfl ?_
    refine ew_icmp_ge (M := mX10_countAt) (tgt := 76) dX10_countAt_57 rfl (fun _ => ?_) (fun h => absurd (nI_le (Nat.le_refl _) (by omega)) h)
    refine ew_vret (M := mX10_countAt) dX10_countAt_76 rfl (Nat.le_refl _) (Nat.le_refl _) ?_
    exact ⟨rfl, hc2, C2, hS2, hs2⟩
theorem ms_countAt_s {d : Nat} {H : ex_H} {S : SS} {R : Int32 × Int32 × Int32 × Int32} {C N : Nat → Int32} {n : Nat} {c : Nat → Nat} (hS : mo_at H S R (nI n) C N) (hs : srt C n c) (hn : n + 9 ≤ 96) {f i j : Nat} (hf : f < S.2.2.1.2.1.1) (hi : i < S.2.2.1.1.1) (hj : j < S.2.2.1.1.2.1) : ex_Met mX10_countAt (d + 3) 0 0 H [.ref 86, .int (nI f), .int (nI i), .int (nI j), .int (nI 1)] (fun H' r => r = none ∧ ex_ch H H' [86, 96] ∧ ∃ n' C', mo_at H' S R (nI n') C' N ∧ srt C' n' (if S.2.2.1.1.2.2.2 (j * S.2.2.1.1.1 + i) = 0 then ca c (S.2.2.1.1.2.2.1 (j * S.2.2.1.1.1 + i)) (S.2.2.1.2.1.2 f).2.2.2.2 else c) ∧ n' ≤ n + 9) := by
  obtain ⟨a1, ⟨hfi, hsd, hkp⟩, ⟨W, a2, hw0, ⟨hcn, hwh⟩, hwi⟩, ⟨T, a3, htn, htx⟩, ⟨F, a4, hfl⟩, ⟨IF, IL, IS, a5, a6, a7, him⟩, ⟨BX, BY, BG, a8, a9, a10, hbn, hbk⟩, a11, a12⟩ := id hS
  obtain ⟨⟨⟨hz1, hz2, hz3, hz4⟩, hgm⟩, hW0, hW1, hWd⟩ := id hw0
  have hg := hgm _ (pi_lt hi hj)
  have hfv := (hfl.2.2 f hf).2
  have hwt : (S.2.2.1.2.1.2 f).2.2.2.2 ≤ 9 := hfv.2.2.2.2.2
  refine ex_meth [(0, .ref 86), (1, .int (nI f)), (2, .int (nI i)), (3, .int (nI j)), (4, .int (nI 1))] rfl rfl rfl (fun b => Nat.le_of_ble_eq_true rfl) ?_
  refine ew_aload_n (M := mX10_countAt) dX10_countAt_0 rfl (Or.inr (Or.inl ⟨_, rfl⟩)) ?_
  refine ew_iload_n (M := mX10_countAt) dX10_countAt_1 rfl ?_
  refine ew_iload_n (M := mX10_countAt) dX10_countAt_2 rfl ?_
  refine ew_callV (M := mX10_countAt) dX10_countAt_3 vX10_140 (by repeat (first | with_reducible assumption | refine ex_eq ?_ | refine ex_ne ?_ (by omega) | exact ex_lt (by with_reducible assumption) | rw [List.length_set] | assumption)) rfl (ms_isDot_y hS hi hj) rfl (Nat.le_of_ble_eq_true rfl) ⟨Nat.le_refl _, Nat.le_refl _⟩ rfl (fun H3 r3 q3 => ?_)
  obtain ⟨rfl, rfl⟩ := q3
  refine ew_if_ne (M := mX10_countAt) (tgt := 24) dX10_countAt_6 rfl (fun _ => ?_) (fun h => absurd h (by decide))
  refine ew_aload_n (M := mX10_countAt) dX10_countAt_24 rfl (Or.inr (Or.inl ⟨_, rfl⟩)) ?_
  refine ew_iload_n (M := mX10_countAt) dX10_countAt_25 rfl ?_
  refine ew_iload_n (M := mX10_countAt) dX10_countAt_26 rfl ?_
  refine ew_callV (M := mX10_countAt) dX10_countAt_27 vX10_62 (by repeat (first | with_reducible assumption | refine ex_eq ?_ | refine ex_ne ?_ (by omega) | exact ex_lt (by with_reducible assumption) | rw [List.length_set] | assumption)) rfl (ms_isMasked hS hi hj) rfl (Nat.le_of_ble_eq_true rfl) ⟨Nat.le_refl _, Nat.le_refl _⟩ rfl (fun H27 r27 q27 => ?_)
  obtain ⟨rfl, rfl⟩ := q27
  refine ew_if_ne (M := mX10_countAt) (tgt := 76) dX10_countAt_30 rfl (fun c30 => ?_) (fun c30 => ?_)
  · rw [nI_z (by omega)] at c30
    rw [if_neg c30]
    refine ew_vret (M := mX10_countAt) dX10_countAt_76 rfl (Nat.le_refl _) (Nat.le_refl _) ?_
    exact ⟨rfl, ex_ch.rf, n, C, hS, hs, by omega⟩
  · rw [nI_z (by omega)] at c30
    rw [if_pos c30]
    refine ew_iload (M := mX10_countAt) dX10_countAt_33 rfl ?_
    refine ew_if_eq (M := mX10_countAt) (tgt := 47) dX10_countAt_35 rfl (fun h => absurd h (by decide)) (fun _ => ?_)
    refine ew_aload_n (M := mX10_countAt) dX10_countAt_38 rfl (Or.inr (Or.inl ⟨_, rfl⟩)) ?_
    refine ew_iload_n (M := mX10_countAt) dX10_countAt_39 rfl ?_
    refine ew_iconst (M := mX10_countAt) dX10_countAt_40 (v := nI 4) (by decide) ?_
    refine ew_callV (M := mX10_countAt) dX10_countAt_41 vX10_143 (by repeat (first | with_reducible assumption | refine ex_eq ?_ | refine ex_ne ?_ (by omega) | exact ex_lt (by with_reducible assumption) | rw [List.length_set] | assumption)) rfl (ms_part4 hS hf) rfl (Nat.le_of_ble_eq_true rfl) ⟨Nat.le_refl _, Nat.le_refl _⟩ rfl (fun H41 r41 q41 => ?_)
    obtain ⟨rfl, rfl⟩ := q41
    refine ew_goto (M := mX10_countAt) (tgt := 48) dX10_countAt_44 rfl ?_
    refine ew_istore (M := mX10_countAt) dX10_countAt_48 (by decide) rfl ?_
    refine ew_iconst (M := mX10_countAt) dX10_countAt_50 (v := nI 0) (by decide) ?_
    refine ew_istore (M := mX10_countAt) dX10_countAt_51 (by decide) rfl ?_
    refine ew_ls [(0, .ref 86), (1, .int (nI f)), (2, .int (nI i)), (3, .int (nI j)), (5, .int (nI (S.2.2.1.2.1.2 f).2.2.2.2)), (6, .int (nI 0))] ⟨rfl, rfl, rfl, rfl, rfl, rfl, trivial⟩ ?_
    refine ew_post (M := mX10_countAt) (fun H' r q => ?_) (ms_cntLoop (d := d + 1) hS hs hi hj (by omega))
    obtain ⟨q1, q2, C2, q3, q4⟩ := q
    exact ⟨q1, q2, _, C2, q3, q4, by omega⟩
theorem pi_no {w h a ac b dn : Nat} (ha : a < 18) (hac : ac < 5) (hb : b < 18) (hdn : dn < 5) (hw : w ≤ 10) (hh : h ≤ 8) (hout : ¬ ((ac ≤ a ∧ a < w + ac) ∧ (dn ≤ b ∧ b < h + dn))) : ¬ pi_in w h (nI a - nI ac) (nI b - nI dn) := by
  rintro ⟨i, j, e1, hi, e2, hj⟩
  have f : ∀ a c k, a < 18 → c < 5 → k < 10 → nI a - nI c = nI k → a = k + c := fun a c k h1 h2 h3 e => by
    have : nI a = nI (k + c) := by rw [← nI_add, ← e, Int32.sub_add_cancel]
    exact (nI_eq (by omega) (by omega)).mp this
  have g1 := f a ac i ha hac (by omega) e1
  have g2 := f b dn j hb hdn (by omega) e2
  exact hout ⟨⟨by omega, by omega⟩, by omega, by omega⟩
theorem sf_in {bo n a c : Nat} (h : c ≤ a ∧ a < n + c) : sf bo n a c = some (a - c) := by
  unfold sf
  rw [if_pos h]
theorem ms_countAt_o {d : Nat} {H : ex_H} {S : SS} {R : Int32 × Int32 × Int32 × Int32} {C N : Nat → Int32} {n : Nat} {c : Nat → Nat} (hS : mo_at H S R (nI n) C N) (hs : srt C n c) (hn : n < 96) {f a b : Nat} (hf : f < S.2.2.1.2.1.1) (ha : a < 18) (hb : b < 18) : ex_Met mX10_countAt (d + 3) 0 0 H [.ref 86, .int (nI f), .int (nI a - nI (S.2.2.1.2.1.2 f).1), .int (nI b - nI (S.2.2.1.2.1.2 f).2.1), .int (nI 0)] (fun H' r => r = none ∧ ex_ch H H' [86, 96] ∧ ∃ n' C', mo_at H' S R (nI n') C' N ∧ srt C' n' (pl S.2.2.1.1.1 S.2.2.1.1.2.2.1 S.2.2.1.1.2.2.2 (S.2.2.1.2.1.2 f).2.2.2.1 S.2.2.1.2.2.1 c (sf (S.2.2.1.2.1.2 f).2.2.2.1 S.2.2.1.1.2.1 b (S.2.2.1.2.1.2 f).2.1) (sf (S.2.2.1.2.1.2 f).2.2.2.1 S.2.2.1.1.1 a (S.2.2.1.2.1.2 f).1)) ∧ n' ≤ n + 1) := by
  obtain ⟨a1, ⟨hfi, hsd, hkp⟩, ⟨W, a2, hw0, ⟨hcn, hwh⟩, hwi⟩, ⟨T, a3, htn, htx⟩, ⟨F, a4, hfl⟩, ⟨IF, IL, IS, a5, a6, a7, him⟩, ⟨BX, BY, BG, a8, a9, a10, hbn, hbk⟩, a11, a12⟩ := id hS
  obtain ⟨⟨⟨hz1, hz2, hz3, hz4⟩, hgm⟩, hW0, hW1, hWd⟩ := id hw0
  obtain ⟨f1, f2, f3, f4, f5, f6⟩ := (hfl.2.2 f hf).2
  change (S.2.2.1.2.1.2 f).1 ≤ 4 at f1
  change (S.2.2.1.2.1.2 f).2.1 ≤ 4 at f2
  change (S.2.2.1.2.1.2 f).2.2.2.1 ≤ 4 at f4
  by_cases hin : ((S.2.2.1.2.1.2 f).1 ≤ a ∧ a < S.2.2.1.1.1 + (S.2.2.1.2.1.2 f).1) ∧ ((S.2.2.1.2.1.2 f).2.1 ≤ b ∧ b < S.2.2.1.1.2.1 + (S.2.2.1.2.1.2 f).2.1)
  · have hi : a - (S.2.2.1.2.1.2 f).1 < S.2.2.1.1.1 := by omega
    have hj : b - (S.2.2.1.2.1.2 f).2.1 < S.2.2.1.1.2.1 := by omega
    rw [sf_in hin.1, sf_in hin.2, nI_sb hin.1.1, nI_sb hin.2.1]
    generalize a - (S.2.2.1.2.1.2 f).1 = i at hi ⊢
    generalize b - (S.2.2.1.2.1.2 f).2.1 = j at hj ⊢
    have hg := hgm _ (pi_lt hi hj)
    have hpl : pl S.2.2.1.1.1 S.2.2.1.1.2.2.1 S.2.2.1.1.2.2.2 (S.2.2.1.2.1.2 f).2.2.2.1 S.2.2.1.2.2.1 c (some j) (some i) = if S.2.2.1.1.2.2.2 (j * S.2.2.1.1.1 + i) = 0 then ca c (S.2.2.1.1.2.2.1 (j * S.2.2.1.1.1 + i)) 1 else c := rfl
    rw [hpl]
    refine ex_meth [(0, .ref 86), (1, .int (nI f)), (2, .int (nI i)), (3, .int (nI j)), (4, .int (nI 0))] rfl rfl rfl (fun b => Nat.le_of_ble_eq_true rfl) ?_
    refine ew_aload_n (M := mX10_countAt) dX10_countAt_0 rfl (Or.inr (Or.inl ⟨_, rfl⟩)) ?_
    refine ew_iload_n (M := mX10_countAt) dX10_countAt_1 rfl ?_
    refine ew_iload_n (M := mX10_countAt) dX10_countAt_2 rfl ?_
    refine ew_callV (M := mX10_countAt) dX10_countAt_3 vX10_140 (by repeat (first | with_reducible assumption | refine ex_eq ?_ | refine ex_ne ?_ (by omega) | exact ex_lt (by with_reducible assumption) | rw [List.length_set] | assumption)) rfl (ms_isDot_y hS hi hj) rfl (Nat.le_of_ble_eq_true rfl) ⟨Nat.le_refl _, Nat.le_refl _⟩ rfl (fun H3 r3 q3 => ?_)
    obtain ⟨rfl, rfl⟩ := q3
    refine ew_if_ne (M := mX10_countAt) (tgt := 24) dX10_countAt_6 rfl (fun _ => ?_) (fun h => absurd h (by decide))
    refine ew_aload_n (M := mX10_countAt) dX10_countAt_24 rfl (Or.inr (Or.inl ⟨_, rfl⟩)) ?_
    refine ew_iload_n (M := mX10_countAt) dX10_countAt_25 rfl ?_
    refine ew_iload_n (M := mX10_countAt) dX10_countAt_26 rfl ?_
    refine ew_callV (M := mX10_countAt) dX10_countAt_27 vX10_62 (by repeat (first | with_reducible assumption | refine ex_eq ?_ | refine ex_ne ?_ (by omega) | exact ex_lt (by with_reducible assumption) | rw [List.length_set] | assumption)) rfl (ms_isMasked hS hi hj) rfl (Nat.le_of_ble_eq_true rfl) ⟨Nat.le_refl _, Nat.le_refl _⟩ rfl (fun H27 r27 q27 => ?_)
    obtain ⟨rfl, rfl⟩ := q27
    refine ew_if_ne (M := mX10_countAt) (tgt := 76) dX10_countAt_30 rfl (fun c30 => ?_) (fun c30 => ?_)
    · rw [nI_z (by omega)] at c30
      rw [if_neg c30]
      refine ew_vret (M := mX10_countAt) dX10_countAt_76 rfl (Nat.le_refl _) (Nat.le_refl _) ?_
      exact ⟨rfl, ex_ch.rf, n, C, hS, hs, by omega⟩
    · rw [nI_z (by omega)] at c30
      rw [if_pos c30]
      refine ew_iload (M := mX10_countAt) dX10_countAt_33 rfl ?_
      refine ew_if_eq (M := mX10_countAt) (tgt := 47) dX10_countAt_35 rfl (fun _ => ?_) (fun h => absurd (by decide) h)
      refine ew_iconst (M := mX10_countAt) dX10_countAt_47 (v := nI 1) (by decide) ?_
      refine ew_istore (M := mX10_countAt) dX10_countAt_48 (by decide) rfl ?_
      refine ew_iconst (M := mX10_countAt) dX10_countAt_50 (v := nI 0) (by decide) ?_
      refine ew_istore (M := mX10_countAt) dX10_countAt_51 (by decide) rfl ?_
      refine ew_ls [(0, .ref 86), (1, .int (nI f)), (2, .int (nI i)), (3, .int (nI j)), (5, .int (nI 1)), (6, .int (nI 0))] ⟨rfl, rfl, rfl, rfl, rfl, rfl, trivial⟩ ?_
      refine ew_post (M := mX10_countAt) (fun H' r q => ?_) (ms_cntLoop (d := d + 1) hS hs hi hj (by omega))
      obtain ⟨q1, q2, C2, q3, q4⟩ := q
      exact ⟨q1, q2, _, C2, q3, q4, by omega⟩
  · refine ex_meth [(0, .ref 86), (1, .int (nI f)), (2, .int (nI a - nI (S.2.2.1.2.1.2 f).1)), (3, .int (nI b - nI (S.2.2.1.2.1.2 f).2.1)), (4, .int (nI 0))] rfl rfl rfl (fun b => Nat.le_of_ble_eq_true rfl) ?_
    refine ew_aload_n (M := mX10_countAt) dX10_countAt_0 rfl (Or.inr (Or.inl ⟨_, rfl⟩)) ?_
    refine ew_iload_n (M := mX10_countAt) dX10_countAt_1 rfl ?_
    refine ew_iload_n (M := mX10_countAt) dX10_countAt_2 rfl ?_
    refine ew_callV (M := mX10_countAt) dX10_countAt_3 vX10_140 (by repeat (first | with_reducible assumption | refine ex_eq ?_ | refine ex_ne ?_ (by omega) | exact ex_lt (by with_reducible assumption) | rw [List.length_set] | assumption)) rfl (ms_isDot_n hS (pi_no ha (by omega) hb (by omega) hz2 hz4 hin)) rfl (Nat.le_of_ble_eq_true rfl) ⟨Nat.le_refl _, Nat.le_refl _⟩ rfl (fun H3 r3 q3 => ?_)
    obtain ⟨rfl, rfl⟩ := q3
    refine ew_if_ne (M := mX10_countAt) (tgt := 24) dX10_countAt_6 rfl (fun h => absurd (by decide) h) (fun _ => ?_)
    refine ew_aload_n (M := mX10_countAt) dX10_countAt_9 rfl (Or.inr (Or.inl ⟨_, rfl⟩)) ?_
    refine ew_aload_n (M := mX10_countAt) dX10_countAt_10 rfl (Or.inr (Or.inl ⟨_, rfl⟩)) ?_
    refine ew_iload_n (M := mX10_countAt) dX10_countAt_11 rfl ?_
    refine ew_iconst (M := mX10_countAt) dX10_countAt_12 (v := nI 3) (by decide) ?_
    refine ew_callV (M := mX10_countAt) dX10_countAt_13 vX10_143 (by repeat (first | with_reducible assumption | refine ex_eq ?_ | refine ex_ne ?_ (by omega) | exact ex_lt (by with_reducible assumption) | rw [List.length_set] | assumption)) rfl (ms_part3 hS hf) rfl (Nat.le_of_ble_eq_true rfl) ⟨Nat.le_refl _, Nat.le_refl _⟩ rfl (fun H13 r13 q13 => ?_)
    obtain ⟨rfl, rfl⟩ := q13
    refine ew_iload_n (M := mX10_countAt) dX10_countAt_16 rfl ?_
    refine ew_iload_n (M := mX10_countAt) dX10_countAt_17 rfl ?_
    refine ew_callV (M := mX10_countAt) dX10_countAt_18 vX10_146 (by repeat (first | with_reducible assumption | refine ex_eq ?_ | refine ex_ne ?_ (by omega) | exact ex_lt (by with_reducible assumption) | rw [List.length_set] | assumption)) rfl (ms_countOut hS hs hn f4 ha (by omega) hb (by omega) hin) rfl (Nat.le_of_ble_eq_true rfl) ⟨Nat.le_refl _, Nat.le_refl _⟩ rfl (fun H18 r18 q18 => ?_)
    obtain ⟨rfl, hc2, n2, C2, hS2, hs2, hn2⟩ := q18
    refine ew_goto (M := mX10_countAt) (tgt := 76) dX10_countAt_21 rfl ?_
    refine ew_vret (M := mX10_countAt) dX10_countAt_76 rfl (Nat.le_refl _) (Nat.le_refl _) ?_
    exact ⟨rfl, hc2, n2, C2, hS2, hs2, hn2⟩
