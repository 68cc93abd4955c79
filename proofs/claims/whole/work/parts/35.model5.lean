def cpW (W : Nat → Int32) (f t n : Nat) : Nat → Int32 := fun i => if t ≤ i ∧ i < t + n then W (f + (i - t)) else W i
theorem cpW_0 (W : Nat → Int32) (f t : Nat) : cpW W f t 0 = W := by
  funext i
  exact if_neg (by omega)
theorem cpW_s (W : Nat → Int32) {f t n : Nat} (h : f + n < t ∨ t + n ≤ f) : upd (cpW W f t n) (t + n) (cpW W f t n (f + n)) = cpW W f t (n + 1) := by
  funext i
  simp only [upd, cpW]
  by_cases e : i = t + n
  · subst e
    rw [if_pos rfl, if_neg (by omega), if_pos (by omega)]
    congr 1
    omega
  · rw [if_neg e]
    by_cases h : t ≤ i ∧ i < t + n
    · rw [if_pos h, if_pos (by omega)]
    · rw [if_neg h, if_neg (by omega)]
theorem ms_copyRow {d : Nat} {H : ex_H} {rest : List Value} {W : Nat → Int32} (a1 : H[86]? = some (ob 10 (.ref 87 :: rest))) (a2 : H[87]? = some (ar .int 1558 W)) {f t : Nat} (hf : f + 82 ≤ 1558) (ht : t + 82 ≤ 1558) (hft : f + 82 ≤ t ∨ t + 82 ≤ f) : ex_Met mX10_copyRow d 0 0 H [.ref 86, .int (nI f), .int (nI t)] (fun H' r => r = none ∧ ex_ch H H' [87] ∧ H'[87]? = some (ar .int 1558 (cpW W f t 82))) := by
  refine ex_meth [(0, .ref 86), (1, .int (nI f)), (2, .int (nI t))] rfl rfl rfl (fun b => Nat.le_of_ble_eq_true rfl) ?_
  refine ew_iconst (M := mX10_copyRow) dX10_copyRow_0 (v := nI 0) (by decide) ?_
  refine ew_istore_n (M := mX10_copyRow) dX10_copyRow_1 (by decide) rfl ?_
  refine ew_ls [(0, .ref 86), (1, .int (nI f)), (2, .int (nI t)), (3, .int (nI 0))] ⟨rfl, rfl, rfl, rfl, trivial⟩ ?_
  refine nat_down (P := fun n => ∀ H2 : ex_H, ex_ch H H2 [87] → H2[87]? = some (ar .int 1558 (cpW W f t n)) → ex_W mX10_copyRow d 0 0 _ H2 2 [(0, .ref 86), (1, .int (nI f)), (2, .int (nI t)), (3, .int (nI n))] [] 0 0) 82 (fun n hn k => ?_) ?_ H ex_ch.rf (by rw [cpW_0]; exact a2)
  · intro H2 hc2 b2
    have b1 := hc2.at a1 (by simp)
    refine ew_iload_n (M := mX10_copyRow) dX10_copyRow_2 rfl ?_
    refine ew_bipush (M := mX10_copyRow) dX10_copyRow_3 (v := nI 82) (by decide) ?_
    refine ew_icmp_ge (M := mX10_copyRow) (tgt := 30) dX10_copyRow_5 rfl (fun h => absurd h (nI_ge hn (by decide))) (fun _ => ?_)
    refine ew_aload_n (M := mX10_copyRow) dX10_copyRow_8 rfl (Or.inr (Or.inl ⟨_, rfl⟩)) ?_
    refine ew_get (M := mX10_copyRow) dX10_copyRow_9 fX10_7 (by repeat (first | with_reducible assumption | refine ex_eq ?_ | refine ex_ne ?_ (by omega) | exact ex_lt (by with_reducible assumption) | rw [List.length_set] | assumption)) (by rfl) ?_
    refine ew_iload_n (M := mX10_copyRow) dX10_copyRow_12 rfl ?_
    refine ew_iload_n (M := mX10_copyRow) dX10_copyRow_13 rfl ?_
    refine ew_iadd (M := mX10_copyRow) dX10_copyRow_14 ?_
    refine ew_aload_n (M := mX10_copyRow) dX10_copyRow_15 rfl (Or.inr (Or.inl ⟨_, rfl⟩)) ?_
    refine ew_get (M := mX10_copyRow) dX10_copyRow_16 fX10_7 (by repeat (first | with_reducible assumption | refine ex_eq ?_ | refine ex_ne ?_ (by omega) | exact ex_lt (by with_reducible assumption) | rw [List.length_set] | assumption)) (by rfl) ?_
    refine ew_iload_n (M := mX10_copyRow) dX10_copyRow_19 rfl ?_
    refine ew_iload_n (M := mX10_copyRow) dX10_copyRow_20 rfl ?_
    refine ew_iadd (M := mX10_copyRow) dX10_copyRow_21 ?_
    refine ew_iald (M := mX10_copyRow) (f + n) dX10_copyRow_22 (by repeat (first | with_reducible assumption | refine ex_eq ?_ | refine ex_ne ?_ (by omega) | exact ex_lt (by with_reducible assumption) | rw [List.length_set] | assumption)) ⟨by rw [nI_add], by omega, by decide⟩ ?_
    refine ew_iast (M := mX10_copyRow) (t + n) dX10_copyRow_23 (by repeat (first | with_reducible assumption | refine ex_eq ?_ | refine ex_ne ?_ (by omega) | exact ex_lt (by with_reducible assumption) | rw [List.length_set] | assumption)) ⟨by rw [nI_add], by omega, by decide⟩ ?_
    refine ew_iinc (M := mX10_copyRow) dX10_copyRow_24 rfl (ex_inc n) (by decide) rfl ?_
    refine ew_goto (M := mX10_copyRow) (tgt := 2) dX10_copyRow_27 rfl ?_
    refine ew_ls _ ?_ (k _ (hc2.set (by simp)) (by rw [← cpW_s W (by omega)]; exact ex_eq (ex_lt b2)))
    exact ⟨rfl, rfl, rfl, rfl, trivial⟩
  · intro H2 hc2 b2
    have b1 := hc2.at a1 (by simp)
    refine ew_iload_n (M := mX10_copyRow) dX10_copyRow_2 rfl ?_
    refine ew_bipush (M := mX10_copyRow) dX10_copyRow_3 (v := nI 82) (by decide) ?_
    refine ew_icmp_ge (M := mX10_copyRow) (tgt := 30) dX10_copyRow_5 rfl (fun _ => ?_) (fun h => absurd (nI_le (Nat.le_refl _) (by decide)) h)
    refine ew_vret (M := mX10_copyRow) dX10_copyRow_30 rfl (Nat.le_refl _) (Nat.le_refl _) ?_
    exact ⟨rfl, hc2, b2⟩
theorem mw.cg {W W' : Nat → Int32} {o o' : Nat} {P : PT} (h : mw W o P) (e : ∀ i, i < 82 → W' (o' + i) = W (o + i)) : mw W' o' P := by
  obtain ⟨h1, h2, h3, h4⟩ := h
  obtain ⟨z1, z2, z3, z4⟩ := h1.1
  refine ⟨h1, (e 0 (by decide)).trans h2, (e 1 (by decide)).trans h3, fun i j hi hj => ?_⟩
  exact (e _ (pl_80 z2 z4 hi hj)).trans (h4 i j hi hj)
theorem mww.cur {W W' : Nat → Int32} {P P' : PT} {cnt : Nat} {hs : Nat → PT} {kp : Nat → Nat} {im : Nat → ST} (h : mww W P cnt hs kp im) (e : ∀ i, 82 ≤ i → i < 1558 → W' i = W i) (h' : mw W' 0 P') : mww W' P' cnt hs kp im := by
  obtain ⟨h1, ⟨h2, h3⟩, h4⟩ := h
  exact ⟨h', ⟨h2, fun k hk => (h3 k hk).cg (fun i hi => e _ (by omega) (by omega))⟩, fun i hi hk => (h4 i hi hk).cg (fun q hq => e _ (by omega) (by omega))⟩
def rmW (W : Nat → Int32) (t : Nat) : Nat → Int32 := fun i => if 82 * (17 - t) ≤ i ∧ i < 1394 then W (i - 82) else W i
theorem rmW_0 (W : Nat → Int32) : rmW W 0 = W := by
  funext i
  exact if_neg (by omega)
theorem rmW_s (W : Nat → Int32) {t : Nat} (ht : t < 16) : cpW (rmW W t) (82 * (16 - t - 1)) (82 * (16 - t)) 82 = rmW W (t + 1) := by
  funext i
  simp only [cpW, rmW]
  by_cases e : 82 * (16 - t) ≤ i ∧ i < 82 * (16 - t) + 82
  · rw [if_pos e, if_neg (by omega), if_pos (by omega)]
    congr 1
    omega
  · rw [if_neg e]
    by_cases h : 82 * (17 - t) ≤ i ∧ i < 1394
    · rw [if_pos h, if_pos (by omega)]
    · rw [if_neg h, if_neg (by omega)]
theorem mww_rem {W : Nat → Int32} {P : PT} {cnt : Nat} {hs : Nat → PT} {kp : Nat → Nat} {im : Nat → ST} (h : mww W P cnt hs kp im) : mww (rmW W 16) P (hcnt cnt) (hpush cnt hs P) kp im := by
  obtain ⟨h1, ⟨h2, h3⟩, h4⟩ := h
  refine ⟨h1.cg (fun i hi => if_neg (by omega)), ⟨by unfold hcnt; split <;> omega, fun k hk => ?_⟩, fun i hi hk => (h4 i hi hk).cg (fun q hq => if_neg (by omega))⟩
  have hk16 : k < 16 := by unfold hcnt at hk; split at hk <;> omega
  have hc : ∀ o, 82 * (k + 1) = o + 82 → ∀ i, i < 82 → rmW W 16 (82 * (k + 1) + i) = W (o + i) := fun o ho i hi => by
    unfold rmW
    rw [if_pos (by omega)]
    congr 1
    omega
  rcases Nat.eq_zero_or_pos k with rfl | hk0
  · have e : hpush cnt hs P (hcnt cnt - 1 - 0) = P := by
      unfold hpush hcnt
      by_cases hc : cnt < 16
      · rw [if_pos hc, if_pos hc, if_pos (by omega)]
      · rw [if_neg hc, if_neg hc, if_pos rfl]
    rw [e]
    exact h1.cg (hc 0 (by omega))
  · have e : hpush cnt hs P (hcnt cnt - 1 - k) = hs (cnt - 1 - (k - 1)) := by
      unfold hpush
      unfold hcnt at hk ⊢
      by_cases hc : cnt < 16
      · rw [if_pos hc] at hk ⊢
        rw [if_pos hc, if_neg (by omega)]
        congr 1
        omega
      · rw [if_neg hc] at hk ⊢
        rw [if_neg hc, if_neg (by omega)]
        congr 1
        omega
    rw [e]
    refine (h3 (k - 1) (by unfold hcnt at hk; split at hk <;> omega)).cg (hc _ (by omega))
theorem ms_remember {d : Nat} {H : ex_H} {S : SS} {R : Int32 × Int32 × Int32 × Int32} {mn : Int32} {C N : Nat → Int32} (hS : mo_at H S R mn C N) : ex_Met mX10_remember (d + 1) 0 0 H [.ref 86] (fun H' r => r = none ∧ ex_ch H H' [86, 87] ∧ mo_at H' (s_rem S) R mn C N) := by
  obtain ⟨a1, ⟨hfi, hsd, hkp⟩, ⟨W, a2, hw0, ⟨hcn, hwh⟩, hwi⟩, ⟨T, a3, htn, htx⟩, ⟨F, a4, hfl⟩, ⟨IF, IL, IS, a5, a6, a7, him⟩, ⟨BX, BY, BG, a8, a9, a10, hbn, hbk⟩, a11, a12⟩ := id hS
  refine ex_meth [(0, .ref 86)] rfl rfl rfl (fun b => Nat.le_of_ble_eq_true rfl) ?_
  refine ew_bipush (M := mX10_remember) dX10_remember_0 (v := nI 16) (by decide) ?_
  refine ew_istore_n (M := mX10_remember) dX10_remember_2 (by decide) rfl ?_
  refine ew_ls [(0, .ref 86), (1, .int (nI (16 - 0)))] ⟨rfl, rfl, trivial⟩ ?_
  refine nat_down (P := fun t => ∀ H2 : ex_H, ex_ch H H2 [87] → H2[87]? = some (ar .int 1558 (rmW W t)) → ex_W mX10_remember (d + 1) 0 0 _ H2 3 [(0, .ref 86), (1, .int (nI (16 - t)))] [] 0 0) 16 (fun t ht k => ?_) ?_ H ex_ch.rf (by rw [rmW_0]; exact a2)
  · intro H2 hc2 b2
    have b1 := hc2.at a1 (by simp)
    refine ew_iload_n (M := mX10_remember) dX10_remember_3 rfl ?_
    refine ew_if_le (M := mX10_remember) (tgt := 27) dX10_remember_4 rfl (fun h => absurd h (nI_nle (by omega) (by omega))) (fun _ => ?_)
    refine ew_aload_n (M := mX10_remember) dX10_remember_7 rfl (Or.inr (Or.inl ⟨_, rfl⟩)) ?_
    refine ew_bipush (M := mX10_remember) dX10_remember_8 (v := nI 82) (by decide) ?_
    refine ew_iload_n (M := mX10_remember) dX10_remember_10 rfl ?_
    refine ew_iconst (M := mX10_remember) dX10_remember_11 (v := nI 1) (by decide) ?_
    refine ew_isub (M := mX10_remember) dX10_remember_12 ?_
    rw [nI_s1 (by omega)]
    refine ew_imul (M := mX10_remember) dX10_remember_13 ?_
    rw [pk_mul]
    refine ew_bipush (M := mX10_remember) dX10_remember_14 (v := nI 82) (by decide) ?_
    refine ew_iload_n (M := mX10_remember) dX10_remember_16 rfl ?_
    refine ew_imul (M := mX10_remember) dX10_remember_17 ?_
    rw [pk_mul]
    refine ew_callV (M := mX10_remember) dX10_remember_18 vX10_47 (by repeat (first | with_reducible assumption | refine ex_eq ?_ | refine ex_ne ?_ (by omega) | exact ex_lt (by with_reducible assumption) | rw [List.length_set] | assumption)) rfl (ms_copyRow b1 b2 (by omega) (by omega) (by omega)) rfl (Nat.le_of_ble_eq_true rfl) ⟨Nat.le_refl _, Nat.le_refl _⟩ rfl (fun H18 r18 q18 => ?_)
    obtain ⟨rfl, hc3, b3⟩ := q18
    rw [rmW_s W ht] at b3
    refine ew_iinc (M := mX10_remember) dX10_remember_21 rfl (show nI (16 - t) + Int32.ofInt (-1) = nI (16 - (t + 1)) from by rw [show 16 - t = 16 - (t + 1) + 1 by omega]; exact pk_m1 _) (by decide) rfl ?_
    refine ew_goto (M := mX10_remember) (tgt := 3) dX10_remember_24 rfl ?_
    refine ew_ls _ ?_ (k _ (hc2.tr hc3 (by simp)) b3)
    exact ⟨rfl, rfl, trivial⟩
  · intro H2 hc2 b2
    have b1 := hc2.at a1 (by simp)
    refine ew_iload_n (M := mX10_remember) dX10_remember_3 rfl ?_
    refine ew_if_le (M := mX10_remember) (tgt := 27) dX10_remember_4 rfl (fun _ => ?_) (fun h => absurd (by decide) h)
    refine ew_aload_n (M := mX10_remember) dX10_remember_27 rfl (Or.inr (Or.inl ⟨_, rfl⟩)) ?_
    refine ew_aload_n (M := mX10_remember) dX10_remember_28 rfl (Or.inr (Or.inl ⟨_, rfl⟩)) ?_
    refine ew_get (M := mX10_remember) dX10_remember_29 fX10_51 (by repeat (first | with_reducible assumption | refine ex_eq ?_ | refine ex_ne ?_ (by omega) | exact ex_lt (by with_reducible assumption) | rw [List.length_set] | assumption)) (by rfl) ?_
    refine ew_bipush (M := mX10_remember) dX10_remember_32 (v := nI 16) (by decide) ?_
    refine ew_icmp_ge (M := mX10_remember) (tgt := 46) dX10_remember_34 rfl (fun c34 => ?_) (fun c34 => ?_)
    · rw [nI_leI (by decide) (by omega)] at c34
      refine ew_bipush (M := mX10_remember) dX10_remember_46 (v := nI 16) (by decide) ?_
      refine ew_put (M := mX10_remember) dX10_remember_48 fX10_51 (by repeat (first | with_reducible assumption | refine ex_eq ?_ | refine ex_ne ?_ (by omega) | exact ex_lt (by with_reducible assumption) | rw [List.length_set] | assumption)) (by exact Nat.le_of_ble_eq_true rfl) ⟨rfl, rfl, fun _ h => by cases h⟩ ?_
      refine ew_vret (M := mX10_remember) dX10_remember_51 rfl (Nat.le_refl _) (Nat.le_refl _) ?_
      refine ⟨rfl, (hc2.sub (by simp)).set (by simp), ?_⟩
      have b3 := hc2.at a3 (by simp)
      have b4 := hc2.at a4 (by simp)
      have b5 := hc2.at a5 (by simp)
      have b6 := hc2.at a6 (by simp)
      have b7 := hc2.at a7 (by simp)
      have b8 := hc2.at a8 (by simp)
      have b9 := hc2.at a9 (by simp)
      have b10 := hc2.at a10 (by simp)
      have b11 := hc2.at a11 (by simp)
      have b12 := hc2.at a12 (by simp)
      exact ⟨(by rw [show (s_rem S).2.2.2.2.2.1.1 = 16 from (if_neg (by omega))]; exact ex_eq (ex_lt b1)), ⟨hfi, hsd, hkp⟩, ⟨rmW W 16, (by repeat (first | with_reducible assumption | refine ex_eq ?_ | refine ex_ne ?_ (by omega) | exact ex_lt (by with_reducible assumption) | rw [List.length_set] | assumption)), mww_rem ⟨hw0, ⟨hcn, hwh⟩, hwi⟩⟩, ⟨T, (by repeat (first | with_reducible assumption | refine ex_eq ?_ | refine ex_ne ?_ (by omega) | exact ex_lt (by with_reducible assumption) | rw [List.length_set] | assumption)), htn, htx⟩, ⟨F, (by repeat (first | with_reducible assumption | refine ex_eq ?_ | refine ex_ne ?_ (by omega) | exact ex_lt (by with_reducible assumption) | rw [List.length_set] | assumption)), hfl⟩, ⟨IF, IL, IS, (by repeat (first | with_reducible assumption | refine ex_eq ?_ | refine ex_ne ?_ (by omega) | exact ex_lt (by with_reducible assumption) | rw [List.length_set] | assumption)), (by repeat (first | with_reducible assumption | refine ex_eq ?_ | refine ex_ne ?_ (by omega) | exact ex_lt (by with_reducible assumption) | rw [List.length_set] | assumption)), (by repeat (first | with_reducible assumption | refine ex_eq ?_ | refine ex_ne ?_ (by omega) | exact ex_lt (by with_reducible assumption) | rw [List.length_set] | assumption)), him⟩, ⟨BX, BY, BG, (by repeat (first | with_reducible assumption | refine ex_eq ?_ | refine ex_ne ?_ (by omega) | exact ex_lt (by with_reducible assumption) | rw [List.length_set] | assumption)), (by repeat (first | with_reducible assumption | refine ex_eq ?_ | refine ex_ne ?_ (by omega) | exact ex_lt (by with_reducible assumption) | rw [List.length_set] | assumption)), (by repeat (first | with_reducible assumption | refine ex_eq ?_ | refine ex_ne ?_ (by omega) | exact ex_lt (by with_reducible assumption) | rw [List.length_set] | assumption)), hbn, hbk⟩, (by repeat (first | with_reducible assumption | refine ex_eq ?_ | refine ex_ne ?_ (by omega) | exact ex_lt (by with_reducible assumption) | rw [List.length_set] | assumption)), (by repeat (first | with_reducible assumption | refine ex_eq ?_ | refine ex_ne ?_ (by omega) | exact ex_lt (by with_reducible assumption) | rw [List.length_set] | assumption))⟩
    · rw [nI_leI (by decide) (by omega)] at c34
      refine ew_aload_n (M := mX10_remember) dX10_remember_37 rfl (Or.inr (Or.inl ⟨_, rfl⟩)) ?_
      refine ew_get (M := mX10_remember) dX10_remember_38 fX10_51 (by repeat (first | with_reducible assumption | refine ex_eq ?_ | refine ex_ne ?_ (by omega) | exact ex_lt (by with_reducible assumption) | rw [List.length_set] | assumption)) (by rfl) ?_
      refine ew_iconst (M := mX10_remember) dX10_remember_41 (v := nI 1) (by decide) ?_
      refine ew_iadd (M := mX10_remember) dX10_remember_42 ?_
      rw [nI_add]
      refine ew_goto (M := mX10_remember) (tgt := 48) dX10_remember_43 rfl ?_
      refine ew_put (M := mX10_remember) dX10_remember_48 fX10_51 (by repeat (first | with_reducible assumption | refine ex_eq ?_ | refine ex_ne ?_ (by omega) | exact ex_lt (by with_reducible assumption) | rw [List.length_set] | assumption)) (by exact Nat.le_of_ble_eq_true rfl) ⟨rfl, rfl, fun _ h => by cases h⟩ ?_
      refine ew_vret (M := mX10_remember) dX10_remember_51 rfl (Nat.le_refl _) (Nat.le_refl _) ?_
      refine ⟨rfl, (hc2.sub (by simp)).set (by simp), ?_⟩
      have b3 := hc2.at a3 (by simp)
      have b4 := hc2.at a4 (by simp)
      have b5 := hc2.at a5 (by simp)
      have b6 := hc2.at a6 (by simp)
      have b7 := hc2.at a7 (by simp)
      have b8 := hc2.at a8 (by simp)
      have b9 := hc2.at a9 (by simp)
      have b10 := hc2.at a10 (by simp)
      have b11 := hc2.at a11 (by simp)
      have b12 := hc2.at a12 (by simp)
      exact ⟨(by rw [show (s_rem S).2.2.2.2.2.1.1 = S.2.2.2.2.2.1.1 + 1 from (if_pos (by omega))]; exact ex_eq (ex_lt b1)), ⟨hfi, hsd, hkp⟩, ⟨rmW W 16, (by repeat (first | with_reducible assumption | refine ex_eq ?_ | refine ex_ne ?_ (by omega) | exact ex_lt (by with_reducible assumption) | rw [List.length_set] | assumption)), mww_rem ⟨hw0, ⟨hcn, hwh⟩, hwi⟩⟩, ⟨T, (by repeat (first | with_reducible assumption | refine ex_eq ?_ | refine ex_ne ?_ (by omega) | exact ex_lt (by with_reducible assumption) | rw [List.length_set] | assumption)), htn, htx⟩, ⟨F, (by repeat (first | with_reducible assumption | refine ex_eq ?_ | refine ex_ne ?_ (by omega) | exact ex_lt (by with_reducible assumption) | rw [List.length_set] | assumption)), hfl⟩, ⟨IF, IL, IS, (by repeat (first | with_reducible assumption | refine ex_eq ?_ | refine ex_ne ?_ (by omega) | exact ex_lt (by with_reducible assumption) | rw [List.length_set] | assumption)), (by repeat (first | with_reducible assumption | refine ex_eq ?_ | refine ex_ne ?_ (by omega) | exact ex_lt (by with_reducible assumption) | rw [List.length_set] | assumption)), (by repeat (first | with_reducible assumption | refine ex_eq ?_ | refine ex_ne ?_ (by omega) | exact ex_lt (by with_reducible assumption) | rw [List.length_set] | assumption)), him⟩, ⟨BX, BY, BG, (by repeat (first | with_reducible assumption | refine ex_eq ?_ | refine ex_ne ?_ (by omega) | exact ex_lt (by with_reducible assumption) | rw [List.length_set] | assumption)), (by repeat (first | with_reducible assumption | refine ex_eq ?_ | refine ex_ne ?_ (by omega) | exact ex_lt (by with_reducible assumption) | rw [List.length_set] | assumption)), (by repeat (first | with_reducible assumption | refine ex_eq ?_ | refine ex_ne ?_ (by omega) | exact ex_lt (by with_reducible assumption) | rw [List.length_set] | assumption)), hbn, hbk⟩, (by repeat (first | with_reducible assumption | refine ex_eq ?_ | refine ex_ne ?_ (by omega) | exact ex_lt (by with_reducible assumption) | rw [List.length_set] | assumption)), (by repeat (first | with_reducible assumption | refine ex_eq ?_ | refine ex_ne ?_ (by omega) | exact ex_lt (by with_reducible assumption) | rw [List.length_set] | assumption))⟩
theorem mw_put {W : Nat → Int32} {P : PT} (h : mw W 0 P) {i j v b : Nat} (hi : i < P.1) (hj : j < P.2.1) (hv : v < 256) (hb : b < 2) {g m : Nat → Nat} (hg : ∀ q, g q = if q = j * P.1 + i then v else P.2.2.1 q) (hm : ∀ q, m q = if q = j * P.1 + i then b else P.2.2.2 q) {X : Int32} (hX : X = nI (v + 256 * b)) : mw (upd W (2 + 10 * j + i) X) 0 (P.1, P.2.1, g, m) := by
  obtain ⟨h1, h2, h3, h4⟩ := h
  obtain ⟨z1, z2, z3, z4⟩ := h1.1
  refine ⟨⟨h1.1, fun k hk => ?_⟩, ?_, ?_, fun a b ha hb => ?_⟩
  · show g k < 256 ∧ m k < 2
    rw [hg, hm]
    have := h1.2 k hk
    split <;> omega
  · show (if 0 = 2 + 10 * j + i then X else W 0) = _
    rw [if_neg (by omega)]
    exact h2
  · show (if 0 + 1 = 2 + 10 * j + i then X else W (0 + 1)) = _
    rw [if_neg (by omega)]
    exact h3
  · have ha : a < P.1 := ha
    have hb : b < P.2.1 := hb
    show (if 0 + (2 + 10 * b + a) = 2 + 10 * j + i then X else W (0 + (2 + 10 * b + a))) = nI (g (b * P.1 + a) + 256 * m (b * P.1 + a))
    rw [hg, hm]
    by_cases e : a = i ∧ b = j
    · obtain ⟨rfl, rfl⟩ := e
      rw [if_pos (by omega), if_pos rfl, if_pos rfl, hX]
    · have ne : ¬ b * P.1 + a = j * P.1 + i := fun q => by
        have e1 := tu_at (w := P.1) (i := a) (j := b) ha
        have e2 := tu_at (w := P.1) (i := i) (j := j) hi
        rw [q] at e1
        omega
      rw [if_neg (by omega), if_neg ne, if_neg ne]
      exact h4 a b ha hb
theorem ms_setGrey {d : Nat} {H : ex_H} {S : SS} {R : Int32 × Int32 × Int32 × Int32} {mn : Int32} {C N : Nat → Int32} (hS : mo_at H S R mn C N) {i j v : Nat} (hi : i < S.2.2.1.1.1) (hj : j < S.2.2.1.1.2.1) (hv : v < 256) : ex_Met mX10_setGrey (d + 2) 0 0 H [.ref 86, .int (nI i), .int (nI j), .int (nI v)] (fun H' r => r = none ∧ ex_ch H H' [87] ∧ mo_at H' (s_pic S (S.2.2.1.1.1, S.2.2.1.1.2.1, va_up S.2.2.1.1.2.2.1 (j * S.2.2.1.1.1 + i) v, S.2.2.1.1.2.2.2)) R mn C N) := by
  obtain ⟨a1, ⟨hfi, hsd, hkp⟩, ⟨W, a2, hw0, ⟨hcn, hwh⟩, hwi⟩, ⟨T, a3, htn, htx⟩, ⟨F, a4, hfl⟩, ⟨IF, IL, IS, a5, a6, a7, him⟩, ⟨BX, BY, BG, a8, a9, a10, hbn, hbk⟩, a11, a12⟩ := id hS
  obtain ⟨⟨⟨hz1, hz2, hz3, hz4⟩, hgm⟩, hW0, hW1, hWd⟩ := id hw0
  have h82 := pl_80 hz2 hz4 hi hj
  have hg := hgm _ (pi_lt hi hj)
  refine ex_meth [(0, .ref 86), (1, .int (nI i)), (2, .int (nI j)), (3, .int (nI v))] rfl rfl rfl (fun b => Nat.le_of_ble_eq_true rfl) ?_
  refine ew_aload_n (M := mX10_setGrey) dX10_setGrey_0 rfl (Or.inr (Or.inl ⟨_, rfl⟩)) ?_
  refine ew_get (M := mX10_setGrey) dX10_setGrey_1 fX10_7 (by repeat (first | with_reducible assumption | refine ex_eq ?_ | refine ex_ne ?_ (by omega) | exact ex_lt (by with_reducible assumption) | rw [List.length_set] | assumption)) (by rfl) ?_
  refine ew_aload_n (M := mX10_setGrey) dX10_setGrey_4 rfl (Or.inr (Or.inl ⟨_, rfl⟩)) ?_
  refine ew_iload_n (M := mX10_setGrey) dX10_setGrey_5 rfl ?_
  refine ew_iload_n (M := mX10_setGrey) dX10_setGrey_6 rfl ?_
  refine ew_callV (M := mX10_setGrey) dX10_setGrey_7 vX10_54 (by repeat (first | with_reducible assumption | refine ex_eq ?_ | refine ex_ne ?_ (by omega) | exact ex_lt (by with_reducible assumption) | rw [List.length_set] | assumption)) rfl (ms_place) rfl (Nat.le_of_ble_eq_true rfl) ⟨Nat.le_refl _, Nat.le_refl _⟩ rfl (fun H7 r7 q7 => ?_)
  obtain ⟨rfl, rfl⟩ := q7
  refine ew_iload_n (M := mX10_setGrey) dX10_setGrey_10 rfl ?_
  refine ew_aload_n (M := mX10_setGrey) dX10_setGrey_11 rfl (Or.inr (Or.inl ⟨_, rfl⟩)) ?_
  refine ew_iload_n (M := mX10_setGrey) dX10_setGrey_12 rfl ?_
  refine ew_iload_n (M := mX10_setGrey) dX10_setGrey_13 rfl ?_
  refine ew_callV (M := mX10_setGrey) dX10_setGrey_14 vX10_62 (by repeat (first | with_reducible assumption | refine ex_eq ?_ | refine ex_ne ?_ (by omega) | exact ex_lt (by with_reducible assumption) | rw [List.length_set] | assumption)) rfl (ms_isMasked hS hi hj) rfl (Nat.le_of_ble_eq_true rfl) ⟨Nat.le_refl _, Nat.le_refl _⟩ rfl (fun H14 r14 q14 => ?_)
  obtain ⟨rfl, rfl⟩ := q14
  refine ew_if_eq (M := mX10_setGrey) (tgt := 26) dX10_setGrey_17 rfl (fun c17 => ?_) (fun c17 => ?_)
  · rw [nI_z (by omega)] at c17
    refine ew_iconst (M := mX10_setGrey) dX10_setGrey_26 (v := nI 0) (by decide) ?_
    refine ew_iadd (M := mX10_setGrey) dX10_setGrey_27 ?_
    rw [nI_add]
    refine ew_iast (M := mX10_setGrey) (2 + 10 * j + i) dX10_setGrey_28 (by repeat (first | with_reducible assumption | refine ex_eq ?_ | refine ex_ne ?_ (by omega) | exact ex_lt (by with_reducible assumption) | rw [List.length_set] | assumption)) ⟨rfl, by omega, by decide⟩ ?_
    refine ew_vret (M := mX10_setGrey) dX10_setGrey_29 rfl (Nat.le_refl _) (Nat.le_refl _) ?_
    refine ⟨rfl, ex_ch.rf.set (by simp), ?_⟩
    exact ⟨(by repeat (first | with_reducible assumption | refine ex_eq ?_ | refine ex_ne ?_ (by omega) | exact ex_lt (by with_reducible assumption) | rw [List.length_set] | assumption)), ⟨hfi, hsd, hkp⟩, ⟨_, (by repeat (first | with_reducible assumption | refine ex_eq ?_ | refine ex_ne ?_ (by omega) | exact ex_lt (by with_reducible assumption) | rw [List.length_set] | assumption)), mww.cur ⟨hw0, ⟨hcn, hwh⟩, hwi⟩ (fun q h1 h2 => if_neg (by omega)) (mw_put hw0 hi hj hv hg.2 (fun q => rfl) (fun q => by split <;> simp_all) (by congr 1; omega))⟩, ⟨T, (by repeat (first | with_reducible assumption | refine ex_eq ?_ | refine ex_ne ?_ (by omega) | exact ex_lt (by with_reducible assumption) | rw [List.length_set] | assumption)), htn, htx⟩, ⟨F, (by repeat (first | with_reducible assumption | refine ex_eq ?_ | refine ex_ne ?_ (by omega) | exact ex_lt (by with_reducible assumption) | rw [List.length_set] | assumption)), hfl⟩, ⟨IF, IL, IS, (by repeat (first | with_reducible assumption | refine ex_eq ?_ | refine ex_ne ?_ (by omega) | exact ex_lt (by with_reducible assumption) | rw [List.length_set] | assumption)), (by repeat (first | with_reducible assumption | refine ex_eq ?_ | refine ex_ne ?_ (by omega) | exact ex_lt (by with_reducible assumption) | rw [List.length_set] | assumption)), (by repeat (first | with_reducible assumption | refine ex_eq ?_ | refine ex_ne ?_ (by omega) | exact ex_lt (by with_reducible assumption) | rw [List.length_set] | assumption)), him⟩, ⟨BX, BY, BG, (by repeat (first | with_reducible assumption | refine ex_eq ?_ | refine ex_ne ?_ (by omega) | exact ex_lt (by with_reducible assumption) | rw [List.length_set] | assumption)), (by repeat (first | with_reducible assumption | refine ex_eq ?_ | refine ex_ne ?_ (by omega) | exact ex_lt (by with_reducible assumption) | rw [List.length_set] | assumption)), (by repeat (first | with_reducible assumption | refine ex_eq ?_ | refine ex_ne ?_ (by omega) | exact ex_lt (by with_reducible assumption) | rw [List.length_set] | assumption)), hbn, hbk⟩, (by repeat (first | with_reducible assumption | refine ex_eq ?_ | refine ex_ne ?_ (by omega) | exact ex_lt (by with_reducible assumption) | rw [List.length_set] | assumption)), (by repeat (first | with_reducible assumption | refine ex_eq ?_ | refine ex_ne ?_ (by omega) | exact ex_lt (by with_reducible assumption) | rw [List.length_set] | assumption))⟩
  · rw [nI_z (by omega)] at c17
    refine ew_sipush (M := mX10_setGrey) dX10_setGrey_20 (v := nI 256) (by decide) ?_
    refine ew_goto (M := mX10_setGrey) (tgt := 27) dX10_setGrey_23 rfl ?_
    refine ew_iadd (M := mX10_setGrey) dX10_setGrey_27 ?_
    rw [nI_add]
    refine ew_iast (M := mX10_setGrey) (2 + 10 * j + i) dX10_setGrey_28 (by repeat (first | with_reducible assumption | refine ex_eq ?_ | refine ex_ne ?_ (by omega) | exact ex_lt (by with_reducible assumption) | rw [List.length_set] | assumption)) ⟨rfl, by omega, by decide⟩ ?_
    refine ew_vret (M := mX10_setGrey) dX10_setGrey_29 rfl (Nat.le_refl _) (Nat.le_refl _) ?_
    refine ⟨rfl, ex_ch.rf.set (by simp), ?_⟩
    exact ⟨(by repeat (first | with_reducible assumption | refine ex_eq ?_ | refine ex_ne ?_ (by omega) | exact ex_lt (by with_reducible assumption) | rw [List.length_set] | assumption)), ⟨hfi, hsd, hkp⟩, ⟨_, (by repeat (first | with_reducible assumption | refine ex_eq ?_ | refine ex_ne ?_ (by omega) | exact ex_lt (by with_reducible assumption) | rw [List.length_set] | assumption)), mww.cur ⟨hw0, ⟨hcn, hwh⟩, hwi⟩ (fun q h1 h2 => if_neg (by omega)) (mw_put hw0 hi hj hv hg.2 (fun q => rfl) (fun q => by split <;> simp_all) (by congr 1; omega))⟩, ⟨T, (by repeat (first | with_reducible assumption | refine ex_eq ?_ | refine ex_ne ?_ (by omega) | exact ex_lt (by with_reducible assumption) | rw [List.length_set] | assumption)), htn, htx⟩, ⟨F, (by repeat (first | with_reducible assumption | refine ex_eq ?_ | refine ex_ne ?_ (by omega) | exact ex_lt (by with_reducible assumption) | rw [List.length_set] | assumption)), hfl⟩, ⟨IF, IL, IS, (by repeat (first | with_reducible assumption | refine ex_eq ?_ | refine ex_ne ?_ (by omega) | exact ex_lt (by with_reducible assumption) | rw [List.length_set] | assumption)), (by repeat (first | with_reducible assumption | refine ex_eq ?_ | refine ex_ne ?_ (by omega) | exact ex_lt (by with_reducible assumption) | rw [List.length_set] | assumption)), (by repeat (first | with_reducible assumption | refine ex_eq ?_ | refine ex_ne ?_ (by omega) | exact ex_lt (by with_reducible assumption) | rw [List.length_set] | assumption)), him⟩, ⟨BX, BY, BG, (by repeat (first | with_reducible assumption | refine ex_eq ?_ | refine ex_ne ?_ (by omega) | exact ex_lt (by with_reducible assumption) | rw [List.length_set] | assumption)), (by repeat (first | with_reducible assumption | refine ex_eq ?_ | refine ex_ne ?_ (by omega) | exact ex_lt (by with_reducible assumption) | rw [List.length_set] | assumption)), (by repeat (first | with_reducible assumption | refine ex_eq ?_ | refine ex_ne ?_ (by omega) | exact ex_lt (by with_reducible assumption) | rw [List.length_set] | assumption)), hbn, hbk⟩, (by repeat (first | with_reducible assumption | refine ex_eq ?_ | refine ex_ne ?_ (by omega) | exact ex_lt (by with_reducible assumption) | rw [List.length_set] | assumption)), (by repeat (first | with_reducible assumption | refine ex_eq ?_ | refine ex_ne ?_ (by omega) | exact ex_lt (by with_reducible assumption) | rw [List.length_set] | assumption))⟩
theorem ms_dot {d : Nat} {H : ex_H} {S : SS} (hS : mo_is H S) (x y g : Int32) : ex_Met mX10_dot (d + 3) 0 0 H [.ref 86, .int x, .int y, .int g] (fun H' r => r = some (.int (f_dot S x y g).1) ∧ ex_ch H H' mL ∧ mo_is H' (f_dot S x y g).2) := by
  obtain ⟨R, mn, C, N, hS⟩ := hS
  obtain ⟨a1, ⟨hfi, hsd, hkp⟩, ⟨W, a2, hw0, ⟨hcn, hwh⟩, hwi⟩, ⟨T, a3, htn, htx⟩, ⟨F, a4, hfl⟩, ⟨IF, IL, IS, a5, a6, a7, him⟩, ⟨BX, BY, BG, a8, a9, a10, hbn, hbk⟩, a11, a12⟩ := id hS
  obtain ⟨⟨⟨hz1, hz2, hz3, hz4⟩, hgm⟩, hW0, hW1, hWd⟩ := id hw0
  by_cases hx : pi_in S.2.2.1.1.1 S.2.2.1.1.2.1 x y
  · obtain ⟨i, j, rfl, hi, rfl, hj⟩ := id hx
    by_cases hg : nI 0 ≤ g ∧ g ≤ nI 255
    · obtain ⟨v, hv, rfl⟩ := nI_of3 (by decide) hg
      have ef : f_dot S (nI i) (nI j) (nI v) = (nI (S.2.2.1.1.2.2.1 (j * S.2.2.1.1.1 + i)), deed S (S.2.2.1.1.1, S.2.2.1.1.2.1, va_up S.2.2.1.1.2.2.1 (j * S.2.2.1.1.1 + i) v, S.2.2.1.1.2.2.2)) := by
        unfold f_dot
        rw [cif_y hx, cif_y hg, nI_clamp (by omega), nI_clamp (by omega), nI_clamp (by omega)]
      refine ex_meth [(0, .ref 86), (1, .int (nI i)), (2, .int (nI j)), (3, .int (nI v))] rfl rfl rfl (fun b => Nat.le_of_ble_eq_true rfl) ?_
      refine ew_aload_n (M := mX10_dot) dX10_dot_0 rfl (Or.inr (Or.inl ⟨_, rfl⟩)) ?_
      refine ew_iload_n (M := mX10_dot) dX10_dot_1 rfl ?_
      refine ew_iload_n (M := mX10_dot) dX10_dot_2 rfl ?_
      refine ew_callV (M := mX10_dot) dX10_dot_3 vX10_140 (by repeat (first | with_reducible assumption | refine ex_eq ?_ | refine ex_ne ?_ (by omega) | exact ex_lt (by with_reducible assumption) | rw [List.length_set] | assumption)) rfl (ms_isDot_y hS hi hj) rfl (Nat.le_of_ble_eq_true rfl) ⟨Nat.le_refl _, Nat.le_refl _⟩ rfl (fun H3 r3 q3 => ?_)
      obtain ⟨rfl, rfl⟩ := q3
      refine ew_if_ne (M := mX10_dot) (tgt := 12) dX10_dot_6 rfl (fun _ => ?_) (fun h => absurd h (by decide))
      refine ew_iload_n (M := mX10_dot) dX10_dot_12 rfl ?_
      refine ew_i2l (M := mX10_dot) dX10_dot_13 ?_
      refine ew_lconst (M := mX10_dot) dX10_dot_14 (v := 0) (by decide) ?_
      refine ew_ldc2 (M := mX10_dot) dX10_dot_15 kX10_108 ?_
      refine ew_callS (M := mX10_dot) dX10_dot_18 vX10_58 (ms_in_y (l := nI 0) (g := nI 255) (by decide) (by decide) hg.1 hg.2) rfl (Nat.le_of_ble_eq_true rfl) ⟨Nat.le_refl _, Nat.le_refl _⟩ rfl (fun H18 r18 q18 => ?_)
      obtain ⟨rfl, rfl⟩ := q18
      refine ew_if_ne (M := mX10_dot) (tgt := 27) dX10_dot_21 rfl (fun _ => ?_) (fun h => absurd h (by decide))
      refine ew_aload_n (M := mX10_dot) dX10_dot_27 rfl (Or.inr (Or.inl ⟨_, rfl⟩)) ?_
      refine ew_callV (M := mX10_dot) dX10_dot_28 vX10_115 (by repeat (first | with_reducible assumption | refine ex_eq ?_ | refine ex_ne ?_ (by omega) | exact ex_lt (by with_reducible assumption) | rw [List.length_set] | assumption)) rfl (ms_remember hS) rfl (Nat.le_of_ble_eq_true rfl) ⟨Nat.le_refl _, Nat.le_refl _⟩ rfl (fun H28 r28 q28 => ?_)
      obtain ⟨rfl, hc1, hS1⟩ := q28
      have k1 := hS1.1
      refine ew_aload_n (M := mX10_dot) dX10_dot_31 rfl (Or.inr (Or.inl ⟨_, rfl⟩)) ?_
      refine ew_iload_n (M := mX10_dot) dX10_dot_32 rfl ?_
      refine ew_iload_n (M := mX10_dot) dX10_dot_33 rfl ?_
      refine ew_callV (M := mX10_dot) dX10_dot_34 vX10_137 (by repeat (first | with_reducible assumption | refine ex_eq ?_ | refine ex_ne ?_ (by omega) | exact ex_lt (by with_reducible assumption) | rw [List.length_set] | assumption)) rfl (ms_grey hS1 hi hj) rfl (Nat.le_of_ble_eq_true rfl) ⟨Nat.le_refl _, Nat.le_refl _⟩ rfl (fun H34 r34 q34 => ?_)
      obtain ⟨rfl, rfl⟩ := q34
      refine ew_istore (M := mX10_dot) dX10_dot_37 (by decide) rfl ?_
      refine ew_aload_n (M := mX10_dot) dX10_dot_39 rfl (Or.inr (Or.inl ⟨_, rfl⟩)) ?_
      refine ew_iload_n (M := mX10_dot) dX10_dot_40 rfl ?_
      refine ew_iload_n (M := mX10_dot) dX10_dot_41 rfl ?_
      refine ew_iload_n (M := mX10_dot) dX10_dot_42 rfl ?_
      refine ew_callV (M := mX10_dot) dX10_dot_43 vX10_160 (by repeat (first | with_reducible assumption | refine ex_eq ?_ | refine ex_ne ?_ (by omega) | exact ex_lt (by with_reducible assumption) | rw [List.length_set] | assumption)) rfl (ms_setGrey hS1 hi hj (by omega)) rfl (Nat.le_of_ble_eq_true rfl) ⟨Nat.le_refl _, Nat.le_refl _⟩ rfl (fun H43 r43 q43 => ?_)
      obtain ⟨rfl, hc2, hS2⟩ := q43
      refine ew_iload (M := mX10_dot) dX10_dot_46 rfl ?_
      refine ew_iret (M := mX10_dot) dX10_dot_48 rfl (by first | rfl | decide) (Nat.le_refl _) (Nat.le_refl _) ?_
      refine ⟨by rw [ef]; rfl, (hc1.tr hc2 (by simp)).sub (mL_sub (by decide)), ?_⟩
      rw [ef]
      exact ⟨R, mn, C, N, hS2⟩
    · have ef : f_dot S (nI i) (nI j) g = (-1000000002, S) := by
        unfold f_dot
        rw [cif_y hx, cif_n hg]
      refine ex_meth [(0, .ref 86), (1, .int (nI i)), (2, .int (nI j)), (3, .int g)] rfl rfl rfl (fun b => Nat.le_of_ble_eq_true rfl) ?_
      refine ew_aload_n (M := mX10_dot) dX10_dot_0 rfl (Or.inr (Or.inl ⟨_, rfl⟩)) ?_
      refine ew_iload_n (M := mX10_dot) dX10_dot_1 rfl ?_
      refine ew_iload_n (M := mX10_dot) dX10_dot_2 rfl ?_
      refine ew_callV (M := mX10_dot) dX10_dot_3 vX10_140 (by repeat (first | with_reducible assumption | refine ex_eq ?_ | refine ex_ne ?_ (by omega) | exact ex_lt (by with_reducible assumption) | rw [List.length_set] | assumption)) rfl (ms_isDot_y hS hi hj) rfl (Nat.le_of_ble_eq_true rfl) ⟨Nat.le_refl _, Nat.le_refl _⟩ rfl (fun H3 r3 q3 => ?_)
      obtain ⟨rfl, rfl⟩ := q3
      refine ew_if_ne (M := mX10_dot) (tgt := 12) dX10_dot_6 rfl (fun _ => ?_) (fun h => absurd h (by decide))
      refine ew_iload_n (M := mX10_dot) dX10_dot_12 rfl ?_
      refine ew_i2l (M := mX10_dot) dX10_dot_13 ?_
      refine ew_lconst (M := mX10_dot) dX10_dot_14 (v := 0) (by decide) ?_
      refine ew_ldc2 (M := mX10_dot) dX10_dot_15 kX10_108 ?_
      refine ew_callS (M := mX10_dot) dX10_dot_18 vX10_58 (ms_in_n (l := nI 0) (g := nI 255) (by decide) (by decide) hg) rfl (Nat.le_of_ble_eq_true rfl) ⟨Nat.le_refl _, Nat.le_refl _⟩ rfl (fun H18 r18 q18 => ?_)
      obtain ⟨rfl, rfl⟩ := q18
      refine ew_if_ne (M := mX10_dot) (tgt := 27) dX10_dot_21 rfl (fun h => absurd (by decide) h) (fun _ => ?_)
      refine ew_ldc (M := mX10_dot) dX10_dot_24 kX10_110 ?_
      refine ew_iret (M := mX10_dot) dX10_dot_26 rfl (by first | rfl | decide) (Nat.le_refl _) (Nat.le_refl _) ?_
      exact ⟨by rw [ef], ex_ch.rf, by rw [ef]; exact ⟨_, _, _, _, hS⟩⟩
  · have ef : f_dot S x y g = (-1000000001, S) := by
      unfold f_dot
      rw [cif_n hx]
    refine ex_meth [(0, .ref 86), (1, .int x), (2, .int y), (3, .int g)] rfl rfl rfl (fun b => Nat.le_of_ble_eq_true rfl) ?_
    refine ew_aload_n (M := mX10_dot) dX10_dot_0 rfl (Or.inr (Or.inl ⟨_, rfl⟩)) ?_
    refine ew_iload_n (M := mX10_dot) dX10_dot_1 rfl ?_
    refine ew_iload_n (M := mX10_dot) dX10_dot_2 rfl ?_
    refine ew_callV (M := mX10_dot) dX10_dot_3 vX10_140 (by repeat (first | with_reducible assumption | refine ex_eq ?_ | refine ex_ne ?_ (by omega) | exact ex_lt (by with_reducible assumption) | rw [List.length_set] | assumption)) rfl (ms_isDot_n hS hx) rfl (Nat.le_of_ble_eq_true rfl) ⟨Nat.le_refl _, Nat.le_refl _⟩ rfl (fun H3 r3 q3 => ?_)
    obtain ⟨rfl, rfl⟩ := q3
    refine ew_if_ne (M := mX10_dot) (tgt := 12) dX10_dot_6 rfl (fun h => absurd (by decide) h) (fun _ => ?_)
    refine ew_ldc (M := mX10_dot) dX10_dot_9 kX10_175 ?_
    refine ew_iret (M := mX10_dot) dX10_dot_11 rfl (by first | rfl | decide) (Nat.le_refl _) (Nat.le_refl _) ?_
    exact ⟨by rw [ef], ex_ch.rf, by rw [ef]; exact ⟨_, _, _, _, hS⟩⟩
theorem ms_mask {d : Nat} {H : ex_H} {S : SS} (hS : mo_is H S) (x y : Int32) {b : Nat} (hb : b < 2) : ex_Met mX10_mask (d + 3) 0 0 H [.ref 86, .int x, .int y, .int (nI b)] (fun H' r => r = some (.int (f_mask S x y b).1) ∧ ex_ch H H' mL ∧ mo_is H' (f_mask S x y b).2) := by
  obtain ⟨R, mn, C, N, hS⟩ := hS
  obtain ⟨a1, ⟨hfi, hsd, hkp⟩, ⟨W, a2, hw0, ⟨hcn, hwh⟩, hwi⟩, ⟨T, a3, htn, htx⟩, ⟨F, a4, hfl⟩, ⟨IF, IL, IS, a5, a6, a7, him⟩, ⟨BX, BY, BG, a8, a9, a10, hbn, hbk⟩, a11, a12⟩ := id hS
  obtain ⟨⟨⟨hz1, hz2, hz3, hz4⟩, hgm⟩, hW0, hW1, hWd⟩ := id hw0
  by_cases hx : pi_in S.2.2.1.1.1 S.2.2.1.1.2.1 x y
  · obtain ⟨i, j, rfl, hi, rfl, hj⟩ := id hx
    have ef : f_mask S (nI i) (nI j) b = (nI (pm_masked S.2.2.1.1.1 S.2.2.1.1.2.1 (va_up S.2.2.1.1.2.2.2 (j * S.2.2.1.1.1 + i) b)), deed S (S.2.2.1.1.1, S.2.2.1.1.2.1, S.2.2.1.1.2.2.1, va_up S.2.2.1.1.2.2.2 (j * S.2.2.1.1.1 + i) b)) := by
      unfold f_mask
      rw [cif_y hx, nI_clamp (by omega), nI_clamp (by omega)]
    have h82 := pl_80 hz2 hz4 hi hj
    have hg := hgm _ (pi_lt hi hj)
    refine ex_meth [(0, .ref 86), (1, .int (nI i)), (2, .int (nI j)), (3, .int (nI b))] rfl rfl rfl (fun b => Nat.le_of_ble_eq_true rfl) ?_
    refine ew_aload_n (M := mX10_mask) dX10_mask_0 rfl (Or.inr (Or.inl ⟨_, rfl⟩)) ?_
    refine ew_iload_n (M := mX10_mask) dX10_mask_1 rfl ?_
    refine ew_iload_n (M := mX10_mask) dX10_mask_2 rfl ?_
    refine ew_callV (M := mX10_mask) dX10_mask_3 vX10_140 (by repeat (first | with_reducible assumption | refine ex_eq ?_ | refine ex_ne ?_ (by omega) | exact ex_lt (by with_reducible assumption) | rw [List.length_set] | assumption)) rfl (ms_isDot_y hS hi hj) rfl (Nat.le_of_ble_eq_true rfl) ⟨Nat.le_refl _, Nat.le_refl _⟩ rfl (fun H3 r3 q3 => ?_)
    obtain ⟨rfl, rfl⟩ := q3
    refine ew_if_ne (M := mX10_mask) (tgt := 12) dX10_mask_6 rfl (fun _ => ?_) (fun h => absurd h (by decide))
    refine ew_aload_n (M := mX10_mask) dX10_mask_12 rfl (Or.inr (Or.inl ⟨_, rfl⟩)) ?_
    refine ew_callV (M := mX10_mask) dX10_mask_13 vX10_115 (by repeat (first | with_reducible assumption | refine ex_eq ?_ | refine ex_ne ?_ (by omega) | exact ex_lt (by with_reducible assumption) | rw [List.length_set] | assumption)) rfl (ms_remember hS) rfl (Nat.le_of_ble_eq_true rfl) ⟨Nat.le_refl _, Nat.le_refl _⟩ rfl (fun H13 r13 q13 => ?_)
    obtain ⟨rfl, hc1, hS1⟩ := q13
    obtain ⟨k1, ⟨vfi, vsd, vkp⟩, ⟨W1, k2, vw0, ⟨vcn, vwh⟩, vwi⟩, ⟨T1, k3, vtn, vtx⟩, ⟨F1, k4, vfl⟩, ⟨IF1, IL1, IS1, k5, k6, k7, vim⟩, ⟨BX1, BY1, BG1, k8, k9, k10, vbn, vbk⟩, k11, k12⟩ := id hS1
    refine ew_aload_n (M := mX10_mask) dX10_mask_16 rfl (Or.inr (Or.inl ⟨_, rfl⟩)) ?_
    refine ew_get (M := mX10_mask) dX10_mask_17 fX10_7 (by repeat (first | with_reducible assumption | refine ex_eq ?_ | refine ex_ne ?_ (by omega) | exact ex_lt (by with_reducible assumption) | rw [List.length_set] | assumption)) (by rfl) ?_
    refine ew_aload_n (M := mX10_mask) dX10_mask_20 rfl (Or.inr (Or.inl ⟨_, rfl⟩)) ?_
    refine ew_iload_n (M := mX10_mask) dX10_mask_21 rfl ?_
    refine ew_iload_n (M := mX10_mask) dX10_mask_22 rfl ?_
    refine ew_callV (M := mX10_mask) dX10_mask_23 vX10_54 (by repeat (first | with_reducible assumption | refine ex_eq ?_ | refine ex_ne ?_ (by omega) | exact ex_lt (by with_reducible assumption) | rw [List.length_set] | assumption)) rfl (ms_place) rfl (Nat.le_of_ble_eq_true rfl) ⟨Nat.le_refl _, Nat.le_refl _⟩ rfl (fun H23 r23 q23 => ?_)
    obtain ⟨rfl, rfl⟩ := q23
    refine ew_aload_n (M := mX10_mask) dX10_mask_26 rfl (Or.inr (Or.inl ⟨_, rfl⟩)) ?_
    refine ew_iload_n (M := mX10_mask) dX10_mask_27 rfl ?_
    refine ew_iload_n (M := mX10_mask) dX10_mask_28 rfl ?_
    refine ew_callV (M := mX10_mask) dX10_mask_29 vX10_137 (by repeat (first | with_reducible assumption | refine ex_eq ?_ | refine ex_ne ?_ (by omega) | exact ex_lt (by with_reducible assumption) | rw [List.length_set] | assumption)) rfl (ms_grey hS1 hi hj) rfl (Nat.le_of_ble_eq_true rfl) ⟨Nat.le_refl _, Nat.le_refl _⟩ rfl (fun H29 r29 q29 => ?_)
    obtain ⟨rfl, rfl⟩ := q29
    refine ew_iload_n (M := mX10_mask) dX10_mask_32 rfl ?_
    refine ew_if_eq (M := mX10_mask) (tgt := 42) dX10_mask_33 rfl (fun c33 => ?_) (fun c33 => ?_)
    · rw [nI_z (by omega)] at c33
      refine ew_iconst (M := mX10_mask) dX10_mask_42 (v := nI 0) (by decide) ?_
      refine ew_iadd (M := mX10_mask) dX10_mask_43 ?_
      rw [nI_add]
      change ex_W _ _ _ _ _ _ _ _ (.int (nI (S.2.2.1.1.2.2.1 (j * S.2.2.1.1.1 + i) + 256 * 0)) :: _) _ _
      refine ew_iast (M := mX10_mask) (2 + 10 * j + i) dX10_mask_44 (by repeat (first | with_reducible assumption | refine ex_eq ?_ | refine ex_ne ?_ (by omega) | exact ex_lt (by with_reducible assumption) | rw [List.length_set] | assumption)) ⟨rfl, by omega, by decide⟩ ?_
      have hS2 : mo_at (H13.set 87 (ar .int 1558 (upd W1 (2 + 10 * j + i) (nI (S.2.2.1.1.2.2.1 (j * S.2.2.1.1.1 + i) + 256 * 0))))) (deed S (S.2.2.1.1.1, S.2.2.1.1.2.1, S.2.2.1.1.2.2.1, va_up S.2.2.1.1.2.2.2 (j * S.2.2.1.1.1 + i) b)) R mn C N := ⟨ex_ne k1 (by decide), ⟨vfi, vsd, vkp⟩, ⟨_, ex_eq (ex_lt k2), mww.cur ⟨vw0, ⟨vcn, vwh⟩, vwi⟩ (fun q h1 h2 => if_neg (by omega)) (mw_put vw0 hi hj hg.1 hb (g := S.2.2.1.1.2.2.1) (m := va_up S.2.2.1.1.2.2.2 (j * S.2.2.1.1.1 + i) b) (fun q => by show S.2.2.1.1.2.2.1 q = if q = j * S.2.2.1.1.1 + i then S.2.2.1.1.2.2.1 (j * S.2.2.1.1.1 + i) else S.2.2.1.1.2.2.1 q; split <;> simp_all) (fun q => rfl) (by rw [show b = 0 by omega]))⟩, ⟨T1, ex_ne k3 (by decide), vtn, vtx⟩, ⟨F1, ex_ne k4 (by decide), vfl⟩, ⟨IF1, IL1, IS1, ex_ne k5 (by decide), ex_ne k6 (by decide), ex_ne k7 (by decide), vim⟩, ⟨BX1, BY1, BG1, ex_ne k8 (by decide), ex_ne k9 (by decide), ex_ne k10 (by decide), vbn, vbk⟩, ex_ne k11 (by decide), ex_ne k12 (by decide)⟩
      have j1 := hS2.1
      refine ew_aload_n (M := mX10_mask) dX10_mask_45 rfl (Or.inr (Or.inl ⟨_, rfl⟩)) ?_
      refine ew_callV (M := mX10_mask) dX10_mask_46 vX10_166 (by repeat (first | with_reducible assumption | refine ex_eq ?_ | refine ex_ne ?_ (by omega) | exact ex_lt (by with_reducible assumption) | rw [List.length_set] | assumption)) rfl (ms_masked hS2) rfl (Nat.le_of_ble_eq_true rfl) ⟨Nat.le_refl _, Nat.le_refl _⟩ rfl (fun H46 r46 q46 => ?_)
      obtain ⟨rfl, rfl⟩ := q46
      refine ew_iret (M := mX10_mask) dX10_mask_49 rfl (by first | rfl | decide) (Nat.le_refl _) (Nat.le_refl _) ?_
      refine ⟨by rw [ef]; rfl, ((hc1.sub (mL_sub (by decide))).set (by decide)), ?_⟩
      rw [ef]
      exact ⟨R, mn, C, N, hS2⟩
    · rw [nI_z (by omega)] at c33
      refine ew_sipush (M := mX10_mask) dX10_mask_36 (v := nI 256) (by decide) ?_
      refine ew_goto (M := mX10_mask) (tgt := 43) dX10_mask_39 rfl ?_
      refine ew_iadd (M := mX10_mask) dX10_mask_43 ?_
      rw [nI_add]
      change ex_W _ _ _ _ _ _ _ _ (.int (nI (S.2.2.1.1.2.2.1 (j * S.2.2.1.1.1 + i) + 256 * 1)) :: _) _ _
      refine ew_iast (M := mX10_mask) (2 + 10 * j + i) dX10_mask_44 (by repeat (first | with_reducible assumption | refine ex_eq ?_ | refine ex_ne ?_ (by omega) | exact ex_lt (by with_reducible assumption) | rw [List.length_set] | assumption)) ⟨rfl, by omega, by decide⟩ ?_
      have hS2 : mo_at (H13.set 87 (ar .int 1558 (upd W1 (2 + 10 * j + i) (nI (S.2.2.1.1.2.2.1 (j * S.2.2.1.1.1 + i) + 256 * 1))))) (deed S (S.2.2.1.1.1, S.2.2.1.1.2.1, S.2.2.1.1.2.2.1, va_up S.2.2.1.1.2.2.2 (j * S.2.2.1.1.1 + i) b)) R mn C N := ⟨ex_ne k1 (by decide), ⟨vfi, vsd, vkp⟩, ⟨_, ex_eq (ex_lt k2), mww.cur ⟨vw0, ⟨vcn, vwh⟩, vwi⟩ (fun q h1 h2 => if_neg (by omega)) (mw_put vw0 hi hj hg.1 hb (g := S.2.2.1.1.2.2.1) (m := va_up S.2.2.1.1.2.2.2 (j * S.2.2.1.1.1 + i) b) (fun q => by show S.2.2.1.1.2.2.1 q = if q = j * S.2.2.1.1.1 + i then S.2.2.1.1.2.2.1 (j * S.2.2.1.1.1 + i) else S.2.2.1.1.2.2.1 q; split <;> simp_all) (fun q => rfl) (by rw [show b = 1 by omega]))⟩, ⟨T1, ex_ne k3 (by decide), vtn, vtx⟩, ⟨F1, ex_ne k4 (by decide), vfl⟩, ⟨IF1, IL1, IS1, ex_ne k5 (by decide), ex_ne k6 (by decide), ex_ne k7 (by decide), vim⟩, ⟨BX1, BY1, BG1, ex_ne k8 (by decide), ex_ne k9 (by decide), ex_ne k10 (by decide), vbn, vbk⟩, ex_ne k11 (by decide), ex_ne k12 (by decide)⟩
      have j1 := hS2.1
      refine ew_aload_n (M := mX10_mask) dX10_mask_45 rfl (Or.inr (Or.inl ⟨_, rfl⟩)) ?_
      refine ew_callV (M := mX10_mask) dX10_mask_46 vX10_166 (by repeat (first | with_reducible assumption | refine ex_eq ?_ | refine ex_ne ?_ (by omega) | exact ex_lt (by with_reducible assumption) | rw [List.length_set] | assumption)) rfl (ms_masked hS2) rfl (Nat.le_of_ble_eq_true rfl) ⟨Nat.le_refl _, Nat.le_refl _⟩ rfl (fun H46 r46 q46 => ?_)
      obtain ⟨rfl, rfl⟩ := q46
      refine ew_iret (M := mX10_mask) dX10_mask_49 rfl (by first | rfl | decide) (Nat.le_refl _) (Nat.le_refl _) ?_
      refine ⟨by rw [ef]; rfl, ((hc1.sub (mL_sub (by decide))).set (by decide)), ?_⟩
      rw [ef]
      exact ⟨R, mn, C, N, hS2⟩
  · have ef : f_mask S x y b = (-1000000001, S) := by
      unfold f_mask
      rw [cif_n hx]
    refine ex_meth [(0, .ref 86), (1, .int x), (2, .int y), (3, .int (nI b))] rfl rfl rfl (fun b => Nat.le_of_ble_eq_true rfl) ?_
    refine ew_aload_n (M := mX10_mask) dX10_mask_0 rfl (Or.inr (Or.inl ⟨_, rfl⟩)) ?_
    refine ew_iload_n (M := mX10_mask) dX10_mask_1 rfl ?_
    refine ew_iload_n (M := mX10_mask) dX10_mask_2 rfl ?_
    refine ew_callV (M := mX10_mask) dX10_mask_3 vX10_140 (by repeat (first | with_reducible assumption | refine ex_eq ?_ | refine ex_ne ?_ (by omega) | exact ex_lt (by with_reducible assumption) | rw [List.length_set] | assumption)) rfl (ms_isDot_n hS hx) rfl (Nat.le_of_ble_eq_true rfl) ⟨Nat.le_refl _, Nat.le_refl _⟩ rfl (fun H3 r3 q3 => ?_)
    obtain ⟨rfl, rfl⟩ := q3
    refine ew_if_ne (M := mX10_mask) (tgt := 12) dX10_mask_6 rfl (fun h => absurd (by decide) h) (fun _ => ?_)
    refine ew_ldc (M := mX10_mask) dX10_mask_9 kX10_175 ?_
    refine ew_iret (M := mX10_mask) dX10_mask_11 rfl (by first | rfl | decide) (Nat.le_refl _) (Nat.le_refl _) ?_
    exact ⟨by rw [ef], ex_ch.rf, by rw [ef]; exact ⟨_, _, _, _, hS⟩⟩
