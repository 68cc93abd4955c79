/-- so far laid: the rows that are ended, and the dots of the last -/
def lyI (D r c wd : Nat) (g m : Nat → Nat) (V W : Nat → Int32) : Prop := (∀ q, 82 ≤ q → W q = V q) ∧ (∀ k, k < D → g k < 256 ∧ m k < 2) ∧ ∀ i j, (j < r ∧ i < wd) ∨ (j = r ∧ i < c) → W (2 + 10 * j + i) = nI (g (j * wd + i) + 256 * m (j * wd + i))
theorem ly_D {D r c wd hf : Nat} (h : rd_ok D r c wd hf) (h0 : r = 0 → wd = 0) : D = r * wd + c ∧ wd ≤ 10 ∧ c ≤ 10 ∧ (0 < r → c ≤ wd) := by
  obtain ⟨h1, h2, h3, h4, h5, h6, h7⟩ := h
  rcases Nat.eq_zero_or_pos r with e | e
  · rw [if_pos e] at h7
    rw [h0 e]
    have : rdW r wd = 10 := if_pos e
    omega
  · rw [if_neg (by omega)] at h7
    have : rdW r wd = wd := if_neg (by omega)
    omega
theorem ly_brk {D r c wd hf : Nat} {g m : Nat → Nat} {V W : Nat → Int32} (h : rd_ok D r c wd hf) (h0 : r = 0 → wd = 0) (hb : brk r c wd hf = 0) (hI : lyI D r c wd g m V W) : lyI D (r + 1) 0 (rd_W r c wd) g m V W := by
  obtain ⟨e1, e2, e3, e4⟩ := ly_D h h0
  obtain ⟨i1, i2, i3⟩ := hI
  obtain ⟨b1, b2, b3, b4⟩ := brk_ok h hb
  refine ⟨i1, i2, fun i j hij => ?_⟩
  have hij' : j < r + 1 ∧ i < rd_W r c wd := by omega
  rcases Nat.eq_zero_or_pos r with e | e
  · have hj : j = 0 := by omega
    subst hj
    rw [Nat.zero_mul]
    have q := i3 i 0 (Or.inr ⟨e.symm, by omega⟩)
    rw [Nat.zero_mul] at q
    exact q
  · have ew : rd_W r c wd = wd := if_neg (by omega)
    rw [ew] at hij' b3 ⊢
    exact i3 i j (by omega)
theorem ly_dot {D r c wd hf : Nat} {g m : Nat → Nat} {V W : Nat → Int32} (h : rd_ok D r c wd hf) (h0 : r = 0 → wd = 0) (hI : lyI D r c wd g m V W) (hr : r ≤ 7) (hc : c < 10) {v b : Nat} (hv : v < 256) (hb : b < 2) {X : Int32} (hX : X = nI (v + 256 * b)) : lyI (D + 1) r (c + 1) wd (va_up g D v) (va_up m D b) V (upd W (2 + 10 * r + c) X) := by
  obtain ⟨e1, e2, e3, e4⟩ := ly_D h h0
  obtain ⟨i1, i2, i3⟩ := hI
  refine ⟨fun q hq => ?_, fun k hk => ?_, fun i j hij => ?_⟩
  · show (if q = 2 + 10 * r + c then X else W q) = V q
    rw [if_neg (by omega)]
    exact i1 q hq
  · show (if k = D then v else g k) < 256 ∧ (if k = D then b else m k) < 2
    by_cases e : k = D
    · rw [if_pos e, if_pos e]; exact ⟨hv, hb⟩
    · rw [if_neg e, if_neg e]; exact i2 k (by omega)
  · show (if 2 + 10 * j + i = 2 + 10 * r + c then X else W (2 + 10 * j + i)) = nI ((if j * wd + i = D then v else g (j * wd + i)) + 256 * (if j * wd + i = D then b else m (j * wd + i)))
    by_cases e : j = r ∧ i = c
    · obtain ⟨rfl, rfl⟩ := e
      rw [if_pos rfl, if_pos e1.symm, if_pos e1.symm, hX]
    · have ne : ¬ j * wd + i = D := by
        rcases hij with ⟨q1, q2⟩ | ⟨q1, q2⟩
        · have : (j + 1) * wd ≤ r * wd := Nat.mul_le_mul_right wd q1
          rw [Nat.succ_mul] at this
          omega
        · subst q1
          omega
      rw [if_neg (by omega), if_neg ne, if_neg ne]
      exact i3 i j (by omega)
theorem ly_end {D r c wd : Nat} {g m : Nat → Nat} {V W : Nat → Int32} (h : rd_ok D r c wd 0) (h0 : r = 0 → wd = 0) (hb : brk r c wd 0 = 0) (hI : lyI D r c wd g m V W) {X : Int32} (hX : X = nI (r + 1)) : c = rd_W r c wd ∧ mw (upd (upd W 0 (nI c)) 1 X) 0 (rd_W r c wd, r + 1, g, m) := by
  obtain ⟨e1, e2, e3, e4⟩ := ly_D h h0
  obtain ⟨i1, i2, i3⟩ := hI
  obtain ⟨b1, b2, b3, b4⟩ := brk_ok h hb
  have eD : rd_W r c wd * (r + 1) = D := by
    rcases Nat.eq_zero_or_pos r with e | e
    · rw [e1, ← b3, e]; simp
    · have ew : rd_W r c wd = wd := if_neg (by omega)
      rw [ew] at b3 ⊢
      rw [e1, ← b3, Nat.mul_succ, Nat.mul_comm]
  have hr := h.1
  refine ⟨b3, ⟨⟨by show 1 ≤ rd_W r c wd; omega, b4, by show 1 ≤ r + 1; omega, by show r + 1 ≤ 8; omega⟩, fun k hk => i2 k (by rw [← eD]; exact hk)⟩, ?_, ?_, fun i j hi hj => ?_⟩
  · show (if 0 = 1 then X else if 0 = 0 then nI c else W 0) = nI (rd_W r c wd)
    rw [if_neg (by decide), if_pos rfl, ← b3]
  · show (if 0 + 1 = 1 then X else _) = nI (r + 1)
    rw [if_pos rfl, hX]
  · have hi : i < rd_W r c wd := hi
    have hj : j < r + 1 := hj
    show (if 0 + (2 + 10 * j + i) = 1 then X else if 0 + (2 + 10 * j + i) = 0 then nI c else W (0 + (2 + 10 * j + i))) = nI (g (j * rd_W r c wd + i) + 256 * m (j * rd_W r c wd + i))
    rw [if_neg (by omega), if_neg (by omega), Nat.zero_add]
    rcases Nat.eq_zero_or_pos r with e | e
    · have hj0 : j = 0 := by omega
      subst hj0
      rw [Nat.zero_mul]
      have q := i3 i 0 (Or.inr ⟨e.symm, by omega⟩)
      rw [Nat.zero_mul] at q
      exact q
    · have ew : rd_W r c wd = wd := if_neg (by omega)
      rw [ew] at hi b3 ⊢
      exact i3 i j (by omega)
theorem ms_layPicture {d : Nat} {H : ex_H} {S : SS} {R : Int32 × Int32 × Int32 × Int32} {mn : Int32} {C N : Nat → Int32} (hS : mo_at H S R mn C N) {z : rd_S} (hz : rd_st S.1.2 S.1.1 = .inr z) (hb0 : brks z = 0) : ex_Met mX10_layPicture (d + 2) 0 0 H [.ref 86] (fun H' r => r = none ∧ ex_ch H H' [87] ∧ mo_at H' (s_pic S (rdP z)) R mn C N) := by
  obtain ⟨a1, ⟨hfi, hsd, hkp⟩, ⟨W, a2, hw0, ⟨hcn, hwh⟩, hwi⟩, ⟨T, a3, htn, htx⟩, ⟨F, a4, hfl⟩, ⟨IF, IL, IS, a5, a6, a7, him⟩, ⟨BX, BY, BG, a8, a9, a10, hbn, hbk⟩, a11, a12⟩ := id hS
  refine ex_meth [(0, .ref 86)] rfl rfl rfl (fun b => Nat.le_of_ble_eq_true rfl) ?_
  refine ew_iconst (M := mX10_layPicture) dX10_layPicture_0 (v := nI 0) (by decide) ?_
  refine ew_istore_n (M := mX10_layPicture) dX10_layPicture_1 (by decide) rfl ?_
  refine ew_iconst (M := mX10_layPicture) dX10_layPicture_2 (v := nI 0) (by decide) ?_
  refine ew_istore_n (M := mX10_layPicture) dX10_layPicture_3 (by decide) rfl ?_
  refine ew_iconst (M := mX10_layPicture) dX10_layPicture_4 (v := nI 0) (by decide) ?_
  refine ew_istore_n (M := mX10_layPicture) dX10_layPicture_5 (by decide) rfl ?_
  have key : ∀ (n k D r c wd : Nat) (g m : Nat → Nat) (H2 : ex_H) (W2 : Nat → Int32), S.1.1 - k ≤ n → k ≤ S.1.1 → rd_st S.1.2 k = .inr (D, r, c, wd, 0, g, m) → ex_ch H H2 [87] → H2[87]? = some (ar .int 1558 W2) → lyI D r c wd g m W W2 → ex_W mX10_layPicture (d + 2) 0 0 (fun H' r => r = none ∧ ex_ch H H' [87] ∧ mo_at H' (s_pic S (rdP z)) R mn C N) H2 6 [(0, .ref 86), (1, .int (nI c)), (2, .int (nI r)), (3, .int (nI k))] [] 0 0 := by
    intro n
    induction n with
    | zero =>
      intro k D r c wd g m H2 W2 hn hk hs hc2 b2 hI
      have b1 := hc2.at a1 (by simp)
      have hk' : k = S.1.1 := by omega
      subst hk'
      rw [hz] at hs
      injection hs with hs
      subst hs
      have hok : rd_ok D r c wd 0 := rd_st_ok _ _ hz
      have hw0' : r = 0 → wd = 0 := rd_w0 _ _ hz
      obtain ⟨ec, hmw⟩ := ly_end (X := nI (r + 1)) hok hw0' hb0 hI rfl
      refine ew_iload_n (M := mX10_layPicture) dX10_layPicture_6 rfl ?_
      refine ew_aload_n (M := mX10_layPicture) dX10_layPicture_7 rfl (Or.inr (Or.inl ⟨_, rfl⟩)) ?_
      refine ew_get (M := mX10_layPicture) dX10_layPicture_8 fX10_98 (by repeat (first | with_reducible assumption | refine ex_eq ?_ | refine ex_ne ?_ (by omega) | exact ex_lt (by with_reducible assumption) | rw [List.length_set] | assumption)) (by rfl) ?_
      refine ew_icmp_ge (M := mX10_layPicture) (tgt := 110) dX10_layPicture_11 rfl (fun _ => ?_) (fun h => absurd (nI_le (Nat.le_refl _) (by omega)) h)
      refine ew_aload_n (M := mX10_layPicture) dX10_layPicture_110 rfl (Or.inr (Or.inl ⟨_, rfl⟩)) ?_
      refine ew_get (M := mX10_layPicture) dX10_layPicture_111 fX10_7 (by repeat (first | with_reducible assumption | refine ex_eq ?_ | refine ex_ne ?_ (by omega) | exact ex_lt (by with_reducible assumption) | rw [List.length_set] | assumption)) (by rfl) ?_
      refine ew_iconst (M := mX10_layPicture) dX10_layPicture_114 (v := nI 0) (by decide) ?_
      refine ew_iload_n (M := mX10_layPicture) dX10_layPicture_115 rfl ?_
      refine ew_iast (M := mX10_layPicture) 0 dX10_layPicture_116 (by repeat (first | with_reducible assumption | refine ex_eq ?_ | refine ex_ne ?_ (by omega) | exact ex_lt (by with_reducible assumption) | rw [List.length_set] | assumption)) ⟨rfl, by decide, by decide⟩ ?_
      refine ew_aload_n (M := mX10_layPicture) dX10_layPicture_117 rfl (Or.inr (Or.inl ⟨_, rfl⟩)) ?_
      refine ew_get (M := mX10_layPicture) dX10_layPicture_118 fX10_7 (by repeat (first | with_reducible assumption | refine ex_eq ?_ | refine ex_ne ?_ (by omega) | exact ex_lt (by with_reducible assumption) | rw [List.length_set] | assumption)) (by rfl) ?_
      refine ew_iconst (M := mX10_layPicture) dX10_layPicture_121 (v := nI 1) (by decide) ?_
      refine ew_iload_n (M := mX10_layPicture) dX10_layPicture_122 rfl ?_
      refine ew_iconst (M := mX10_layPicture) dX10_layPicture_123 (v := nI 1) (by decide) ?_
      refine ew_iadd (M := mX10_layPicture) dX10_layPicture_124 ?_
      rw [nI_add]
      refine ew_iast (M := mX10_layPicture) 1 dX10_layPicture_125 (by repeat (first | with_reducible assumption | refine ex_eq ?_ | refine ex_ne ?_ (by omega) | exact ex_lt (by with_reducible assumption) | rw [List.length_set] | assumption)) ⟨rfl, by decide, by decide⟩ ?_
      refine ew_vret (M := mX10_layPicture) dX10_layPicture_126 rfl (Nat.le_refl _) (Nat.le_refl _) ?_
      have hc3 : ex_ch H ((H2.set 87 (ar .int 1558 (upd W2 0 (nI c)))).set 87 (ar .int 1558 (upd (upd W2 0 (nI c)) 1 (nI (r + 1))))) [87] := (hc2.set (by simp)).set (by simp)
      exact ⟨rfl, hc3, hc3.at a1 (by simp), ⟨hfi, hsd, hkp⟩, ⟨_, ex_eq (by rw [List.length_set]; exact ex_lt b2), mww.cur ⟨hw0, ⟨hcn, hwh⟩, hwi⟩ (fun q h1 h2 => by show (if q = 1 then _ else if q = 0 then _ else W2 q) = W q; rw [if_neg (by omega), if_neg (by omega)]; exact hI.1 q h1) hmw⟩, ⟨T, hc3.at a3 (by simp), htn, htx⟩, ⟨F, hc3.at a4 (by simp), hfl⟩, ⟨IF, IL, IS, hc3.at a5 (by simp), hc3.at a6 (by simp), hc3.at a7 (by simp), him⟩, ⟨BX, BY, BG, hc3.at a8 (by simp), hc3.at a9 (by simp), hc3.at a10 (by simp), hbn, hbk⟩, hc3.at a11 (by simp), hc3.at a12 (by simp)⟩
    | succ n ih =>
      intro k D r c wd g m H2 W2 hn hk hs hc2 b2 hI
      by_cases hkn : k = S.1.1
      · exact ih k D r c wd g m H2 W2 (by omega) hk hs hc2 b2 hI
      have b1 := hc2.at a1 (by simp)
      have b3 := hc2.at a3 (by simp)
      obtain ⟨ht1, ht2⟩ := htx k (by omega)
      obtain ⟨hf0, hs1⟩ := rd_bs hz (show k < S.1.1 by omega) hs
      have hok : rd_ok D r c wd 0 := rd_st_ok _ _ hs
      have hw0' : r = 0 → wd = 0 := rd_w0 _ _ hs
      change rd_f r c wd 0 (S.1.2 k) = 0 at hf0
      by_cases h47 : S.1.2 k = 47
      · have hb : brk r c wd 0 = 0 := by
          unfold rd_f at hf0
          rw [if_pos h47] at hf0
          rcases Nat.eq_zero_or_pos (brk r c wd 0) with e | e
          · exact e
          · rw [if_neg (by omega)] at hf0; exact hf0
        have en : rd_n (D, r, c, wd, 0, g, m) (S.1.2 k) = (D, r + 1, 0, rd_W r c wd, 0, g, m) := by
          unfold rd_n
          rw [if_pos h47]
        rw [en] at hs1
        rw [h47] at ht1
        refine ew_iload_n (M := mX10_layPicture) dX10_layPicture_6 rfl ?_
        refine ew_aload_n (M := mX10_layPicture) dX10_layPicture_7 rfl (Or.inr (Or.inl ⟨_, rfl⟩)) ?_
        refine ew_get (M := mX10_layPicture) dX10_layPicture_8 fX10_98 (by repeat (first | with_reducible assumption | refine ex_eq ?_ | refine ex_ne ?_ (by omega) | exact ex_lt (by with_reducible assumption) | rw [List.length_set] | assumption)) (by rfl) ?_
        refine ew_icmp_ge (M := mX10_layPicture) (tgt := 110) dX10_layPicture_11 rfl (fun h => absurd h (nI_ge (by omega) (by omega))) (fun _ => ?_)
        refine ew_aload_n (M := mX10_layPicture) dX10_layPicture_14 rfl (Or.inr (Or.inl ⟨_, rfl⟩)) ?_
        refine ew_get (M := mX10_layPicture) dX10_layPicture_15 fX10_13 (by repeat (first | with_reducible assumption | refine ex_eq ?_ | refine ex_ne ?_ (by omega) | exact ex_lt (by with_reducible assumption) | rw [List.length_set] | assumption)) (by rfl) ?_
        refine ew_iload_n (M := mX10_layPicture) dX10_layPicture_18 rfl ?_
        refine ew_iald (M := mX10_layPicture) k dX10_layPicture_19 (by repeat (first | with_reducible assumption | refine ex_eq ?_ | refine ex_ne ?_ (by omega) | exact ex_lt (by with_reducible assumption) | rw [List.length_set] | assumption)) ⟨rfl, by omega, by decide⟩ ?_
        rw [ht1]
        refine ew_bipush (M := mX10_layPicture) dX10_layPicture_20 (v := nI 47) (by decide) ?_
        refine ew_icmp_ne (M := mX10_layPicture) (tgt := 33) dX10_layPicture_22 rfl (fun h => absurd rfl h) (fun _ => ?_)
        refine ew_iconst (M := mX10_layPicture) dX10_layPicture_25 (v := nI 0) (by decide) ?_
        refine ew_istore_n (M := mX10_layPicture) dX10_layPicture_26 (by decide) rfl ?_
        refine ew_iinc (M := mX10_layPicture) dX10_layPicture_27 rfl (ex_inc r) (by decide) rfl ?_
        refine ew_goto (M := mX10_layPicture) (tgt := 88) dX10_layPicture_30 rfl ?_
        refine ew_iload_n (M := mX10_layPicture) dX10_layPicture_88 rfl ?_
        refine ew_aload_n (M := mX10_layPicture) dX10_layPicture_89 rfl (Or.inr (Or.inl ⟨_, rfl⟩)) ?_
        refine ew_get (M := mX10_layPicture) dX10_layPicture_90 fX10_13 (by repeat (first | with_reducible assumption | refine ex_eq ?_ | refine ex_ne ?_ (by omega) | exact ex_lt (by with_reducible assumption) | rw [List.length_set] | assumption)) (by rfl) ?_
        refine ew_iload_n (M := mX10_layPicture) dX10_layPicture_93 rfl ?_
        refine ew_iald (M := mX10_layPicture) k dX10_layPicture_94 (by repeat (first | with_reducible assumption | refine ex_eq ?_ | refine ex_ne ?_ (by omega) | exact ex_lt (by with_reducible assumption) | rw [List.length_set] | assumption)) ⟨rfl, by omega, by decide⟩ ?_
        rw [ht1]
        refine ew_bipush (M := mX10_layPicture) dX10_layPicture_95 (v := nI 47) (by decide) ?_
        refine ew_icmp_ne (M := mX10_layPicture) (tgt := 104) dX10_layPicture_97 rfl (fun h => absurd rfl h) (fun _ => ?_)
        refine ew_iconst (M := mX10_layPicture) dX10_layPicture_100 (v := nI 1) (by decide) ?_
        refine ew_goto (M := mX10_layPicture) (tgt := 105) dX10_layPicture_101 rfl ?_
        refine ew_iadd (M := mX10_layPicture) dX10_layPicture_105 ?_
        rw [nI_add]
        refine ew_istore_n (M := mX10_layPicture) dX10_layPicture_106 (by decide) rfl ?_
        refine ew_goto (M := mX10_layPicture) (tgt := 6) dX10_layPicture_107 rfl ?_
        refine ew_ls _ ?_ (ih (k + 1) D (r + 1) 0 (rd_W r c wd) g m H2 W2 (by omega) (by omega) hs1 hc2 b2 (ly_brk hok hw0' hb hI))
        exact ⟨rfl, rfl, rfl, rfl, trivial⟩
      · have n47 : ¬ nI (S.1.2 k) = nI 47 := fun e => h47 ((nI_eq (by omega) (by decide)).mp e)
        have hr := hok.1
        obtain ⟨s0, hsg⟩ : ∃ s, sg (S.1.2 k) = some s := by
          unfold rd_f at hf0
          rw [if_neg h47] at hf0
          cases e : sg (S.1.2 k) with
          | none => rw [e] at hf0; cases hf0
          | some s => exact ⟨s, rfl⟩
        have hcw : c < 10 := by
          unfold rd_f at hf0
          rw [if_neg h47, hsg] at hf0
          dsimp only at hf0
          rw [if_pos rfl] at hf0
          by_cases q : c < rdW r wd
          · have := hok.2.2.1; omega
          · rw [if_neg q] at hf0; cases hf0
        have en : rd_n (D, r, c, wd, 0, g, m) (S.1.2 k) = (D, r, c, wd, s0 + 1, g, m) := by
          unfold rd_n
          rw [if_neg h47, hsg]
          rfl
        rw [en] at hs1
        have hk1 : k + 1 < S.1.1 := by
          rcases Nat.lt_or_ge (k + 1) S.1.1 with q | q
          · exact q
          · have e : k + 1 = S.1.1 := by omega
            rw [e, hz] at hs1
            injection hs1 with hs1
            subst hs1
            exfalso
            have h1 : brk r c wd (s0 + 1) = 0 := hb0
            unfold brk at h1
            rw [if_pos (Or.inl (by omega))] at h1
            cases h1
        obtain ⟨hu1, hu2⟩ := htx (k + 1) hk1
        obtain ⟨hg0, hs2⟩ := rd_bs hz hk1 hs1
        change rd_f r c wd (s0 + 1) (S.1.2 (k + 1)) = 0 at hg0
        have hs0 := sg_le hsg
        by_cases h45 : S.1.2 k = 45
        · have e16 : s0 = 16 := by
            rw [h45, sg_45.1] at hsg
            injection hsg with hsg
            exact hsg.symm
          subst e16
          have en2 : rd_n (D, r, c, wd, 16 + 1, g, m) (S.1.2 (k + 1)) = (D + 1, r, c + 1, wd, 0, va_up g D 0, va_up m D 1) := by
            unfold rd_f at hg0
            have g47 : ¬ S.1.2 (k + 1) = 47 := fun e => by
              rw [if_pos e] at hg0
              have h1 : brk r c wd (16 + 1) = 1 := if_pos (Or.inl (by decide))
              rw [h1, if_neg (by decide)] at hg0
              cases hg0
            rw [if_neg g47] at hg0
            unfold rd_n
            rw [if_neg g47]
            cases e : sg (S.1.2 (k + 1)) with
            | none => rw [e] at hg0; cases hg0
            | some s1 => rfl
          rw [en2] at hs2
          rw [h45] at ht1
          refine ew_iload_n (M := mX10_layPicture) dX10_layPicture_6 rfl ?_
          refine ew_aload_n (M := mX10_layPicture) dX10_layPicture_7 rfl (Or.inr (Or.inl ⟨_, rfl⟩)) ?_
          refine ew_get (M := mX10_layPicture) dX10_layPicture_8 fX10_98 (by repeat (first | with_reducible assumption | refine ex_eq ?_ | refine ex_ne ?_ (by omega) | exact ex_lt (by with_reducible assumption) | rw [List.length_set] | assumption)) (by rfl) ?_
          refine ew_icmp_ge (M := mX10_layPicture) (tgt := 110) dX10_layPicture_11 rfl (fun h => absurd h (nI_ge (by omega) (by omega))) (fun _ => ?_)
          refine ew_aload_n (M := mX10_layPicture) dX10_layPicture_14 rfl (Or.inr (Or.inl ⟨_, rfl⟩)) ?_
          refine ew_get (M := mX10_layPicture) dX10_layPicture_15 fX10_13 (by repeat (first | with_reducible assumption | refine ex_eq ?_ | refine ex_ne ?_ (by omega) | exact ex_lt (by with_reducible assumption) | rw [List.length_set] | assumption)) (by rfl) ?_
          refine ew_iload_n (M := mX10_layPicture) dX10_layPicture_18 rfl ?_
          refine ew_iald (M := mX10_layPicture) k dX10_layPicture_19 (by repeat (first | with_reducible assumption | refine ex_eq ?_ | refine ex_ne ?_ (by omega) | exact ex_lt (by with_reducible assumption) | rw [List.length_set] | assumption)) ⟨rfl, by omega, by decide⟩ ?_
          rw [ht1]
          refine ew_bipush (M := mX10_layPicture) dX10_layPicture_20 (v := nI 47) (by decide) ?_
          refine ew_icmp_ne (M := mX10_layPicture) (tgt := 33) dX10_layPicture_22 rfl (fun _ => ?_) (fun h => absurd h (by decide))
          refine ew_aload_n (M := mX10_layPicture) dX10_layPicture_33 rfl (Or.inr (Or.inl ⟨_, rfl⟩)) ?_
          refine ew_get (M := mX10_layPicture) dX10_layPicture_34 fX10_7 (by repeat (first | with_reducible assumption | refine ex_eq ?_ | refine ex_ne ?_ (by omega) | exact ex_lt (by with_reducible assumption) | rw [List.length_set] | assumption)) (by rfl) ?_
          refine ew_aload_n (M := mX10_layPicture) dX10_layPicture_37 rfl (Or.inr (Or.inl ⟨_, rfl⟩)) ?_
          refine ew_iload_n (M := mX10_layPicture) dX10_layPicture_38 rfl ?_
          refine ew_iload_n (M := mX10_layPicture) dX10_layPicture_39 rfl ?_
          refine ew_callV (M := mX10_layPicture) dX10_layPicture_40 vX10_54 (by repeat (first | with_reducible assumption | refine ex_eq ?_ | refine ex_ne ?_ (by omega) | exact ex_lt (by with_reducible assumption) | rw [List.length_set] | assumption)) rfl (ms_place) rfl (Nat.le_of_ble_eq_true rfl) ⟨Nat.le_refl _, Nat.le_refl _⟩ rfl (fun H40 r40 q40 => ?_)
          obtain ⟨rfl, rfl⟩ := q40
          refine ew_aload_n (M := mX10_layPicture) dX10_layPicture_43 rfl (Or.inr (Or.inl ⟨_, rfl⟩)) ?_
          refine ew_get (M := mX10_layPicture) dX10_layPicture_44 fX10_13 (by repeat (first | with_reducible assumption | refine ex_eq ?_ | refine ex_ne ?_ (by omega) | exact ex_lt (by with_reducible assumption) | rw [List.length_set] | assumption)) (by rfl) ?_
          refine ew_iload_n (M := mX10_layPicture) dX10_layPicture_47 rfl ?_
          refine ew_iald (M := mX10_layPicture) k dX10_layPicture_48 (by repeat (first | with_reducible assumption | refine ex_eq ?_ | refine ex_ne ?_ (by omega) | exact ex_lt (by with_reducible assumption) | rw [List.length_set] | assumption)) ⟨rfl, by omega, by decide⟩ ?_
          rw [ht1]
          refine ew_bipush (M := mX10_layPicture) dX10_layPicture_49 (v := nI 45) (by decide) ?_
          refine ew_icmp_ne (M := mX10_layPicture) (tgt := 60) dX10_layPicture_51 rfl (fun h => absurd rfl h) (fun _ => ?_)
          refine ew_sipush (M := mX10_layPicture) dX10_layPicture_54 (v := nI 256) (by decide) ?_
          refine ew_goto (M := mX10_layPicture) (tgt := 84) dX10_layPicture_57 rfl ?_
          refine ew_iast (M := mX10_layPicture) (2 + 10 * r + c) dX10_layPicture_84 (by repeat (first | with_reducible assumption | refine ex_eq ?_ | refine ex_ne ?_ (by omega) | exact ex_lt (by with_reducible assumption) | rw [List.length_set] | assumption)) ⟨rfl, by omega, by decide⟩ ?_
          refine ew_iinc (M := mX10_layPicture) dX10_layPicture_85 rfl (ex_inc c) (by decide) rfl ?_
          refine ew_iload_n (M := mX10_layPicture) dX10_layPicture_88 rfl ?_
          refine ew_aload_n (M := mX10_layPicture) dX10_layPicture_89 rfl (Or.inr (Or.inl ⟨_, rfl⟩)) ?_
          refine ew_get (M := mX10_layPicture) dX10_layPicture_90 fX10_13 (by repeat (first | with_reducible assumption | refine ex_eq ?_ | refine ex_ne ?_ (by omega) | exact ex_lt (by with_reducible assumption) | rw [List.length_set] | assumption)) (by rfl) ?_
          refine ew_iload_n (M := mX10_layPicture) dX10_layPicture_93 rfl ?_
          refine ew_iald (M := mX10_layPicture) k dX10_layPicture_94 (by repeat (first | with_reducible assumption | refine ex_eq ?_ | refine ex_ne ?_ (by omega) | exact ex_lt (by with_reducible assumption) | rw [List.length_set] | assumption)) ⟨rfl, by omega, by decide⟩ ?_
          rw [ht1]
          refine ew_bipush (M := mX10_layPicture) dX10_layPicture_95 (v := nI 47) (by decide) ?_
          refine ew_icmp_ne (M := mX10_layPicture) (tgt := 104) dX10_layPicture_97 rfl (fun _ => ?_) (fun h => absurd h (by decide))
          refine ew_iconst (M := mX10_layPicture) dX10_layPicture_104 (v := nI 2) (by decide) ?_
          refine ew_iadd (M := mX10_layPicture) dX10_layPicture_105 ?_
          rw [nI_add]
          refine ew_istore_n (M := mX10_layPicture) dX10_layPicture_106 (by decide) rfl ?_
          refine ew_goto (M := mX10_layPicture) (tgt := 6) dX10_layPicture_107 rfl ?_
          refine ew_ls _ ?_ (ih (k + 2) (D + 1) r (c + 1) wd (va_up g D 0) (va_up m D 1) _ _ (by omega) (by omega) hs2 (hc2.set (by simp)) (ex_eq (ex_lt b2)) (ly_dot hok hw0' hI hr hcw (by decide) (by decide) rfl))
          exact ⟨rfl, rfl, rfl, rfl, trivial⟩
        · have n45 : ¬ nI (S.1.2 k) = nI 45 := fun e => h45 ((nI_eq (by omega) (by decide)).mp e)
          obtain ⟨hfg, hs16⟩ := fg_sg h45
          have hs0' := hs16 s0 hsg
          rw [hsg] at hfg
          change fgI (S.1.2 k) = nI s0 at hfg
          have en2 : ∃ s1, s1 < 16 ∧ fgI (S.1.2 (k + 1)) = nI s1 ∧ rd_n (D, r, c, wd, s0 + 1, g, m) (S.1.2 (k + 1)) = (D + 1, r, c + 1, wd, 0, va_up g D (s0 * 16 + s1), va_up m D 0) := by
            unfold rd_f at hg0
            have g47 : ¬ S.1.2 (k + 1) = 47 := fun e => by
              rw [if_pos e] at hg0
              have h1 : brk r c wd (s0 + 1) = 1 := if_pos (Or.inl (by omega))
              rw [h1, if_neg (by decide)] at hg0
              cases hg0
            rw [if_neg g47] at hg0
            cases e : sg (S.1.2 (k + 1)) with
            | none => rw [e] at hg0; cases hg0
            | some s1 =>
              rw [e] at hg0
              dsimp only at hg0
              rw [if_neg (by omega)] at hg0
              have h1 : ¬ s1 = 16 := fun q => by
                rw [if_neg (by omega)] at hg0
                cases hg0
              have g45 : ¬ S.1.2 (k + 1) = 45 := fun q => by
                rw [q, sg_45.1] at e
                injection e with e
                exact h1 e.symm
              obtain ⟨q1, q2⟩ := fg_sg g45
              rw [e] at q1
              refine ⟨s1, q2 s1 e, q1, ?_⟩
              unfold rd_n
              rw [if_neg g47, e]
              dsimp only
              rw [if_neg (by omega), if_neg (by omega), if_neg (by omega), Nat.add_sub_cancel]
          obtain ⟨s1, hs1', hfg2, en2⟩ := en2
          rw [en2] at hs2
          refine ew_iload_n (M := mX10_layPicture) dX10_layPicture_6 rfl ?_
          refine ew_aload_n (M := mX10_layPicture) dX10_layPicture_7 rfl (Or.inr (Or.inl ⟨_, rfl⟩)) ?_
          refine ew_get (M := mX10_layPicture) dX10_layPicture_8 fX10_98 (by repeat (first | with_reducible assumption | refine ex_eq ?_ | refine ex_ne ?_ (by omega) | exact ex_lt (by with_reducible assumption) | rw [List.length_set] | assumption)) (by rfl) ?_
          refine ew_icmp_ge (M := mX10_layPicture) (tgt := 110) dX10_layPicture_11 rfl (fun h => absurd h (nI_ge (by omega) (by omega))) (fun _ => ?_)
          refine ew_aload_n (M := mX10_layPicture) dX10_layPicture_14 rfl (Or.inr (Or.inl ⟨_, rfl⟩)) ?_
          refine ew_get (M := mX10_layPicture) dX10_layPicture_15 fX10_13 (by repeat (first | with_reducible assumption | refine ex_eq ?_ | refine ex_ne ?_ (by omega) | exact ex_lt (by with_reducible assumption) | rw [List.length_set] | assumption)) (by rfl) ?_
          refine ew_iload_n (M := mX10_layPicture) dX10_layPicture_18 rfl ?_
          refine ew_iald (M := mX10_layPicture) k dX10_layPicture_19 (by repeat (first | with_reducible assumption | refine ex_eq ?_ | refine ex_ne ?_ (by omega) | exact ex_lt (by with_reducible assumption) | rw [List.length_set] | assumption)) ⟨rfl, by omega, by decide⟩ ?_
          rw [ht1]
          refine ew_bipush (M := mX10_layPicture) dX10_layPicture_20 (v := nI 47) (by decide) ?_
          refine ew_icmp_ne (M := mX10_layPicture) (tgt := 33) dX10_layPicture_22 rfl (fun _ => ?_) (fun h => absurd h n47)
          refine ew_aload_n (M := mX10_layPicture) dX10_layPicture_33 rfl (Or.inr (Or.inl ⟨_, rfl⟩)) ?_
          refine ew_get (M := mX10_layPicture) dX10_layPicture_34 fX10_7 (by repeat (first | with_reducible assumption | refine ex_eq ?_ | refine ex_ne ?_ (by omega) | exact ex_lt (by with_reducible assumption) | rw [List.length_set] | assumption)) (by rfl) ?_
          refine ew_aload_n (M := mX10_layPicture) dX10_layPicture_37 rfl (Or.inr (Or.inl ⟨_, rfl⟩)) ?_
          refine ew_iload_n (M := mX10_layPicture) dX10_layPicture_38 rfl ?_
          refine ew_iload_n (M := mX10_layPicture) dX10_layPicture_39 rfl ?_
          refine ew_callV (M := mX10_layPicture) dX10_layPicture_40 vX10_54 (by repeat (first | with_reducible assumption | refine ex_eq ?_ | refine ex_ne ?_ (by omega) | exact ex_lt (by with_reducible assumption) | rw [List.length_set] | assumption)) rfl (ms_place) rfl (Nat.le_of_ble_eq_true rfl) ⟨Nat.le_refl _, Nat.le_refl _⟩ rfl (fun H40 r40 q40 => ?_)
          obtain ⟨rfl, rfl⟩ := q40
          refine ew_aload_n (M := mX10_layPicture) dX10_layPicture_43 rfl (Or.inr (Or.inl ⟨_, rfl⟩)) ?_
          refine ew_get (M := mX10_layPicture) dX10_layPicture_44 fX10_13 (by repeat (first | with_reducible assumption | refine ex_eq ?_ | refine ex_ne ?_ (by omega) | exact ex_lt (by with_reducible assumption) | rw [List.length_set] | assumption)) (by rfl) ?_
          refine ew_iload_n (M := mX10_layPicture) dX10_layPicture_47 rfl ?_
          refine ew_iald (M := mX10_layPicture) k dX10_layPicture_48 (by repeat (first | with_reducible assumption | refine ex_eq ?_ | refine ex_ne ?_ (by omega) | exact ex_lt (by with_reducible assumption) | rw [List.length_set] | assumption)) ⟨rfl, by omega, by decide⟩ ?_
          rw [ht1]
          refine ew_bipush (M := mX10_layPicture) dX10_layPicture_49 (v := nI 45) (by decide) ?_
          refine ew_icmp_ne (M := mX10_layPicture) (tgt := 60) dX10_layPicture_51 rfl (fun _ => ?_) (fun h => absurd h n45)
          refine ew_bipush (M := mX10_layPicture) dX10_layPicture_60 (v := nI 16) (by decide) ?_
          refine ew_aload_n (M := mX10_layPicture) dX10_layPicture_62 rfl (Or.inr (Or.inl ⟨_, rfl⟩)) ?_
          refine ew_get (M := mX10_layPicture) dX10_layPicture_63 fX10_13 (by repeat (first | with_reducible assumption | refine ex_eq ?_ | refine ex_ne ?_ (by omega) | exact ex_lt (by with_reducible assumption) | rw [List.length_set] | assumption)) (by rfl) ?_
          refine ew_iload_n (M := mX10_layPicture) dX10_layPicture_66 rfl ?_
          refine ew_iald (M := mX10_layPicture) k dX10_layPicture_67 (by repeat (first | with_reducible assumption | refine ex_eq ?_ | refine ex_ne ?_ (by omega) | exact ex_lt (by with_reducible assumption) | rw [List.length_set] | assumption)) ⟨rfl, by omega, by decide⟩ ?_
          rw [ht1]
          refine ew_callS (M := mX10_layPicture) dX10_layPicture_68 vX10_94 (ms_figure ht2) rfl (Nat.le_of_ble_eq_true rfl) ⟨Nat.le_refl _, Nat.le_refl _⟩ rfl (fun H68 r68 q68 => ?_)
          obtain ⟨rfl, rfl⟩ := q68
          rw [hfg]
          refine ew_imul (M := mX10_layPicture) dX10_layPicture_71 ?_
          rw [pk_mul]
          refine ew_aload_n (M := mX10_layPicture) dX10_layPicture_72 rfl (Or.inr (Or.inl ⟨_, rfl⟩)) ?_
          refine ew_get (M := mX10_layPicture) dX10_layPicture_73 fX10_13 (by repeat (first | with_reducible assumption | refine ex_eq ?_ | refine ex_ne ?_ (by omega) | exact ex_lt (by with_reducible assumption) | rw [List.length_set] | assumption)) (by rfl) ?_
          refine ew_iload_n (M := mX10_layPicture) dX10_layPicture_76 rfl ?_
          refine ew_iconst (M := mX10_layPicture) dX10_layPicture_77 (v := nI 1) (by decide) ?_
          refine ew_iadd (M := mX10_layPicture) dX10_layPicture_78 ?_
          refine ew_iald (M := mX10_layPicture) (k + 1) dX10_layPicture_79 (by repeat (first | with_reducible assumption | refine ex_eq ?_ | refine ex_ne ?_ (by omega) | exact ex_lt (by with_reducible assumption) | rw [List.length_set] | assumption)) ⟨by rw [nI_add], by omega, by decide⟩ ?_
          rw [hu1]
          refine ew_callS (M := mX10_layPicture) dX10_layPicture_80 vX10_94 (ms_figure hu2) rfl (Nat.le_of_ble_eq_true rfl) ⟨Nat.le_refl _, Nat.le_refl _⟩ rfl (fun H80 r80 q80 => ?_)
          obtain ⟨rfl, rfl⟩ := q80
          rw [hfg2]
          refine ew_iadd (M := mX10_layPicture) dX10_layPicture_83 ?_
          rw [nI_add]
          refine ew_iast (M := mX10_layPicture) (2 + 10 * r + c) dX10_layPicture_84 (by repeat (first | with_reducible assumption | refine ex_eq ?_ | refine ex_ne ?_ (by omega) | exact ex_lt (by with_reducible assumption) | rw [List.length_set] | assumption)) ⟨rfl, by omega, by decide⟩ ?_
          refine ew_iinc (M := mX10_layPicture) dX10_layPicture_85 rfl (ex_inc c) (by decide) rfl ?_
          refine ew_iload_n (M := mX10_layPicture) dX10_layPicture_88 rfl ?_
          refine ew_aload_n (M := mX10_layPicture) dX10_layPicture_89 rfl (Or.inr (Or.inl ⟨_, rfl⟩)) ?_
          refine ew_get (M := mX10_layPicture) dX10_layPicture_90 fX10_13 (by repeat (first | with_reducible assumption | refine ex_eq ?_ | refine ex_ne ?_ (by omega) | exact ex_lt (by with_reducible assumption) | rw [List.length_set] | assumption)) (by rfl) ?_
          refine ew_iload_n (M := mX10_layPicture) dX10_layPicture_93 rfl ?_
          refine ew_iald (M := mX10_layPicture) k dX10_layPicture_94 (by repeat (first | with_reducible assumption | refine ex_eq ?_ | refine ex_ne ?_ (by omega) | exact ex_lt (by with_reducible assumption) | rw [List.length_set] | assumption)) ⟨rfl, by omega, by decide⟩ ?_
          rw [ht1]
          refine ew_bipush (M := mX10_layPicture) dX10_layPicture_95 (v := nI 47) (by decide) ?_
          refine ew_icmp_ne (M := mX10_layPicture) (tgt := 104) dX10_layPicture_97 rfl (fun _ => ?_) (fun h => absurd h n47)
          refine ew_iconst (M := mX10_layPicture) dX10_layPicture_104 (v := nI 2) (by decide) ?_
          refine ew_iadd (M := mX10_layPicture) dX10_layPicture_105 ?_
          rw [nI_add]
          refine ew_istore_n (M := mX10_layPicture) dX10_layPicture_106 (by decide) rfl ?_
          refine ew_goto (M := mX10_layPicture) (tgt := 6) dX10_layPicture_107 rfl ?_
          refine ew_ls _ ?_ (ih (k + 2) (D + 1) r (c + 1) wd (va_up g D (s0 * 16 + s1)) (va_up m D 0) _ _ (by omega) (by omega) hs2 (hc2.set (by simp)) (ex_eq (ex_lt b2)) (ly_dot hok hw0' hI hr hcw (by omega) (by decide) (by congr 1; omega)))
          exact ⟨rfl, rfl, rfl, rfl, trivial⟩
  refine ew_ls _ ?_ (key S.1.1 0 0 0 0 0 (fun _ => 0) (fun _ => 0) H W (by omega) (by omega) rfl ex_ch.rf a2 ⟨fun _ _ => rfl, fun k hk => absurd hk (Nat.not_lt_zero k), fun i j hij => by omega⟩)
  exact ⟨rfl, rfl, rfl, rfl, trivial⟩
theorem mo_t0 {H : ex_H} {S : SS} {R : Int32 × Int32 × Int32 × Int32} {mn : Int32} {C N : Nat → Int32} (hS : mo_at H S R mn C N) (t : Nat → Nat) : mo_at (H.set 86 (mob (nI S.2.2.2.2.2.1.1) (nI (S.2.2.2.1 0 + 2 * S.2.2.2.1 1)) (nI S.2.2.1.2.2.2) (nI 0) S.2.1 (nI S.2.2.1.2.2.1) (nI S.2.2.2.2.2.2.1) R.1 R.2.1 R.2.2.1 R.2.2.2 mn)) (s_text S (0, t)) R mn C N := by
  obtain ⟨a1, ⟨hfi, hsd, hkp⟩, ⟨W, a2, hw0, ⟨hcn, hwh⟩, hwi⟩, ⟨T, a3, htn, htx⟩, ⟨F, a4, hfl⟩, ⟨IF, IL, IS, a5, a6, a7, him⟩, ⟨BX, BY, BG, a8, a9, a10, hbn, hbk⟩, a11, a12⟩ := id hS
  exact ⟨(by repeat (first | with_reducible assumption | refine ex_eq ?_ | refine ex_ne ?_ (by omega) | exact ex_lt (by with_reducible assumption) | rw [List.length_set] | assumption)), ⟨hfi, hsd, hkp⟩, ⟨W, (by repeat (first | with_reducible assumption | refine ex_eq ?_ | refine ex_ne ?_ (by omega) | exact ex_lt (by with_reducible assumption) | rw [List.length_set] | assumption)), hw0, ⟨hcn, hwh⟩, hwi⟩, ⟨T, (by repeat (first | with_reducible assumption | refine ex_eq ?_ | refine ex_ne ?_ (by omega) | exact ex_lt (by with_reducible assumption) | rw [List.length_set] | assumption)), Nat.zero_le _, fun k hk => absurd hk (Nat.not_lt_zero k)⟩, ⟨F, (by repeat (first | with_reducible assumption | refine ex_eq ?_ | refine ex_ne ?_ (by omega) | exact ex_lt (by with_reducible assumption) | rw [List.length_set] | assumption)), hfl⟩, ⟨IF, IL, IS, (by repeat (first | with_reducible assumption | refine ex_eq ?_ | refine ex_ne ?_ (by omega) | exact ex_lt (by with_reducible assumption) | rw [List.length_set] | assumption)), (by repeat (first | with_reducible assumption | refine ex_eq ?_ | refine ex_ne ?_ (by omega) | exact ex_lt (by with_reducible assumption) | rw [List.length_set] | assumption)), (by repeat (first | with_reducible assumption | refine ex_eq ?_ | refine ex_ne ?_ (by omega) | exact ex_lt (by with_reducible assumption) | rw [List.length_set] | assumption)), him⟩, ⟨BX, BY, BG, (by repeat (first | with_reducible assumption | refine ex_eq ?_ | refine ex_ne ?_ (by omega) | exact ex_lt (by with_reducible assumption) | rw [List.length_set] | assumption)), (by repeat (first | with_reducible assumption | refine ex_eq ?_ | refine ex_ne ?_ (by omega) | exact ex_lt (by with_reducible assumption) | rw [List.length_set] | assumption)), (by repeat (first | with_reducible assumption | refine ex_eq ?_ | refine ex_ne ?_ (by omega) | exact ex_lt (by with_reducible assumption) | rw [List.length_set] | assumption)), hbn, hbk⟩, (by repeat (first | with_reducible assumption | refine ex_eq ?_ | refine ex_ne ?_ (by omega) | exact ex_lt (by with_reducible assumption) | rw [List.length_set] | assumption)), (by repeat (first | with_reducible assumption | refine ex_eq ?_ | refine ex_ne ?_ (by omega) | exact ex_lt (by with_reducible assumption) | rw [List.length_set] | assumption))⟩
theorem ms_picture {d : Nat} {H : ex_H} {S : SS} (hS : mo_is H S) : ex_Met mX10_picture (d + 4) 0 0 H [.ref 86] (fun H' r => r = some (.int (f_picture S).1) ∧ ex_ch H H' mL ∧ mo_is H' (f_picture S).2) := by
  obtain ⟨R, mn, C, N, hS⟩ := hS
  have a1 := hS.1
  have h3 := rd_fault_lt S.1.2 S.1.1
  by_cases hf : (rd_fault S.1.2 S.1.1).1 = 0
  · obtain ⟨z, hz, hb⟩ : ∃ z, rd_st S.1.2 S.1.1 = .inr z ∧ brks z = 0 := by
      cases e : rd_st S.1.2 S.1.1 with
      | inl f =>
        exfalso
        have h1 : ∀ i f, rd_st S.1.2 i = .inl f → f.1 ≠ 0 := by
          intro i
          induction i with
          | zero => intro f h; cases h
          | succ i ih =>
            intro f h
            have h2 : (match rd_st S.1.2 i with | .inl f => (.inl f : (Nat × Nat) ⊕ rd_S) | .inr z => if rd_fs z (S.1.2 i) = 0 then .inr (rd_n z (S.1.2 i)) else .inl (rd_fs z (S.1.2 i), i)) = .inl f := h
            cases e : rd_st S.1.2 i with
            | inl f0 => rw [e] at h2; cases h2; exact ih _ e
            | inr z0 =>
              rw [e] at h2
              dsimp only at h2
              by_cases q : rd_fs z0 (S.1.2 i) = 0
              · rw [if_pos q] at h2; cases h2
              · rw [if_neg q] at h2; cases h2; exact q
        unfold rd_fault at hf
        rw [e] at hf
        exact h1 _ f e hf
      | inr z =>
        refine ⟨z, rfl, ?_⟩
        unfold rd_fault at hf
        rw [e] at hf
        exact hf
    have ez : rdz S.1.2 S.1.1 = z := by
      unfold rdz
      rw [hz]
    have ef : f_picture S = (nI ((rdP z).1 * (rdP z).2.1), deed (s_fa (s_text S (0, S.1.2)) (-1)) (rdP z)) := by
      unfold f_picture
      rw [cif_y hf, ez]
    refine ex_meth [(0, .ref 86)] rfl rfl rfl (fun b => Nat.le_of_ble_eq_true rfl) ?_
    refine ew_aload_n (M := mX10_picture) dX10_picture_0 rfl (Or.inr (Or.inl ⟨_, rfl⟩)) ?_
    refine ew_callV (M := mX10_picture) dX10_picture_1 vX10_112 (by repeat (first | with_reducible assumption | refine ex_eq ?_ | refine ex_ne ?_ (by omega) | exact ex_lt (by with_reducible assumption) | rw [List.length_set] | assumption)) rfl (ms_readText hS) rfl (Nat.le_of_ble_eq_true rfl) ⟨Nat.le_refl _, Nat.le_refl _⟩ rfl (fun H1 r1 q1 => ?_)
    obtain ⟨rfl, hc1, R1, hS1⟩ := q1
    rw [hf]
    rw [hf, if_pos rfl] at hS1
    have k1 := hS1.1
    refine ew_istore_n (M := mX10_picture) dX10_picture_4 (by decide) rfl ?_
    refine ew_iload_n (M := mX10_picture) dX10_picture_5 rfl ?_
    refine ew_if_ne (M := mX10_picture) (tgt := 17) dX10_picture_6 rfl (fun h => absurd rfl h) (fun _ => ?_)
    refine ew_aload_n (M := mX10_picture) dX10_picture_9 rfl (Or.inr (Or.inl ⟨_, rfl⟩)) ?_
    refine ew_callV (M := mX10_picture) dX10_picture_10 vX10_115 (by repeat (first | with_reducible assumption | refine ex_eq ?_ | refine ex_ne ?_ (by omega) | exact ex_lt (by with_reducible assumption) | rw [List.length_set] | assumption)) rfl (ms_remember hS1) rfl (Nat.le_of_ble_eq_true rfl) ⟨Nat.le_refl _, Nat.le_refl _⟩ rfl (fun H10 r10 q10 => ?_)
    obtain ⟨rfl, hc2, hS2⟩ := q10
    have k2 := hS2.1
    refine ew_aload_n (M := mX10_picture) dX10_picture_13 rfl (Or.inr (Or.inl ⟨_, rfl⟩)) ?_
    refine ew_callV (M := mX10_picture) dX10_picture_14 vX10_118 (by repeat (first | with_reducible assumption | refine ex_eq ?_ | refine ex_ne ?_ (by omega) | exact ex_lt (by with_reducible assumption) | rw [List.length_set] | assumption)) rfl (ms_layPicture hS2 hz hb) rfl (Nat.le_of_ble_eq_true rfl) ⟨Nat.le_refl _, Nat.le_refl _⟩ rfl (fun H14 r14 q14 => ?_)
    obtain ⟨rfl, hc3, hS3⟩ := q14
    obtain ⟨k3, -, ⟨W3, k4, ⟨-, w0, w1, -⟩, -⟩, -⟩ := id hS3
    have w0 : W3 0 = nI (rdP z).1 := w0
    have w1 : W3 1 = nI (rdP z).2.1 := w1
    refine ew_aload_n (M := mX10_picture) dX10_picture_17 rfl (Or.inr (Or.inl ⟨_, rfl⟩)) ?_
    refine ew_iconst (M := mX10_picture) dX10_picture_18 (v := nI 0) (by decide) ?_
    refine ew_put (M := mX10_picture) dX10_picture_19 fX10_98 (by repeat (first | with_reducible assumption | refine ex_eq ?_ | refine ex_ne ?_ (by omega) | exact ex_lt (by with_reducible assumption) | rw [List.length_set] | assumption)) (by exact Nat.le_of_ble_eq_true rfl) ⟨rfl, rfl, fun _ h => by cases h⟩ ?_
    refine ew_iload_n (M := mX10_picture) dX10_picture_22 rfl ?_
    refine ew_if_le (M := mX10_picture) (tgt := 33) dX10_picture_23 rfl (fun _ => ?_) (fun h => absurd (by decide) h)
    refine ew_aload_n (M := mX10_picture) dX10_picture_33 rfl (Or.inr (Or.inl ⟨_, rfl⟩)) ?_
    refine ew_get (M := mX10_picture) dX10_picture_34 fX10_7 (by repeat (first | with_reducible assumption | refine ex_eq ?_ | refine ex_ne ?_ (by omega) | exact ex_lt (by with_reducible assumption) | rw [List.length_set] | assumption)) (by rfl) ?_
    refine ew_iconst (M := mX10_picture) dX10_picture_37 (v := nI 0) (by decide) ?_
    refine ew_iald (M := mX10_picture) 0 dX10_picture_38 (by repeat (first | with_reducible assumption | refine ex_eq ?_ | refine ex_ne ?_ (by omega) | exact ex_lt (by with_reducible assumption) | rw [List.length_set] | assumption)) ⟨rfl, by decide, by decide⟩ ?_
    rw [w0]
    refine ew_aload_n (M := mX10_picture) dX10_picture_39 rfl (Or.inr (Or.inl ⟨_, rfl⟩)) ?_
    refine ew_get (M := mX10_picture) dX10_picture_40 fX10_7 (by repeat (first | with_reducible assumption | refine ex_eq ?_ | refine ex_ne ?_ (by omega) | exact ex_lt (by with_reducible assumption) | rw [List.length_set] | assumption)) (by rfl) ?_
    refine ew_iconst (M := mX10_picture) dX10_picture_43 (v := nI 1) (by decide) ?_
    refine ew_iald (M := mX10_picture) 1 dX10_picture_44 (by repeat (first | with_reducible assumption | refine ex_eq ?_ | refine ex_ne ?_ (by omega) | exact ex_lt (by with_reducible assumption) | rw [List.length_set] | assumption)) ⟨rfl, by decide, by decide⟩ ?_
    rw [w1]
    refine ew_imul (M := mX10_picture) dX10_picture_45 ?_
    rw [pk_mul]
    refine ew_iret (M := mX10_picture) dX10_picture_46 rfl (by first | rfl | decide) (Nat.le_refl _) (Nat.le_refl _) ?_
    refine ⟨by rw [ef], (((hc1.sub (mL_sub (by decide))).tr hc2 (mL_sub (by decide))).tr hc3 (mL_sub (by decide))).set (by decide), ?_⟩
    rw [ef]
    exact ⟨R1, mn, C, N, mo_t0 hS3 S.1.2⟩
  · have ef : f_picture S = ((-10) - nI (rd_fault S.1.2 S.1.1).1, s_fa (s_text S (0, S.1.2)) (nI (rd_fault S.1.2 S.1.1).2)) := by
      unfold f_picture
      rw [cif_n hf]
    refine ex_meth [(0, .ref 86)] rfl rfl rfl (fun b => Nat.le_of_ble_eq_true rfl) ?_
    refine ew_aload_n (M := mX10_picture) dX10_picture_0 rfl (Or.inr (Or.inl ⟨_, rfl⟩)) ?_
    refine ew_callV (M := mX10_picture) dX10_picture_1 vX10_112 (by repeat (first | with_reducible assumption | refine ex_eq ?_ | refine ex_ne ?_ (by omega) | exact ex_lt (by with_reducible assumption) | rw [List.length_set] | assumption)) rfl (ms_readText hS) rfl (Nat.le_of_ble_eq_true rfl) ⟨Nat.le_refl _, Nat.le_refl _⟩ rfl (fun H1 r1 q1 => ?_)
    obtain ⟨rfl, hc1, R1, hS1⟩ := q1
    rw [if_neg hf] at hS1
    have k1 := hS1.1
    refine ew_istore_n (M := mX10_picture) dX10_picture_4 (by decide) rfl ?_
    refine ew_iload_n (M := mX10_picture) dX10_picture_5 rfl ?_
    refine ew_if_ne (M := mX10_picture) (tgt := 17) dX10_picture_6 rfl (fun _ => ?_) (fun h => absurd h (nI_n0 (by omega) (by omega)))
    refine ew_aload_n (M := mX10_picture) dX10_picture_17 rfl (Or.inr (Or.inl ⟨_, rfl⟩)) ?_
    refine ew_iconst (M := mX10_picture) dX10_picture_18 (v := nI 0) (by decide) ?_
    refine ew_put (M := mX10_picture) dX10_picture_19 fX10_98 (by repeat (first | with_reducible assumption | refine ex_eq ?_ | refine ex_ne ?_ (by omega) | exact ex_lt (by with_reducible assumption) | rw [List.length_set] | assumption)) (by exact Nat.le_of_ble_eq_true rfl) ⟨rfl, rfl, fun _ h => by cases h⟩ ?_
    refine ew_iload_n (M := mX10_picture) dX10_picture_22 rfl ?_
    refine ew_if_le (M := mX10_picture) (tgt := 33) dX10_picture_23 rfl (fun h => absurd h (nI_nle (by omega) (by omega))) (fun _ => ?_)
    refine ew_bipush (M := mX10_picture) dX10_picture_26 (v := (-10)) (by decide) ?_
    refine ew_iload_n (M := mX10_picture) dX10_picture_28 rfl ?_
    refine ew_isub (M := mX10_picture) dX10_picture_29 ?_
    refine ew_goto (M := mX10_picture) (tgt := 46) dX10_picture_30 rfl ?_
    refine ew_iret (M := mX10_picture) dX10_picture_46 rfl (by first | rfl | decide) (Nat.le_refl _) (Nat.le_refl _) ?_
    refine ⟨by rw [ef], (hc1.sub (mL_sub (by decide))).set (by decide), ?_⟩
    rw [ef]
    exact ⟨R1, mn, C, N, mo_t0 hS1 S.1.2⟩
