theorem mo_N {H H' : ex_H} {S : SS} {R : Int32 × Int32 × Int32 × Int32} {mn : Int32} {C N N' : Nat → Int32} (hS : mo_at H S R mn C N) (hc : ex_ch H H' [97]) (h97 : H'[97]? = some (ar .int 82 N')) : mo_at H' S R mn C N' := by
  obtain ⟨a1, ⟨hfi, hsd, hkp⟩, ⟨W, a2, hw0, ⟨hcn, hwh⟩, hwi⟩, ⟨T, a3, htn, htx⟩, ⟨F, a4, hfl⟩, ⟨IF, IL, IS, a5, a6, a7, him⟩, ⟨BX, BY, BG, a8, a9, a10, hbn, hbk⟩, a11, a12⟩ := id hS
  exact ⟨hc.at a1 (by simp), ⟨hfi, hsd, hkp⟩, ⟨W, hc.at a2 (by simp), hw0, ⟨hcn, hwh⟩, hwi⟩, ⟨T, hc.at a3 (by simp), htn, htx⟩, ⟨F, hc.at a4 (by simp), hfl⟩, ⟨IF, IL, IS, hc.at a5 (by simp), hc.at a6 (by simp), hc.at a7 (by simp), him⟩, ⟨BX, BY, BG, hc.at a8 (by simp), hc.at a9 (by simp), hc.at a10 (by simp), hbn, hbk⟩, hc.at a11 (by simp), h97⟩
theorem mo_pg {H : ex_H} {S : SS} {R : Int32 × Int32 × Int32 × Int32} {mn : Int32} {C N : Nat → Int32} {w h : Nat} {g g' m : Nat → Nat} (hS : mo_at H (s_pic S (w, h, g, m)) R mn C N) (e : ∀ k, k < w * h → g k = g' k) : mo_at H (s_pic S (w, h, g', m)) R mn C N := by
  obtain ⟨a1, ⟨hfi, hsd, hkp⟩, ⟨W, a2, hw0, ⟨hcn, hwh⟩, hwi⟩, ⟨T, a3, htn, htx⟩, ⟨F, a4, hfl⟩, ⟨IF, IL, IS, a5, a6, a7, him⟩, ⟨BX, BY, BG, a8, a9, a10, hbn, hbk⟩, a11, a12⟩ := id hS
  obtain ⟨⟨hz, hgm⟩, h0, h1, hd⟩ := hw0
  refine ⟨a1, ⟨hfi, hsd, hkp⟩, ⟨W, a2, ⟨⟨hz, fun k hk => ?_⟩, h0, h1, fun i j hi hj => ?_⟩, ⟨hcn, hwh⟩, hwi⟩, ⟨T, a3, htn, htx⟩, ⟨F, a4, hfl⟩, ⟨IF, IL, IS, a5, a6, a7, him⟩, ⟨BX, BY, BG, a8, a9, a10, hbn, hbk⟩, a11, a12⟩
  · have h2 := hgm k hk
    have h3 : g k < 256 ∧ m k < 2 := h2
    show g' k < 256 ∧ m k < 2
    rw [← e k hk]
    exact h3
  · have h2 : W (0 + (2 + 10 * j + i)) = nI (g (j * w + i) + 256 * m (j * w + i)) := hd i j hi hj
    show W (0 + (2 + 10 * j + i)) = nI (g' (j * w + i) + 256 * m (j * w + i))
    rw [← e _ (pi_lt hi hj)]
    exact h2
def gpf (A g : Nat → Nat) (t : Nat) : Nat → Nat := fun k => if k < t then A k else g k
theorem gpf_0 (A g : Nat → Nat) : gpf A g 0 = g := by
  funext k
  exact if_neg (Nat.not_lt_zero k)
theorem gpf_s (A g : Nat → Nat) (t : Nat) : va_up (gpf A g t) t (A t) = gpf A g (t + 1) := by
  funext k
  simp only [va_up, gpf]
  by_cases e : k = t
  · subst e
    rw [if_pos rfl, if_pos (by omega)]
  · rw [if_neg e]
    by_cases h : k < t
    · rw [if_pos h, if_pos (by omega)]
    · rw [if_neg h, if_neg (by omega)]
/-- so far laid out anew: the rows before j, and in row j the dots before i -/
def nxI (A : Nat → Nat) (w : Nat) (N : Nat → Int32) (i j : Nat) : Prop := ∀ a b, a < w → b < j ∨ (b = j ∧ a < i) → N (2 + 10 * b + a) = nI (A (b * w + a))
theorem nxI_s {A : Nat → Nat} {w i j : Nat} {N : Nat → Int32} {X : Int32} (h : nxI A w N i j) (hw : w ≤ 10) (hi : i < w) (hX : X = nI (A (j * w + i))) : nxI A w (upd N (2 + 10 * j + i) X) (i + 1) j := fun a b ha hb => by
  show (if 2 + 10 * b + a = 2 + 10 * j + i then X else N (2 + 10 * b + a)) = _
  by_cases e : a = i ∧ b = j
  · obtain ⟨rfl, rfl⟩ := e
    rw [if_pos rfl, hX]
  · rw [if_neg (by omega)]
    exact h a b ha (by omega)
theorem ms_apply2 {d : Nat} {H0 H : ex_H} {S : SS} {R : Int32 × Int32 × Int32 × Int32} {mn : Int32} {C N : Nat → Int32} {f : Nat} (hc : ex_ch H0 H [86, 87, 96, 97]) (hS : mo_at H S R mn C N) (hf : f < S.2.2.1.2.1.1) (hN : nxI (apG S.2.2.1.1 (S.2.2.1.2.1.2 f) S.2.2.1.2.2.1) S.2.2.1.1.1 N 0 S.2.2.1.1.2.1) : ex_W mX10_applyNow (d + 6) 0 0 (fun H' r => r = some (.int (nI (pm_gother S.2.2.1.1.1 S.2.2.1.1.2.1 S.2.2.1.1.2.2.1 (apG S.2.2.1.1 (S.2.2.1.2.1.2 f) S.2.2.1.2.2.1)))) ∧ ex_ch H0 H' [86, 87, 96, 97] ∧ ∃ mn' C' N', mo_at H' (s_pic S (apP S.2.2.1.1 (S.2.2.1.2.1.2 f) S.2.2.1.2.2.1)) R mn' C' N') H 80 [(0, .ref 86), (1, .int (nI f)), (2, .int (nI 0))] [] 0 0 := by
  obtain ⟨a1, ⟨hfi, hsd, hkp⟩, ⟨W, a2, hw0, ⟨hcn, hwh⟩, hwi⟩, ⟨T, a3, htn, htx⟩, ⟨F, a4, hfl⟩, ⟨IF, IL, IS, a5, a6, a7, him⟩, ⟨BX, BY, BG, a8, a9, a10, hbn, hbk⟩, a11, a12⟩ := id hS
  obtain ⟨⟨⟨hz1, hz2, hz3, hz4⟩, hgm⟩, hW0, hW1, hWd⟩ := id hw0
  obtain ⟨-, -, f3, -⟩ := (hfl.2.2 f hf).2
  have e : pm_gother S.2.2.1.1.1 S.2.2.1.1.2.1 S.2.2.1.1.2.2.1 (apG S.2.2.1.1 (S.2.2.1.2.1.2 f) S.2.2.1.2.2.1) = fl (fun j s => fl (fun i => (fun k n => if S.2.2.1.1.2.2.1 k = apG S.2.2.1.1 (S.2.2.1.2.1.2 f) S.2.2.1.2.2.1 k then n else n + 1) (j * S.2.2.1.1.1 + i)) S.2.2.1.1.1 s) S.2.2.1.1.2.1 0 := fl_rows _ _ _ _
  rw [e]
  have hA : ∀ k, k < S.2.2.1.1.1 * S.2.2.1.1.2.1 → apG S.2.2.1.1 (S.2.2.1.2.1.2 f) S.2.2.1.2.2.1 k < 256 := fun k hk => apG_lt ⟨⟨hz1, hz2, hz3, hz4⟩, hgm⟩ f3 hk
  refine ew_iconst (M := mX10_applyNow) dX10_applyNow_80 (v := nI 0) (by decide) ?_
  refine ew_istore_n (M := mX10_applyNow) dX10_applyNow_81 (by decide) rfl ?_
  refine ew_ls [(0, .ref 86), (1, .int (nI f)), (2, .int (nI 0)), (3, .int (nI 0))] ⟨rfl, rfl, rfl, rfl, trivial⟩ ?_
  refine fl_down (F := fun j s => fl (fun i => (fun k n => if S.2.2.1.1.2.2.1 k = apG S.2.2.1.1 (S.2.2.1.2.1.2 f) S.2.2.1.2.2.1 k then n else n + 1) (j * S.2.2.1.1.1 + i)) S.2.2.1.1.1 s) (P := fun j s => ∀ H2 : ex_H, ex_ch H0 H2 [86, 87, 96, 97] → mo_at H2 (s_pic S (S.2.2.1.1.1, S.2.2.1.1.2.1, gpf (apG S.2.2.1.1 (S.2.2.1.2.1.2 f) S.2.2.1.2.2.1) S.2.2.1.1.2.2.1 (j * S.2.2.1.1.1), S.2.2.1.1.2.2.2)) R mn C N → ex_W mX10_applyNow (d + 6) 0 0 _ H2 82 [(0, .ref 86), (1, .int (nI f)), (2, .int (nI s)), (3, .int (nI j))] [] 0 0) S.2.2.1.1.2.1 0 (fun j s hj _ ko => ?_) ?_ H hc (by rw [Nat.zero_mul, gpf_0]; exact hS)
  · intro H2 hc2 hS2
    obtain ⟨b1, -, ⟨W2, b2, bw0, -⟩, -, -, -, -, -, b12⟩ := id hS2
    obtain ⟨-, w0, w1, -⟩ := id bw0
    have w1 : W2 1 = nI S.2.2.1.1.2.1 := w1
    have w0 : W2 0 = nI S.2.2.1.1.1 := w0
    refine ew_iload_n (M := mX10_applyNow) dX10_applyNow_82 rfl ?_
    refine ew_aload_n (M := mX10_applyNow) dX10_applyNow_83 rfl (Or.inr (Or.inl ⟨_, rfl⟩)) ?_
    refine ew_get (M := mX10_applyNow) dX10_applyNow_84 fX10_7 (by repeat (first | with_reducible assumption | refine ex_eq ?_ | refine ex_ne ?_ (by omega) | exact ex_lt (by with_reducible assumption) | rw [List.length_set] | assumption)) (by rfl) ?_
    refine ew_iconst (M := mX10_applyNow) dX10_applyNow_87 (v := nI 1) (by decide) ?_
    refine ew_iald (M := mX10_applyNow) 1 dX10_applyNow_88 (by repeat (first | with_reducible assumption | refine ex_eq ?_ | refine ex_ne ?_ (by omega) | exact ex_lt (by with_reducible assumption) | rw [List.length_set] | assumption)) ⟨rfl, by decide, by decide⟩ ?_
    rw [w1]
    refine ew_icmp_ge (M := mX10_applyNow) (tgt := 167) dX10_applyNow_89 rfl (fun h => absurd h (nI_ge hj (by omega))) (fun _ => ?_)
    refine ew_iconst (M := mX10_applyNow) dX10_applyNow_92 (v := nI 0) (by decide) ?_
    refine ew_istore (M := mX10_applyNow) dX10_applyNow_93 (by decide) rfl ?_
    refine ew_ls [(0, .ref 86), (1, .int (nI f)), (2, .int (nI s)), (3, .int (nI j)), (4, .int (nI 0))] ⟨rfl, rfl, rfl, rfl, rfl, trivial⟩ ?_
    refine fl_down (F := fun i => (fun k n => if S.2.2.1.1.2.2.1 k = apG S.2.2.1.1 (S.2.2.1.2.1.2 f) S.2.2.1.2.2.1 k then n else n + 1) (j * S.2.2.1.1.1 + i)) (P := fun i s => ∀ H2 : ex_H, ex_ch H0 H2 [86, 87, 96, 97] → mo_at H2 (s_pic S (S.2.2.1.1.1, S.2.2.1.1.2.1, gpf (apG S.2.2.1.1 (S.2.2.1.2.1.2 f) S.2.2.1.2.2.1) S.2.2.1.1.2.2.1 (j * S.2.2.1.1.1 + i), S.2.2.1.1.2.2.2)) R mn C N → ex_W mX10_applyNow (d + 6) 0 0 _ H2 95 [(0, .ref 86), (1, .int (nI f)), (2, .int (nI s)), (3, .int (nI j)), (4, .int (nI i))] [] 0 0) S.2.2.1.1.1 s (fun i s hi _ ki => ?_) ?_ H2 hc2 hS2
    · intro H3 hc3 hS3
      obtain ⟨d1, -, ⟨W3, d2, dw0, -⟩, -, -, -, -, -, d12⟩ := id hS3
      obtain ⟨-, x0, x1, -⟩ := id dw0
      have x1 : W3 1 = nI S.2.2.1.1.2.1 := x1
      have x0 : W3 0 = nI S.2.2.1.1.1 := x0
      have hm2 := hgm _ (pi_lt hi hj)
      have hAk := hA _ (pi_lt hi hj)
      have h82 := pl_80 hz2 hz4 hi hj
      have hNk := hN i j hi (Or.inl hj)
      have eg : gpf (apG S.2.2.1.1 (S.2.2.1.2.1.2 f) S.2.2.1.2.2.1) S.2.2.1.1.2.2.1 (j * S.2.2.1.1.1 + i) (j * S.2.2.1.1.1 + i) = S.2.2.1.1.2.2.1 (j * S.2.2.1.1.1 + i) := if_neg (by omega)
      refine ew_iload (M := mX10_applyNow) dX10_applyNow_95 rfl ?_
      refine ew_aload_n (M := mX10_applyNow) dX10_applyNow_97 rfl (Or.inr (Or.inl ⟨_, rfl⟩)) ?_
      refine ew_get (M := mX10_applyNow) dX10_applyNow_98 fX10_7 (by repeat (first | with_reducible assumption | refine ex_eq ?_ | refine ex_ne ?_ (by omega) | exact ex_lt (by with_reducible assumption) | rw [List.length_set] | assumption)) (by rfl) ?_
      refine ew_iconst (M := mX10_applyNow) dX10_applyNow_101 (v := nI 0) (by decide) ?_
      refine ew_iald (M := mX10_applyNow) 0 dX10_applyNow_102 (by repeat (first | with_reducible assumption | refine ex_eq ?_ | refine ex_ne ?_ (by omega) | exact ex_lt (by with_reducible assumption) | rw [List.length_set] | assumption)) ⟨rfl, by decide, by decide⟩ ?_
      rw [x0]
      refine ew_icmp_ge (M := mX10_applyNow) (tgt := 161) dX10_applyNow_103 rfl (fun h => absurd h (nI_ge hi (by omega))) (fun _ => ?_)
      refine ew_iload_n (M := mX10_applyNow) dX10_applyNow_106 rfl ?_
      refine ew_aload_n (M := mX10_applyNow) dX10_applyNow_107 rfl (Or.inr (Or.inl ⟨_, rfl⟩)) ?_
      refine ew_get (M := mX10_applyNow) dX10_applyNow_108 fX10_44 (by repeat (first | with_reducible assumption | refine ex_eq ?_ | refine ex_ne ?_ (by omega) | exact ex_lt (by with_reducible assumption) | rw [List.length_set] | assumption)) (by rfl) ?_
      refine ew_aload_n (M := mX10_applyNow) dX10_applyNow_111 rfl (Or.inr (Or.inl ⟨_, rfl⟩)) ?_
      refine ew_iload (M := mX10_applyNow) dX10_applyNow_112 rfl ?_
      refine ew_iload_n (M := mX10_applyNow) dX10_applyNow_114 rfl ?_
      refine ew_callV (M := mX10_applyNow) dX10_applyNow_115 vX10_54 (by repeat (first | with_reducible assumption | refine ex_eq ?_ | refine ex_ne ?_ (by omega) | exact ex_lt (by with_reducible assumption) | rw [List.length_set] | assumption)) rfl (ms_place) rfl (Nat.le_of_ble_eq_true rfl) ⟨Nat.le_refl _, Nat.le_refl _⟩ rfl (fun H115 r115 q115 => ?_)
      obtain ⟨rfl, rfl⟩ := q115
      refine ew_iald (M := mX10_applyNow) (2 + 10 * j + i) dX10_applyNow_118 (by repeat (first | with_reducible assumption | refine ex_eq ?_ | refine ex_ne ?_ (by omega) | exact ex_lt (by with_reducible assumption) | rw [List.length_set] | assumption)) ⟨rfl, by omega, by decide⟩ ?_
      rw [hNk]
      refine ew_aload_n (M := mX10_applyNow) dX10_applyNow_119 rfl (Or.inr (Or.inl ⟨_, rfl⟩)) ?_
      refine ew_iload (M := mX10_applyNow) dX10_applyNow_120 rfl ?_
      refine ew_iload_n (M := mX10_applyNow) dX10_applyNow_122 rfl ?_
      refine ew_callV (M := mX10_applyNow) dX10_applyNow_123 vX10_137 (by repeat (first | with_reducible assumption | refine ex_eq ?_ | refine ex_ne ?_ (by omega) | exact ex_lt (by with_reducible assumption) | rw [List.length_set] | assumption)) rfl (ms_grey hS3 hi hj) rfl (Nat.le_of_ble_eq_true rfl) ⟨Nat.le_refl _, Nat.le_refl _⟩ rfl (fun H123 r123 q123 => ?_)
      obtain ⟨rfl, rfl⟩ := q123
      refine ew_icmp_eq (M := mX10_applyNow) (tgt := 133) dX10_applyNow_126 rfl (fun c126 => ?_) (fun c126 => ?_)
      · have c : nI (apG S.2.2.1.1 (S.2.2.1.2.1.2 f) S.2.2.1.2.2.1 (j * S.2.2.1.1.1 + i)) = nI (gpf (apG S.2.2.1.1 (S.2.2.1.2.1.2 f) S.2.2.1.2.2.1) S.2.2.1.1.2.2.1 (j * S.2.2.1.1.1 + i) (j * S.2.2.1.1.1 + i)) := c126
        rw [eg, nI_eq (by omega) (by omega)] at c
        have es : (if S.2.2.1.1.2.2.1 (j * S.2.2.1.1.1 + i) = apG S.2.2.1.1 (S.2.2.1.2.1.2 f) S.2.2.1.2.2.1 (j * S.2.2.1.1.1 + i) then s else s + 1) = s := if_pos c.symm
        simp only [es] at ki
        refine ew_iconst (M := mX10_applyNow) dX10_applyNow_133 (v := nI 0) (by decide) ?_
        refine ew_iadd (M := mX10_applyNow) dX10_applyNow_134 ?_
        rw [nI_add]
        refine ew_istore_n (M := mX10_applyNow) dX10_applyNow_135 (by decide) rfl ?_
        refine ew_aload_n (M := mX10_applyNow) dX10_applyNow_136 rfl (Or.inr (Or.inl ⟨_, rfl⟩)) ?_
        refine ew_iload (M := mX10_applyNow) dX10_applyNow_137 rfl ?_
        refine ew_iload_n (M := mX10_applyNow) dX10_applyNow_139 rfl ?_
        refine ew_aload_n (M := mX10_applyNow) dX10_applyNow_140 rfl (Or.inr (Or.inl ⟨_, rfl⟩)) ?_
        refine ew_get (M := mX10_applyNow) dX10_applyNow_141 fX10_44 (by repeat (first | with_reducible assumption | refine ex_eq ?_ | refine ex_ne ?_ (by omega) | exact ex_lt (by with_reducible assumption) | rw [List.length_set] | assumption)) (by rfl) ?_
        refine ew_aload_n (M := mX10_applyNow) dX10_applyNow_144 rfl (Or.inr (Or.inl ⟨_, rfl⟩)) ?_
        refine ew_iload (M := mX10_applyNow) dX10_applyNow_145 rfl ?_
        refine ew_iload_n (M := mX10_applyNow) dX10_applyNow_147 rfl ?_
        refine ew_callV (M := mX10_applyNow) dX10_applyNow_148 vX10_54 (by repeat (first | with_reducible assumption | refine ex_eq ?_ | refine ex_ne ?_ (by omega) | exact ex_lt (by with_reducible assumption) | rw [List.length_set] | assumption)) rfl (ms_place) rfl (Nat.le_of_ble_eq_true rfl) ⟨Nat.le_refl _, Nat.le_refl _⟩ rfl (fun H148 r148 q148 => ?_)
        obtain ⟨rfl, rfl⟩ := q148
        refine ew_iald (M := mX10_applyNow) (2 + 10 * j + i) dX10_applyNow_151 (by repeat (first | with_reducible assumption | refine ex_eq ?_ | refine ex_ne ?_ (by omega) | exact ex_lt (by with_reducible assumption) | rw [List.length_set] | assumption)) ⟨rfl, by omega, by decide⟩ ?_
        rw [hNk]
        refine ew_callV (M := mX10_applyNow) dX10_applyNow_152 vX10_160 (by repeat (first | with_reducible assumption | refine ex_eq ?_ | refine ex_ne ?_ (by omega) | exact ex_lt (by with_reducible assumption) | rw [List.length_set] | assumption)) rfl (ms_setGrey hS3 hi hj hAk) rfl (Nat.le_of_ble_eq_true rfl) ⟨Nat.le_refl _, Nat.le_refl _⟩ rfl (fun H152 r152 q152 => ?_)
        obtain ⟨rfl, hc4, hS4⟩ := q152
        have hS5 : mo_at H152 (s_pic S (S.2.2.1.1.1, S.2.2.1.1.2.1, gpf (apG S.2.2.1.1 (S.2.2.1.2.1.2 f) S.2.2.1.2.2.1) S.2.2.1.1.2.2.1 (j * S.2.2.1.1.1 + i + 1), S.2.2.1.1.2.2.2)) R mn C N := by
          rw [← gpf_s]
          exact hS4
        refine ew_iinc (M := mX10_applyNow) dX10_applyNow_155 rfl (ex_inc i) (by decide) rfl ?_
        refine ew_goto (M := mX10_applyNow) (tgt := 95) dX10_applyNow_158 rfl ?_
        refine ew_ls _ ?_ (ki _ (hc3.tr hc4 (by simp)) hS5)
        exact ⟨rfl, rfl, rfl, rfl, rfl, trivial⟩
      · have c : ¬ nI (apG S.2.2.1.1 (S.2.2.1.2.1.2 f) S.2.2.1.2.2.1 (j * S.2.2.1.1.1 + i)) = nI (gpf (apG S.2.2.1.1 (S.2.2.1.2.1.2 f) S.2.2.1.2.2.1) S.2.2.1.1.2.2.1 (j * S.2.2.1.1.1 + i) (j * S.2.2.1.1.1 + i)) := c126
        rw [eg, nI_eq (by omega) (by omega)] at c
        have es : (if S.2.2.1.1.2.2.1 (j * S.2.2.1.1.1 + i) = apG S.2.2.1.1 (S.2.2.1.2.1.2 f) S.2.2.1.2.2.1 (j * S.2.2.1.1.1 + i) then s else s + 1) = s + 1 := if_neg (fun q => c q.symm)
        simp only [es] at ki
        refine ew_iconst (M := mX10_applyNow) dX10_applyNow_129 (v := nI 1) (by decide) ?_
        refine ew_goto (M := mX10_applyNow) (tgt := 134) dX10_applyNow_130 rfl ?_
        refine ew_iadd (M := mX10_applyNow) dX10_applyNow_134 ?_
        rw [nI_add]
        refine ew_istore_n (M := mX10_applyNow) dX10_applyNow_135 (by decide) rfl ?_
        refine ew_aload_n (M := mX10_applyNow) dX10_applyNow_136 rfl (Or.inr (Or.inl ⟨_, rfl⟩)) ?_
        refine ew_iload (M := mX10_applyNow) dX10_applyNow_137 rfl ?_
        refine ew_iload_n (M := mX10_applyNow) dX10_applyNow_139 rfl ?_
        refine ew_aload_n (M := mX10_applyNow) dX10_applyNow_140 rfl (Or.inr (Or.inl ⟨_, rfl⟩)) ?_
        refine ew_get (M := mX10_applyNow) dX10_applyNow_141 fX10_44 (by repeat (first | with_reducible assumption | refine ex_eq ?_ | refine ex_ne ?_ (by omega) | exact ex_lt (by with_reducible assumption) | rw [List.length_set] | assumption)) (by rfl) ?_
        refine ew_aload_n (M := mX10_applyNow) dX10_applyNow_144 rfl (Or.inr (Or.inl ⟨_, rfl⟩)) ?_
        refine ew_iload (M := mX10_applyNow) dX10_applyNow_145 rfl ?_
        refine ew_iload_n (M := mX10_applyNow) dX10_applyNow_147 rfl ?_
        refine ew_callV (M := mX10_applyNow) dX10_applyNow_148 vX10_54 (by repeat (first | with_reducible assumption | refine ex_eq ?_ | refine ex_ne ?_ (by omega) | exact ex_lt (by with_reducible assumption) | rw [List.length_set] | assumption)) rfl (ms_place) rfl (Nat.le_of_ble_eq_true rfl) ⟨Nat.le_refl _, Nat.le_refl _⟩ rfl (fun H148 r148 q148 => ?_)
        obtain ⟨rfl, rfl⟩ := q148
        refine ew_iald (M := mX10_applyNow) (2 + 10 * j + i) dX10_applyNow_151 (by repeat (first | with_reducible assumption | refine ex_eq ?_ | refine ex_ne ?_ (by omega) | exact ex_lt (by with_reducible assumption) | rw [List.length_set] | assumption)) ⟨rfl, by omega, by decide⟩ ?_
        rw [hNk]
        refine ew_callV (M := mX10_applyNow) dX10_applyNow_152 vX10_160 (by repeat (first | with_reducible assumption | refine ex_eq ?_ | refine ex_ne ?_ (by omega) | exact ex_lt (by with_reducible assumption) | rw [List.length_set] | assumption)) rfl (ms_setGrey hS3 hi hj hAk) rfl (Nat.le_of_ble_eq_true rfl) ⟨Nat.le_refl _, Nat.le_refl _⟩ rfl (fun H152 r152 q152 => ?_)
        obtain ⟨rfl, hc4, hS4⟩ := q152
        have hS5 : mo_at H152 (s_pic S (S.2.2.1.1.1, S.2.2.1.1.2.1, gpf (apG S.2.2.1.1 (S.2.2.1.2.1.2 f) S.2.2.1.2.2.1) S.2.2.1.1.2.2.1 (j * S.2.2.1.1.1 + i + 1), S.2.2.1.1.2.2.2)) R mn C N := by
          rw [← gpf_s]
          exact hS4
        refine ew_iinc (M := mX10_applyNow) dX10_applyNow_155 rfl (ex_inc i) (by decide) rfl ?_
        refine ew_goto (M := mX10_applyNow) (tgt := 95) dX10_applyNow_158 rfl ?_
        refine ew_ls _ ?_ (ki _ (hc3.tr hc4 (by simp)) hS5)
        exact ⟨rfl, rfl, rfl, rfl, rfl, trivial⟩
    · intro H3 hc3 hS3
      obtain ⟨d1, -, ⟨W3, d2, dw0, -⟩, -, -, -, -, -, d12⟩ := id hS3
      obtain ⟨-, x0, x1, -⟩ := id dw0
      have x1 : W3 1 = nI S.2.2.1.1.2.1 := x1
      have x0 : W3 0 = nI S.2.2.1.1.1 := x0
      refine ew_iload (M := mX10_applyNow) dX10_applyNow_95 rfl ?_
      refine ew_aload_n (M := mX10_applyNow) dX10_applyNow_97 rfl (Or.inr (Or.inl ⟨_, rfl⟩)) ?_
      refine ew_get (M := mX10_applyNow) dX10_applyNow_98 fX10_7 (by repeat (first | with_reducible assumption | refine ex_eq ?_ | refine ex_ne ?_ (by omega) | exact ex_lt (by with_reducible assumption) | rw [List.length_set] | assumption)) (by rfl) ?_
      refine ew_iconst (M := mX10_applyNow) dX10_applyNow_101 (v := nI 0) (by decide) ?_
      refine ew_iald (M := mX10_applyNow) 0 dX10_applyNow_102 (by repeat (first | with_reducible assumption | refine ex_eq ?_ | refine ex_ne ?_ (by omega) | exact ex_lt (by with_reducible assumption) | rw [List.length_set] | assumption)) ⟨rfl, by decide, by decide⟩ ?_
      rw [x0]
      refine ew_icmp_ge (M := mX10_applyNow) (tgt := 161) dX10_applyNow_103 rfl (fun _ => ?_) (fun h => absurd (nI_le (Nat.le_refl _) (by omega)) h)
      refine ew_iinc (M := mX10_applyNow) dX10_applyNow_161 rfl (ex_inc j) (by decide) rfl ?_
      refine ew_goto (M := mX10_applyNow) (tgt := 82) dX10_applyNow_164 rfl ?_
      refine ew_ls _ ?_ (ko _ hc3 (by rw [Nat.succ_mul]; exact hS3))
      exact ⟨rfl, rfl, rfl, rfl, trivial⟩
  · intro H2 hc2 hS2
    obtain ⟨b1, -, ⟨W2, b2, bw0, -⟩, -, -, -, -, -, b12⟩ := id hS2
    obtain ⟨-, w0, w1, -⟩ := id bw0
    have w1 : W2 1 = nI S.2.2.1.1.2.1 := w1
    have w0 : W2 0 = nI S.2.2.1.1.1 := w0
    refine ew_iload_n (M := mX10_applyNow) dX10_applyNow_82 rfl ?_
    refine ew_aload_n (M := mX10_applyNow) dX10_applyNow_83 rfl (Or.inr (Or.inl ⟨_, rfl⟩)) ?_
    refine ew_get (M := mX10_applyNow) dX10_applyNow_84 fX10_7 (by repeat (first | with_reducible assumption | refine ex_eq ?_ | refine ex_ne ?_ (by omega) | exact ex_lt (by with_reducible assumption) | rw [List.length_set] | assumption)) (by rfl) ?_
    refine ew_iconst (M := mX10_applyNow) dX10_applyNow_87 (v := nI 1) (by decide) ?_
    refine ew_iald (M := mX10_applyNow) 1 dX10_applyNow_88 (by repeat (first | with_reducible assumption | refine ex_eq ?_ | refine ex_ne ?_ (by omega) | exact ex_lt (by with_reducible assumption) | rw [List.length_set] | assumption)) ⟨rfl, by decide, by decide⟩ ?_
    rw [w1]
    refine ew_icmp_ge (M := mX10_applyNow) (tgt := 167) dX10_applyNow_89 rfl (fun _ => ?_) (fun h => absurd (nI_le (Nat.le_refl _) (by omega)) h)
    refine ew_iload_n (M := mX10_applyNow) dX10_applyNow_167 rfl ?_
    refine ew_iret (M := mX10_applyNow) dX10_applyNow_168 rfl (by first | rfl | decide) (Nat.le_refl _) (Nat.le_refl _) ?_
    exact ⟨rfl, hc2, mn, C, N, mo_pg (g := gpf (apG S.2.2.1.1 (S.2.2.1.2.1.2 f) S.2.2.1.2.2.1) S.2.2.1.1.2.2.1 (S.2.2.1.1.2.1 * S.2.2.1.1.1)) hS2 (fun k hk => if_pos (by rw [Nat.mul_comm]; exact hk))⟩
theorem ms_applyNow {d : Nat} {H : ex_H} {S : SS} {R : Int32 × Int32 × Int32 × Int32} {mn : Int32} {C N : Nat → Int32} (hS : mo_at H S R mn C N) {f : Nat} (hf : f < S.2.2.1.2.1.1) : ex_Met mX10_applyNow (d + 6) 0 0 H [.ref 86, .int (nI f)] (fun H' r => r = some (.int (nI (pm_gother S.2.2.1.1.1 S.2.2.1.1.2.1 S.2.2.1.1.2.2.1 (apG S.2.2.1.1 (S.2.2.1.2.1.2 f) S.2.2.1.2.2.1)))) ∧ ex_ch H H' [86, 87, 96, 97] ∧ ∃ mn' C' N', mo_at H' (s_pic S (apP S.2.2.1.1 (S.2.2.1.2.1.2 f) S.2.2.1.2.2.1)) R mn' C' N') := by
  obtain ⟨a1, ⟨hfi, hsd, hkp⟩, ⟨W, a2, hw0, ⟨hcn, hwh⟩, hwi⟩, ⟨T, a3, htn, htx⟩, ⟨F, a4, hfl⟩, ⟨IF, IL, IS, a5, a6, a7, him⟩, ⟨BX, BY, BG, a8, a9, a10, hbn, hbk⟩, a11, a12⟩ := id hS
  obtain ⟨⟨⟨hz1, hz2, hz3, hz4⟩, hgm⟩, hW0, hW1, hWd⟩ := id hw0
  obtain ⟨-, -, f3, -⟩ := (hfl.2.2 f hf).2
  refine ex_meth [(0, .ref 86), (1, .int (nI f))] rfl rfl rfl (fun b => Nat.le_of_ble_eq_true rfl) ?_
  refine ew_iconst (M := mX10_applyNow) dX10_applyNow_0 (v := nI 0) (by decide) ?_
  refine ew_istore_n (M := mX10_applyNow) dX10_applyNow_1 (by decide) rfl ?_
  refine ew_iconst (M := mX10_applyNow) dX10_applyNow_2 (v := nI 0) (by decide) ?_
  refine ew_istore_n (M := mX10_applyNow) dX10_applyNow_3 (by decide) rfl ?_
  refine ew_ls [(0, .ref 86), (1, .int (nI f)), (2, .int (nI 0)), (3, .int (nI 0))] ⟨rfl, rfl, rfl, rfl, trivial⟩ ?_
  refine nat_down (P := fun j => ∀ (H2 : ex_H) (m2 : Int32) (C2 N2 : Nat → Int32), ex_ch H H2 [86, 87, 96, 97] → mo_at H2 S R m2 C2 N2 → nxI (apG S.2.2.1.1 (S.2.2.1.2.1.2 f) S.2.2.1.2.2.1) S.2.2.1.1.1 N2 0 j → ex_W mX10_applyNow (d + 6) 0 0 _ H2 4 [(0, .ref 86), (1, .int (nI f)), (2, .int (nI 0)), (3, .int (nI j))] [] 0 0) S.2.2.1.1.2.1 (fun j hj ko => ?_) ?_ H mn C N ex_ch.rf hS (fun a b ha hb => by omega)
  · intro H2 m2 C2 N2 hc2 hS2 hn2
    obtain ⟨b1, -, ⟨W2, b2, bw0, -⟩, -, -, -, -, -, b12⟩ := id hS2
    obtain ⟨-, w0, w1, -⟩ := id bw0
    have w1 : W2 1 = nI S.2.2.1.1.2.1 := w1
    have w0 : W2 0 = nI S.2.2.1.1.1 := w0
    refine ew_iload_n (M := mX10_applyNow) dX10_applyNow_4 rfl ?_
    refine ew_aload_n (M := mX10_applyNow) dX10_applyNow_5 rfl (Or.inr (Or.inl ⟨_, rfl⟩)) ?_
    refine ew_get (M := mX10_applyNow) dX10_applyNow_6 fX10_7 (by repeat (first | with_reducible assumption | refine ex_eq ?_ | refine ex_ne ?_ (by omega) | exact ex_lt (by with_reducible assumption) | rw [List.length_set] | assumption)) (by rfl) ?_
    refine ew_iconst (M := mX10_applyNow) dX10_applyNow_9 (v := nI 1) (by decide) ?_
    refine ew_iald (M := mX10_applyNow) 1 dX10_applyNow_10 (by repeat (first | with_reducible assumption | refine ex_eq ?_ | refine ex_ne ?_ (by omega) | exact ex_lt (by with_reducible assumption) | rw [List.length_set] | assumption)) ⟨rfl, by decide, by decide⟩ ?_
    rw [w1]
    refine ew_icmp_ge (M := mX10_applyNow) (tgt := 80) dX10_applyNow_11 rfl (fun h => absurd h (nI_ge hj (by omega))) (fun _ => ?_)
    refine ew_iconst (M := mX10_applyNow) dX10_applyNow_14 (v := nI 0) (by decide) ?_
    refine ew_istore (M := mX10_applyNow) dX10_applyNow_15 (by decide) rfl ?_
    refine ew_ls [(0, .ref 86), (1, .int (nI f)), (2, .int (nI 0)), (3, .int (nI j)), (4, .int (nI 0))] ⟨rfl, rfl, rfl, rfl, rfl, trivial⟩ ?_
    refine nat_down (P := fun i => ∀ (H2 : ex_H) (m2 : Int32) (C2 N2 : Nat → Int32), ex_ch H H2 [86, 87, 96, 97] → mo_at H2 S R m2 C2 N2 → nxI (apG S.2.2.1.1 (S.2.2.1.2.1.2 f) S.2.2.1.2.2.1) S.2.2.1.1.1 N2 i j → ex_W mX10_applyNow (d + 6) 0 0 _ H2 17 [(0, .ref 86), (1, .int (nI f)), (2, .int (nI 0)), (3, .int (nI j)), (4, .int (nI i))] [] 0 0) S.2.2.1.1.1 (fun i hi ki => ?_) ?_ H2 m2 C2 N2 hc2 hS2 hn2
    · intro H3 m3 C3 N3 hc3 hS3 hn3
      obtain ⟨d1, -, ⟨W3, d2, dw0, -⟩, -, -, -, -, -, d12⟩ := id hS3
      obtain ⟨-, x0, x1, -⟩ := id dw0
      have x1 : W3 1 = nI S.2.2.1.1.2.1 := x1
      have x0 : W3 0 = nI S.2.2.1.1.1 := x0
      have hm2 := hgm _ (pi_lt hi hj)
      have h82 := pl_80 hz2 hz4 hi hj
      have ek := tu_at (w := S.2.2.1.1.1) (j := j) hi
      by_cases hm : S.2.2.1.1.2.2.2 (j * S.2.2.1.1.1 + i) = 0
      · have hL := ls_pos (v := (S.2.2.1.2.1.2 f)) (fi := S.2.2.1.2.2.1) ⟨⟨hz1, hz2, hz3, hz4⟩, hgm⟩ hi hj hm f3
        have eA : apG S.2.2.1.1 (S.2.2.1.2.1.2 f) S.2.2.1.2.2.1 (j * S.2.2.1.1.1 + i) = lsV S.2.2.1.1 (S.2.2.1.2.1.2 f) S.2.2.1.2.2.1 i j := by
          unfold apG
          rw [if_pos hm, ek.1, ek.2]
        refine ew_iload (M := mX10_applyNow) dX10_applyNow_17 rfl ?_
        refine ew_aload_n (M := mX10_applyNow) dX10_applyNow_19 rfl (Or.inr (Or.inl ⟨_, rfl⟩)) ?_
        refine ew_get (M := mX10_applyNow) dX10_applyNow_20 fX10_7 (by repeat (first | with_reducible assumption | refine ex_eq ?_ | refine ex_ne ?_ (by omega) | exact ex_lt (by with_reducible assumption) | rw [List.length_set] | assumption)) (by rfl) ?_
        refine ew_iconst (M := mX10_applyNow) dX10_applyNow_23 (v := nI 0) (by decide) ?_
        refine ew_iald (M := mX10_applyNow) 0 dX10_applyNow_24 (by repeat (first | with_reducible assumption | refine ex_eq ?_ | refine ex_ne ?_ (by omega) | exact ex_lt (by with_reducible assumption) | rw [List.length_set] | assumption)) ⟨rfl, by decide, by decide⟩ ?_
        rw [x0]
        refine ew_icmp_ge (M := mX10_applyNow) (tgt := 74) dX10_applyNow_25 rfl (fun h => absurd h (nI_ge hi (by omega))) (fun _ => ?_)
        refine ew_aload_n (M := mX10_applyNow) dX10_applyNow_28 rfl (Or.inr (Or.inl ⟨_, rfl⟩)) ?_
        refine ew_get (M := mX10_applyNow) dX10_applyNow_29 fX10_44 (by repeat (first | with_reducible assumption | refine ex_eq ?_ | refine ex_ne ?_ (by omega) | exact ex_lt (by with_reducible assumption) | rw [List.length_set] | assumption)) (by rfl) ?_
        refine ew_aload_n (M := mX10_applyNow) dX10_applyNow_32 rfl (Or.inr (Or.inl ⟨_, rfl⟩)) ?_
        refine ew_iload (M := mX10_applyNow) dX10_applyNow_33 rfl ?_
        refine ew_iload_n (M := mX10_applyNow) dX10_applyNow_35 rfl ?_
        refine ew_callV (M := mX10_applyNow) dX10_applyNow_36 vX10_54 (by repeat (first | with_reducible assumption | refine ex_eq ?_ | refine ex_ne ?_ (by omega) | exact ex_lt (by with_reducible assumption) | rw [List.length_set] | assumption)) rfl (ms_place) rfl (Nat.le_of_ble_eq_true rfl) ⟨Nat.le_refl _, Nat.le_refl _⟩ rfl (fun H36 r36 q36 => ?_)
        obtain ⟨rfl, rfl⟩ := q36
        refine ew_aload_n (M := mX10_applyNow) dX10_applyNow_39 rfl (Or.inr (Or.inl ⟨_, rfl⟩)) ?_
        refine ew_iload (M := mX10_applyNow) dX10_applyNow_40 rfl ?_
        refine ew_iload_n (M := mX10_applyNow) dX10_applyNow_42 rfl ?_
        refine ew_callV (M := mX10_applyNow) dX10_applyNow_43 vX10_62 (by repeat (first | with_reducible assumption | refine ex_eq ?_ | refine ex_ne ?_ (by omega) | exact ex_lt (by with_reducible assumption) | rw [List.length_set] | assumption)) rfl (ms_isMasked hS3 hi hj) rfl (Nat.le_of_ble_eq_true rfl) ⟨Nat.le_refl _, Nat.le_refl _⟩ rfl (fun H43 r43 q43 => ?_)
        obtain ⟨rfl, rfl⟩ := q43
        rw [hm]
        refine ew_if_eq (M := mX10_applyNow) (tgt := 59) dX10_applyNow_46 rfl (fun _ => ?_) (fun h => absurd rfl h)
        refine ew_aload_n (M := mX10_applyNow) dX10_applyNow_59 rfl (Or.inr (Or.inl ⟨_, rfl⟩)) ?_
        refine ew_iload_n (M := mX10_applyNow) dX10_applyNow_60 rfl ?_
        refine ew_iload (M := mX10_applyNow) dX10_applyNow_61 rfl ?_
        refine ew_iload_n (M := mX10_applyNow) dX10_applyNow_63 rfl ?_
        refine ew_callV (M := mX10_applyNow) dX10_applyNow_64 vX10_157 (by repeat (first | with_reducible assumption | refine ex_eq ?_ | refine ex_ne ?_ (by omega) | exact ex_lt (by with_reducible assumption) | rw [List.length_set] | assumption)) rfl (ms_lastOf hS3 hf hi hj) rfl (Nat.le_of_ble_eq_true rfl) ⟨Nat.le_refl _, Nat.le_refl _⟩ rfl (fun H64 r64 q64 => ?_)
        obtain ⟨rfl, hc4, n4, C4, hS4, -⟩ := q64
        rw [hL.1]
        have d1 := hS4.1
        obtain ⟨-, -, -, -, -, -, -, -, d12⟩ := id hS4
        refine ew_iast (M := mX10_applyNow) (2 + 10 * j + i) dX10_applyNow_67 (by repeat (first | with_reducible assumption | refine ex_eq ?_ | refine ex_ne ?_ (by omega) | exact ex_lt (by with_reducible assumption) | rw [List.length_set] | assumption)) ⟨rfl, by omega, by decide⟩ ?_
        refine ew_iinc (M := mX10_applyNow) dX10_applyNow_68 rfl (ex_inc i) (by decide) rfl ?_
        refine ew_goto (M := mX10_applyNow) (tgt := 17) dX10_applyNow_71 rfl ?_
        refine ew_ls _ ?_ (ki _ _ _ _ ((hc3.tr hc4 (by simp)).set (by simp)) (mo_N hS4 (ex_ch.rf.set (by simp)) (ex_eq (ex_lt d12))) (nxI_s hn3 hz2 hi (by rw [eA])))
        exact ⟨rfl, rfl, rfl, rfl, rfl, trivial⟩
      · have eA : apG S.2.2.1.1 (S.2.2.1.2.1.2 f) S.2.2.1.2.2.1 (j * S.2.2.1.1.1 + i) = S.2.2.1.1.2.2.1 (j * S.2.2.1.1.1 + i) := by
          unfold apG
          rw [if_neg hm]
        refine ew_iload (M := mX10_applyNow) dX10_applyNow_17 rfl ?_
        refine ew_aload_n (M := mX10_applyNow) dX10_applyNow_19 rfl (Or.inr (Or.inl ⟨_, rfl⟩)) ?_
        refine ew_get (M := mX10_applyNow) dX10_applyNow_20 fX10_7 (by repeat (first | with_reducible assumption | refine ex_eq ?_ | refine ex_ne ?_ (by omega) | exact ex_lt (by with_reducible assumption) | rw [List.length_set] | assumption)) (by rfl) ?_
        refine ew_iconst (M := mX10_applyNow) dX10_applyNow_23 (v := nI 0) (by decide) ?_
        refine ew_iald (M := mX10_applyNow) 0 dX10_applyNow_24 (by repeat (first | with_reducible assumption | refine ex_eq ?_ | refine ex_ne ?_ (by omega) | exact ex_lt (by with_reducible assumption) | rw [List.length_set] | assumption)) ⟨rfl, by decide, by decide⟩ ?_
        rw [x0]
        refine ew_icmp_ge (M := mX10_applyNow) (tgt := 74) dX10_applyNow_25 rfl (fun h => absurd h (nI_ge hi (by omega))) (fun _ => ?_)
        refine ew_aload_n (M := mX10_applyNow) dX10_applyNow_28 rfl (Or.inr (Or.inl ⟨_, rfl⟩)) ?_
        refine ew_get (M := mX10_applyNow) dX10_applyNow_29 fX10_44 (by repeat (first | with_reducible assumption | refine ex_eq ?_ | refine ex_ne ?_ (by omega) | exact ex_lt (by with_reducible assumption) | rw [List.length_set] | assumption)) (by rfl) ?_
        refine ew_aload_n (M := mX10_applyNow) dX10_applyNow_32 rfl (Or.inr (Or.inl ⟨_, rfl⟩)) ?_
        refine ew_iload (M := mX10_applyNow) dX10_applyNow_33 rfl ?_
        refine ew_iload_n (M := mX10_applyNow) dX10_applyNow_35 rfl ?_
        refine ew_callV (M := mX10_applyNow) dX10_applyNow_36 vX10_54 (by repeat (first | with_reducible assumption | refine ex_eq ?_ | refine ex_ne ?_ (by omega) | exact ex_lt (by with_reducible assumption) | rw [List.length_set] | assumption)) rfl (ms_place) rfl (Nat.le_of_ble_eq_true rfl) ⟨Nat.le_refl _, Nat.le_refl _⟩ rfl (fun H36 r36 q36 => ?_)
        obtain ⟨rfl, rfl⟩ := q36
        refine ew_aload_n (M := mX10_applyNow) dX10_applyNow_39 rfl (Or.inr (Or.inl ⟨_, rfl⟩)) ?_
        refine ew_iload (M := mX10_applyNow) dX10_applyNow_40 rfl ?_
        refine ew_iload_n (M := mX10_applyNow) dX10_applyNow_42 rfl ?_
        refine ew_callV (M := mX10_applyNow) dX10_applyNow_43 vX10_62 (by repeat (first | with_reducible assumption | refine ex_eq ?_ | refine ex_ne ?_ (by omega) | exact ex_lt (by with_reducible assumption) | rw [List.length_set] | assumption)) rfl (ms_isMasked hS3 hi hj) rfl (Nat.le_of_ble_eq_true rfl) ⟨Nat.le_refl _, Nat.le_refl _⟩ rfl (fun H43 r43 q43 => ?_)
        obtain ⟨rfl, rfl⟩ := q43
        refine ew_if_eq (M := mX10_applyNow) (tgt := 59) dX10_applyNow_46 rfl (fun h => absurd h (nI_n0 (by omega) (by omega))) (fun _ => ?_)
        refine ew_aload_n (M := mX10_applyNow) dX10_applyNow_49 rfl (Or.inr (Or.inl ⟨_, rfl⟩)) ?_
        refine ew_iload (M := mX10_applyNow) dX10_applyNow_50 rfl ?_
        refine ew_iload_n (M := mX10_applyNow) dX10_applyNow_52 rfl ?_
        refine ew_callV (M := mX10_applyNow) dX10_applyNow_53 vX10_137 (by repeat (first | with_reducible assumption | refine ex_eq ?_ | refine ex_ne ?_ (by omega) | exact ex_lt (by with_reducible assumption) | rw [List.length_set] | assumption)) rfl (ms_grey hS3 hi hj) rfl (Nat.le_of_ble_eq_true rfl) ⟨Nat.le_refl _, Nat.le_refl _⟩ rfl (fun H53 r53 q53 => ?_)
        obtain ⟨rfl, rfl⟩ := q53
        refine ew_goto (M := mX10_applyNow) (tgt := 67) dX10_applyNow_56 rfl ?_
        refine ew_iast (M := mX10_applyNow) (2 + 10 * j + i) dX10_applyNow_67 (by repeat (first | with_reducible assumption | refine ex_eq ?_ | refine ex_ne ?_ (by omega) | exact ex_lt (by with_reducible assumption) | rw [List.length_set] | assumption)) ⟨rfl, by omega, by decide⟩ ?_
        refine ew_iinc (M := mX10_applyNow) dX10_applyNow_68 rfl (ex_inc i) (by decide) rfl ?_
        refine ew_goto (M := mX10_applyNow) (tgt := 17) dX10_applyNow_71 rfl ?_
        refine ew_ls _ ?_ (ki _ _ _ _ (hc3.set (by simp)) (mo_N hS3 (ex_ch.rf.set (by simp)) (ex_eq (ex_lt d12))) (nxI_s hn3 hz2 hi (by rw [eA])))
        exact ⟨rfl, rfl, rfl, rfl, rfl, trivial⟩
    · intro H3 m3 C3 N3 hc3 hS3 hn3
      obtain ⟨d1, -, ⟨W3, d2, dw0, -⟩, -, -, -, -, -, d12⟩ := id hS3
      obtain ⟨-, x0, x1, -⟩ := id dw0
      have x1 : W3 1 = nI S.2.2.1.1.2.1 := x1
      have x0 : W3 0 = nI S.2.2.1.1.1 := x0
      refine ew_iload (M := mX10_applyNow) dX10_applyNow_17 rfl ?_
      refine ew_aload_n (M := mX10_applyNow) dX10_applyNow_19 rfl (Or.inr (Or.inl ⟨_, rfl⟩)) ?_
      refine ew_get (M := mX10_applyNow) dX10_applyNow_20 fX10_7 (by repeat (first | with_reducible assumption | refine ex_eq ?_ | refine ex_ne ?_ (by omega) | exact ex_lt (by with_reducible assumption) | rw [List.length_set] | assumption)) (by rfl) ?_
      refine ew_iconst (M := mX10_applyNow) dX10_applyNow_23 (v := nI 0) (by decide) ?_
      refine ew_iald (M := mX10_applyNow) 0 dX10_applyNow_24 (by repeat (first | with_reducible assumption | refine ex_eq ?_ | refine ex_ne ?_ (by omega) | exact ex_lt (by with_reducible assumption) | rw [List.length_set] | assumption)) ⟨rfl, by decide, by decide⟩ ?_
      rw [x0]
      refine ew_icmp_ge (M := mX10_applyNow) (tgt := 74) dX10_applyNow_25 rfl (fun _ => ?_) (fun h => absurd (nI_le (Nat.le_refl _) (by omega)) h)
      refine ew_iinc (M := mX10_applyNow) dX10_applyNow_74 rfl (ex_inc j) (by decide) rfl ?_
      refine ew_goto (M := mX10_applyNow) (tgt := 4) dX10_applyNow_77 rfl ?_
      refine ew_ls _ ?_ (ko _ _ _ _ hc3 hS3 (fun a b ha hb => hn3 a b ha (by omega)))
      exact ⟨rfl, rfl, rfl, rfl, trivial⟩
  · intro H2 m2 C2 N2 hc2 hS2 hn2
    obtain ⟨b1, -, ⟨W2, b2, bw0, -⟩, -, -, -, -, -, b12⟩ := id hS2
    obtain ⟨-, w0, w1, -⟩ := id bw0
    have w1 : W2 1 = nI S.2.2.1.1.2.1 := w1
    have w0 : W2 0 = nI S.2.2.1.1.1 := w0
    refine ew_iload_n (M := mX10_applyNow) dX10_applyNow_4 rfl ?_
    refine ew_aload_n (M := mX10_applyNow) dX10_applyNow_5 rfl (Or.inr (Or.inl ⟨_, rfl⟩)) ?_
    refine ew_get (M := mX10_applyNow) dX10_applyNow_6 fX10_7 (by repeat (first | with_reducible assumption | refine ex_eq ?_ | refine ex_ne ?_ (by omega) | exact ex_lt (by with_reducible assumption) | rw [List.length_set] | assumption)) (by rfl) ?_
    refine ew_iconst (M := mX10_applyNow) dX10_applyNow_9 (v := nI 1) (by decide) ?_
    refine ew_iald (M := mX10_applyNow) 1 dX10_applyNow_10 (by repeat (first | with_reducible assumption | refine ex_eq ?_ | refine ex_ne ?_ (by omega) | exact ex_lt (by with_reducible assumption) | rw [List.length_set] | assumption)) ⟨rfl, by decide, by decide⟩ ?_
    rw [w1]
    refine ew_icmp_ge (M := mX10_applyNow) (tgt := 80) dX10_applyNow_11 rfl (fun _ => ?_) (fun h => absurd (nI_le (Nat.le_refl _) (by omega)) h)
    refine ew_ls [(0, .ref 86), (1, .int (nI f)), (2, .int (nI 0))] ⟨rfl, rfl, rfl, trivial⟩ ?_
    exact ms_apply2 hc2 hS2 hf hn2
theorem ms_filtered {d : Nat} {H : ex_H} {S : SS} (hS : mo_is H S) (f : Int32) : ex_Met mX10_filtered (d + 7) 0 0 H [.ref 86, .int f] (fun H' r => r = some (.int (f_filtered S f).1) ∧ ex_ch H H' mL ∧ mo_is H' (f_filtered S f).2) := by
  obtain ⟨R, mn, C, N, hS⟩ := hS
  obtain ⟨a1, ⟨hfi, hsd, hkp⟩, ⟨W, a2, hw0, ⟨hcn, hwh⟩, hwi⟩, ⟨T, a3, htn, htx⟩, ⟨F, a4, hfl⟩, ⟨IF, IL, IS, a5, a6, a7, him⟩, ⟨BX, BY, BG, a8, a9, a10, hbn, hbk⟩, a11, a12⟩ := id hS
  have h6 : S.2.2.1.2.1.1 ≤ 6 := hfl.1
  by_cases hx : fin S.2.2.1.2.1.1 f
  · obtain ⟨f, hf, rfl⟩ := id hx
    have ef : f_filtered S (nI f) = (nI (pm_gother S.2.2.1.1.1 S.2.2.1.1.2.1 S.2.2.1.1.2.2.1 (apG S.2.2.1.1 (S.2.2.1.2.1.2 f) S.2.2.1.2.2.1)), deed S (apP S.2.2.1.1 (S.2.2.1.2.1.2 f) S.2.2.1.2.2.1)) := by
      unfold f_filtered
      rw [cif_y hx, nI_clamp (by omega)]
    refine ex_meth [(0, .ref 86), (1, .int (nI f))] rfl rfl rfl (fun b => Nat.le_of_ble_eq_true rfl) ?_
    refine ew_aload_n (M := mX10_filtered) dX10_filtered_0 rfl (Or.inr (Or.inl ⟨_, rfl⟩)) ?_
    refine ew_iload_n (M := mX10_filtered) dX10_filtered_1 rfl ?_
    refine ew_callV (M := mX10_filtered) dX10_filtered_2 vX10_186 (by repeat (first | with_reducible assumption | refine ex_eq ?_ | refine ex_ne ?_ (by omega) | exact ex_lt (by with_reducible assumption) | rw [List.length_set] | assumption)) rfl (ms_isFilter_y hS hf) rfl (Nat.le_of_ble_eq_true rfl) ⟨Nat.le_refl _, Nat.le_refl _⟩ rfl (fun H2 r2 q2 => ?_)
    obtain ⟨rfl, rfl⟩ := q2
    refine ew_if_ne (M := mX10_filtered) (tgt := 11) dX10_filtered_5 rfl (fun _ => ?_) (fun h => absurd h (by decide))
    refine ew_aload_n (M := mX10_filtered) dX10_filtered_11 rfl (Or.inr (Or.inl ⟨_, rfl⟩)) ?_
    refine ew_callV (M := mX10_filtered) dX10_filtered_12 vX10_115 (by repeat (first | with_reducible assumption | refine ex_eq ?_ | refine ex_ne ?_ (by omega) | exact ex_lt (by with_reducible assumption) | rw [List.length_set] | assumption)) rfl (ms_remember hS) rfl (Nat.le_of_ble_eq_true rfl) ⟨Nat.le_refl _, Nat.le_refl _⟩ rfl (fun H12 r12 q12 => ?_)
    obtain ⟨rfl, hc1, hS1⟩ := q12
    have k1 := hS1.1
    refine ew_aload_n (M := mX10_filtered) dX10_filtered_15 rfl (Or.inr (Or.inl ⟨_, rfl⟩)) ?_
    refine ew_iload_n (M := mX10_filtered) dX10_filtered_16 rfl ?_
    refine ew_callV (M := mX10_filtered) dX10_filtered_17 vX10_199 (by repeat (first | with_reducible assumption | refine ex_eq ?_ | refine ex_ne ?_ (by omega) | exact ex_lt (by with_reducible assumption) | rw [List.length_set] | assumption)) rfl (ms_applyNow hS1 hf) rfl (Nat.le_of_ble_eq_true rfl) ⟨Nat.le_refl _, Nat.le_refl _⟩ rfl (fun H17 r17 q17 => ?_)
    obtain ⟨rfl, hc2, m2, C2, N2, hS2⟩ := q17
    refine ew_iret (M := mX10_filtered) dX10_filtered_20 rfl (by first | rfl | decide) (Nat.le_refl _) (Nat.le_refl _) ?_
    refine ⟨by rw [ef]; rfl, ((hc1.sub (mL_sub (by decide))).tr hc2 (mL_sub (by decide))), ?_⟩
    rw [ef]
    exact ⟨R, m2, C2, N2, hS2⟩
  · have ef : f_filtered S f = (-1000000001, S) := by
      unfold f_filtered
      rw [cif_n hx]
    refine ex_meth [(0, .ref 86), (1, .int f)] rfl rfl rfl (fun b => Nat.le_of_ble_eq_true rfl) ?_
    refine ew_aload_n (M := mX10_filtered) dX10_filtered_0 rfl (Or.inr (Or.inl ⟨_, rfl⟩)) ?_
    refine ew_iload_n (M := mX10_filtered) dX10_filtered_1 rfl ?_
    refine ew_callV (M := mX10_filtered) dX10_filtered_2 vX10_186 (by repeat (first | with_reducible assumption | refine ex_eq ?_ | refine ex_ne ?_ (by omega) | exact ex_lt (by with_reducible assumption) | rw [List.length_set] | assumption)) rfl (ms_isFilter_n hS hx) rfl (Nat.le_of_ble_eq_true rfl) ⟨Nat.le_refl _, Nat.le_refl _⟩ rfl (fun H2 r2 q2 => ?_)
    obtain ⟨rfl, rfl⟩ := q2
    refine ew_if_ne (M := mX10_filtered) (tgt := 11) dX10_filtered_5 rfl (fun h => absurd (by decide) h) (fun _ => ?_)
    refine ew_ldc (M := mX10_filtered) dX10_filtered_8 kX10_175 ?_
    refine ew_iret (M := mX10_filtered) dX10_filtered_10 rfl (by first | rfl | decide) (Nat.le_refl _) (Nat.le_refl _) ?_
    exact ⟨by rw [ef], ex_ch.rf, by rw [ef]; exact ⟨_, _, _, _, hS⟩⟩
theorem ms_until {d : Nat} {H : ex_H} {S : SS} (hS : mo_is H S) (f n : Int32) : ex_Met mX10_until (d + 7) 0 0 H [.ref 86, .int f, .int n] (fun H' r => r = some (.int (f_until S f n).1) ∧ ex_ch H H' mL ∧ mo_is H' (f_until S f n).2) := by
  obtain ⟨R, mn, C, N, hS⟩ := hS
  obtain ⟨a1, ⟨hfi, hsd, hkp⟩, ⟨W, a2, hw0, ⟨hcn, hwh⟩, hwi⟩, ⟨T, a3, htn, htx⟩, ⟨F, a4, hfl⟩, ⟨IF, IL, IS, a5, a6, a7, him⟩, ⟨BX, BY, BG, a8, a9, a10, hbn, hbk⟩, a11, a12⟩ := id hS
  have h6 : S.2.2.1.2.1.1 ≤ 6 := hfl.1
  by_cases hx : fin S.2.2.1.2.1.1 f
  · obtain ⟨f, hf, rfl⟩ := id hx
    by_cases hy : nI 1 ≤ n ∧ n ≤ nI 20
    · obtain ⟨n, hn1, hn2, rfl⟩ := nI_of4 (by decide) hy
      have ef : f_until S (nI f) (nI n) = (nI (unt (S.2.2.1.2.1.2 f) S.2.2.1.2.2.1 n S.2.2.1.1).1, deed S (unt (S.2.2.1.2.1.2 f) S.2.2.1.2.2.1 n S.2.2.1.1).2) := by
        unfold f_until
        rw [cif_y hx, cif_y hy, nI_clamp (by omega), nI_clamp (by omega)]
      rw [ef]
      refine ex_meth [(0, .ref 86), (1, .int (nI f)), (2, .int (nI n))] rfl rfl rfl (fun b => Nat.le_of_ble_eq_true rfl) ?_
      refine ew_aload_n (M := mX10_until) dX10_until_0 rfl (Or.inr (Or.inl ⟨_, rfl⟩)) ?_
      refine ew_iload_n (M := mX10_until) dX10_until_1 rfl ?_
      refine ew_callV (M := mX10_until) dX10_until_2 vX10_186 (by repeat (first | with_reducible assumption | refine ex_eq ?_ | refine ex_ne ?_ (by omega) | exact ex_lt (by with_reducible assumption) | rw [List.length_set] | assumption)) rfl (ms_isFilter_y hS hf) rfl (Nat.le_of_ble_eq_true rfl) ⟨Nat.le_refl _, Nat.le_refl _⟩ rfl (fun H2 r2 q2 => ?_)
      obtain ⟨rfl, rfl⟩ := q2
      refine ew_if_ne (M := mX10_until) (tgt := 11) dX10_until_5 rfl (fun _ => ?_) (fun h => absurd h (by decide))
      refine ew_iload_n (M := mX10_until) dX10_until_11 rfl ?_
      refine ew_i2l (M := mX10_until) dX10_until_12 ?_
      refine ew_lconst (M := mX10_until) dX10_until_13 (v := 1) (by decide) ?_
      refine ew_ldc2 (M := mX10_until) dX10_until_14 kX10_202 ?_
      refine ew_callS (M := mX10_until) dX10_until_17 vX10_58 (ms_in_y (l := nI 1) (g := nI 20) (by decide) (by decide) hy.1 hy.2) rfl (Nat.le_of_ble_eq_true rfl) ⟨Nat.le_refl _, Nat.le_refl _⟩ rfl (fun H17 r17 q17 => ?_)
      obtain ⟨rfl, rfl⟩ := q17
      refine ew_if_ne (M := mX10_until) (tgt := 26) dX10_until_20 rfl (fun _ => ?_) (fun h => absurd h (by decide))
      refine ew_aload_n (M := mX10_until) dX10_until_26 rfl (Or.inr (Or.inl ⟨_, rfl⟩)) ?_
      refine ew_callV (M := mX10_until) dX10_until_27 vX10_115 (by repeat (first | with_reducible assumption | refine ex_eq ?_ | refine ex_ne ?_ (by omega) | exact ex_lt (by with_reducible assumption) | rw [List.length_set] | assumption)) rfl (ms_remember hS) rfl (Nat.le_of_ble_eq_true rfl) ⟨Nat.le_refl _, Nat.le_refl _⟩ rfl (fun H27 r27 q27 => ?_)
      obtain ⟨rfl, hc1, hS1⟩ := q27
      have k1 := hS1.1
      refine ew_iconst (M := mX10_until) dX10_until_30 (v := nI 0) (by decide) ?_
      refine ew_istore_n (M := mX10_until) dX10_until_31 (by decide) rfl ?_
      have key : ∀ (k t : Nat) (Q : PT) (H2 : ex_H) (m2 : Int32) (C2 N2 : Nat → Int32), t + k = n → (unt (S.2.2.1.2.1.2 f) S.2.2.1.2.2.1 n S.2.2.1.1) = (t + (unt (S.2.2.1.2.1.2 f) S.2.2.1.2.2.1 k Q).1, (unt (S.2.2.1.2.1.2 f) S.2.2.1.2.2.1 k Q).2) → ex_ch H H2 mL → mo_at H2 (deed S Q) R m2 C2 N2 → ex_W mX10_until (d + 7) 0 0 (fun H' r => r = some (.int (nI (unt (S.2.2.1.2.1.2 f) S.2.2.1.2.2.1 n S.2.2.1.1).1)) ∧ ex_ch H H' mL ∧ mo_is H' (deed S (unt (S.2.2.1.2.1.2 f) S.2.2.1.2.2.1 n S.2.2.1.1).2)) H2 32 [(0, .ref 86), (1, .int (nI f)), (2, .int (nI n)), (3, .int (nI t))] [] 0 0 := by
        intro k
        induction k with
        | zero =>
          intro t Q H2 m2 C2 N2 ht e hc2 hS2
          rw [e]
          refine ew_iload_n (M := mX10_until) dX10_until_32 rfl ?_
          refine ew_iload_n (M := mX10_until) dX10_until_33 rfl ?_
          refine ew_icmp_ge (M := mX10_until) (tgt := 51) dX10_until_34 rfl (fun _ => ?_) (fun h => absurd (nI_le (by omega) (by omega)) h)
          refine ew_iload_n (M := mX10_until) dX10_until_51 rfl ?_
          refine ew_iret (M := mX10_until) dX10_until_52 rfl (by first | rfl | decide) (Nat.le_refl _) (Nat.le_refl _) ?_
          exact ⟨rfl, hc2, R, m2, C2, N2, hS2⟩
        | succ k ih =>
          intro t Q H2 m2 C2 N2 ht e hc2 hS2
          have b1 := hS2.1
          have hle := gother_le Q.1 Q.2.1 Q.2.2.1 (apG Q (S.2.2.1.2.1.2 f) S.2.2.1.2.2.1)
          have h80 : Q.1 * Q.2.1 ≤ 80 := by
            obtain ⟨-, -, ⟨W2, -, ⟨hok, -⟩, -⟩, -⟩ := id hS2
            exact pi_80 hok.1
          by_cases hz : pm_gother Q.1 Q.2.1 Q.2.2.1 (apG Q (S.2.2.1.2.1.2 f) S.2.2.1.2.2.1) = 0
          · have eu : (unt (S.2.2.1.2.1.2 f) S.2.2.1.2.2.1 (k + 1) Q) = (0, apP Q (S.2.2.1.2.1.2 f) S.2.2.1.2.2.1) := by
              show (if _ then _ else _) = _
              rw [if_pos hz]
            rw [eu] at e
            rw [e]
            refine ew_iload_n (M := mX10_until) dX10_until_32 rfl ?_
            refine ew_iload_n (M := mX10_until) dX10_until_33 rfl ?_
            refine ew_icmp_ge (M := mX10_until) (tgt := 51) dX10_until_34 rfl (fun h => absurd h (nI_ge (by omega) (by omega))) (fun _ => ?_)
            refine ew_aload_n (M := mX10_until) dX10_until_37 rfl (Or.inr (Or.inl ⟨_, rfl⟩)) ?_
            refine ew_iload_n (M := mX10_until) dX10_until_38 rfl ?_
            refine ew_callV (M := mX10_until) dX10_until_39 vX10_199 (by repeat (first | with_reducible assumption | refine ex_eq ?_ | refine ex_ne ?_ (by omega) | exact ex_lt (by with_reducible assumption) | rw [List.length_set] | assumption)) rfl (ms_applyNow hS2 hf) rfl (Nat.le_of_ble_eq_true rfl) ⟨Nat.le_refl _, Nat.le_refl _⟩ rfl (fun H39 r39 q39 => ?_)
            obtain ⟨rfl, hc3, m3, C3, N3, hS3⟩ := q39
            change ex_W _ _ _ _ _ _ _ _ (.int (nI (pm_gother Q.1 Q.2.1 Q.2.2.1 (apG Q (S.2.2.1.2.1.2 f) S.2.2.1.2.2.1))) :: _) _ _
            rw [hz]
            refine ew_if_le (M := mX10_until) (tgt := 51) dX10_until_42 rfl (fun _ => ?_) (fun h => absurd (by decide) h)
            refine ew_iload_n (M := mX10_until) dX10_until_51 rfl ?_
            refine ew_iret (M := mX10_until) dX10_until_52 rfl (by first | rfl | decide) (Nat.le_refl _) (Nat.le_refl _) ?_
            exact ⟨rfl, hc2.tr hc3 (mL_sub (by decide)), R, m3, C3, N3, hS3⟩
          · have eu : (unt (S.2.2.1.2.1.2 f) S.2.2.1.2.2.1 (k + 1) Q) = ((unt (S.2.2.1.2.1.2 f) S.2.2.1.2.2.1 k (apP Q (S.2.2.1.2.1.2 f) S.2.2.1.2.2.1)).1 + 1, (unt (S.2.2.1.2.1.2 f) S.2.2.1.2.2.1 k (apP Q (S.2.2.1.2.1.2 f) S.2.2.1.2.2.1)).2) := by
              show (if _ then _ else _) = _
              rw [if_neg hz]
            rw [eu] at e
            refine ew_iload_n (M := mX10_until) dX10_until_32 rfl ?_
            refine ew_iload_n (M := mX10_until) dX10_until_33 rfl ?_
            refine ew_icmp_ge (M := mX10_until) (tgt := 51) dX10_until_34 rfl (fun h => absurd h (nI_ge (by omega) (by omega))) (fun _ => ?_)
            refine ew_aload_n (M := mX10_until) dX10_until_37 rfl (Or.inr (Or.inl ⟨_, rfl⟩)) ?_
            refine ew_iload_n (M := mX10_until) dX10_until_38 rfl ?_
            refine ew_callV (M := mX10_until) dX10_until_39 vX10_199 (by repeat (first | with_reducible assumption | refine ex_eq ?_ | refine ex_ne ?_ (by omega) | exact ex_lt (by with_reducible assumption) | rw [List.length_set] | assumption)) rfl (ms_applyNow hS2 hf) rfl (Nat.le_of_ble_eq_true rfl) ⟨Nat.le_refl _, Nat.le_refl _⟩ rfl (fun H39 r39 q39 => ?_)
            obtain ⟨rfl, hc3, m3, C3, N3, hS3⟩ := q39
            change ex_W _ _ _ _ _ _ _ _ (.int (nI (pm_gother Q.1 Q.2.1 Q.2.2.1 (apG Q (S.2.2.1.2.1.2 f) S.2.2.1.2.2.1))) :: _) _ _
            refine ew_if_le (M := mX10_until) (tgt := 51) dX10_until_42 rfl (fun h => absurd h (nI_nle (by omega) (by omega))) (fun _ => ?_)
            refine ew_iinc (M := mX10_until) dX10_until_45 rfl (ex_inc t) (by decide) rfl ?_
            refine ew_goto (M := mX10_until) (tgt := 32) dX10_until_48 rfl ?_
            refine ew_ls _ ?_ (ih (t + 1) (apP Q (S.2.2.1.2.1.2 f) S.2.2.1.2.2.1) _ m3 C3 N3 (by omega) (by rw [e]; exact Prod.ext (by show _ + (_ + 1) = _; omega) rfl) (hc2.tr hc3 (mL_sub (by decide))) hS3)
            exact ⟨rfl, rfl, rfl, rfl, trivial⟩
      refine ew_ls _ ?_ (key n 0 S.2.2.1.1 _ mn C N (by omega) (Prod.ext (by show _ = 0 + _; omega) rfl) (hc1.sub (mL_sub (by decide))) hS1)
      exact ⟨rfl, rfl, rfl, rfl, trivial⟩
    · have ef : f_until S (nI f) n = (-1000000002, S) := by
        unfold f_until
        rw [cif_y hx, cif_n hy]
      refine ex_meth [(0, .ref 86), (1, .int (nI f)), (2, .int n)] rfl rfl rfl (fun b => Nat.le_of_ble_eq_true rfl) ?_
      refine ew_aload_n (M := mX10_until) dX10_until_0 rfl (Or.inr (Or.inl ⟨_, rfl⟩)) ?_
      refine ew_iload_n (M := mX10_until) dX10_until_1 rfl ?_
      refine ew_callV (M := mX10_until) dX10_until_2 vX10_186 (by repeat (first | with_reducible assumption | refine ex_eq ?_ | refine ex_ne ?_ (by omega) | exact ex_lt (by with_reducible assumption) | rw [List.length_set] | assumption)) rfl (ms_isFilter_y hS hf) rfl (Nat.le_of_ble_eq_true rfl) ⟨Nat.le_refl _, Nat.le_refl _⟩ rfl (fun H2 r2 q2 => ?_)
      obtain ⟨rfl, rfl⟩ := q2
      refine ew_if_ne (M := mX10_until) (tgt := 11) dX10_until_5 rfl (fun _ => ?_) (fun h => absurd h (by decide))
      refine ew_iload_n (M := mX10_until) dX10_until_11 rfl ?_
      refine ew_i2l (M := mX10_until) dX10_until_12 ?_
      refine ew_lconst (M := mX10_until) dX10_until_13 (v := 1) (by decide) ?_
      refine ew_ldc2 (M := mX10_until) dX10_until_14 kX10_202 ?_
      refine ew_callS (M := mX10_until) dX10_until_17 vX10_58 (ms_in_n (l := nI 1) (g := nI 20) (by decide) (by decide) hy) rfl (Nat.le_of_ble_eq_true rfl) ⟨Nat.le_refl _, Nat.le_refl _⟩ rfl (fun H17 r17 q17 => ?_)
      obtain ⟨rfl, rfl⟩ := q17
      refine ew_if_ne (M := mX10_until) (tgt := 26) dX10_until_20 rfl (fun h => absurd (by decide) h) (fun _ => ?_)
      refine ew_ldc (M := mX10_until) dX10_until_23 kX10_110 ?_
      refine ew_iret (M := mX10_until) dX10_until_25 rfl (by first | rfl | decide) (Nat.le_refl _) (Nat.le_refl _) ?_
      exact ⟨by rw [ef], ex_ch.rf, by rw [ef]; exact ⟨_, _, _, _, hS⟩⟩
  · have ef : f_until S f n = (-1000000001, S) := by
      unfold f_until
      rw [cif_n hx]
    refine ex_meth [(0, .ref 86), (1, .int f), (2, .int n)] rfl rfl rfl (fun b => Nat.le_of_ble_eq_true rfl) ?_
    refine ew_aload_n (M := mX10_until) dX10_until_0 rfl (Or.inr (Or.inl ⟨_, rfl⟩)) ?_
    refine ew_iload_n (M := mX10_until) dX10_until_1 rfl ?_
    refine ew_callV (M := mX10_until) dX10_until_2 vX10_186 (by repeat (first | with_reducible assumption | refine ex_eq ?_ | refine ex_ne ?_ (by omega) | exact ex_lt (by with_reducible assumption) | rw [List.length_set] | assumption)) rfl (ms_isFilter_n hS hx) rfl (Nat.le_of_ble_eq_true rfl) ⟨Nat.le_refl _, Nat.le_refl _⟩ rfl (fun H2 r2 q2 => ?_)
    obtain ⟨rfl, rfl⟩ := q2
    refine ew_if_ne (M := mX10_until) (tgt := 11) dX10_until_5 rfl (fun h => absurd (by decide) h) (fun _ => ?_)
    refine ew_ldc (M := mX10_until) dX10_until_8 kX10_175 ?_
    refine ew_iret (M := mX10_until) dX10_until_10 rfl (by first | rfl | decide) (Nat.le_refl _) (Nat.le_refl _) ?_
    exact ⟨by rw [ef], ex_ch.rf, by rw [ef]; exact ⟨_, _, _, _, hS⟩⟩
