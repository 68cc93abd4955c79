theorem ex_inc2 (a c : Nat) : nI a - nI c + Int32.ofInt 1 = nI (a + 1) - nI c := by
  show nI a - nI c + 1 = nI (a + 1) - nI c
  rw [nI_succ, Int32.sub_eq_add_neg, Int32.sub_eq_add_neg, Int32.add_assoc, Int32.add_assoc, Int32.add_comm 1]
set_option maxRecDepth 100000 in
theorem pl_lt0 : ∀ x < 10, ∀ ac < 5, ∀ t < 10, (nI x + nI ac < nI (x + t) - nI ac) = (2 * ac < t) := by
  intro x hx ac hac t ht
  apply propext
  have h : ∀ x < 10, ∀ ac < 5, ∀ t < 10, decide (nI x + nI ac < nI (x + t) - nI ac) = decide (2 * ac < t) := by decide +kernel
  exact decide_eq_decide.mp (h x hx ac hac t ht)
theorem oI_m1 (o : Option Nat) (h : ∀ k, o = some k → k < 2 ^ 31) : oI o = -1 ↔ o = none := by
  cases o with
  | none => exact ⟨fun _ => rfl, fun _ => rfl⟩
  | some k => exact ⟨fun e => absurd e (nI_m1 (h k rfl)), fun e => by cases e⟩
/-- one place of a window: the dot in row ro, column co, or what stands for it -/
def pl (w : Nat) (g m : Nat → Nat) (bo fi : Nat) (c : Nat → Nat) (ro co : Option Nat) : Nat → Nat := match ro, co with
  | some j, some i => if m (j * w + i) = 0 then ca c (g (j * w + i)) 1 else c
  | _, _ => ca c fi (if bo = 4 then 1 else 0)
def rowc (w : Nat) (g m : Nat → Nat) (bo fi ac x : Nat) (ro : Option Nat) (c : Nat → Nat) : Nat → Nat := fl (fun t c => pl w g m bo fi c ro (sf bo w (x + t) ac)) (2 * ac + 1) c
def cnts (w h : Nat) (g m : Nat → Nat) (fi ac dn bo wt x y : Nat) : Nat → Nat :=
  if m (y * w + x) = 0 then ca (fl (fun t c => rowc w g m bo fi ac x (sf bo h (y + t) dn) c) (2 * dn + 1) (fun _ => 0)) (g (y * w + x)) (wt - 1) else fl (fun t c => rowc w g m bo fi ac x (sf bo h (y + t) dn) c) (2 * dn + 1) (fun _ => 0)
/-- a filter's object -/
def fi_is (H : ex_H) (a ac dn rk bo wt : Nat) : Prop := H[a]? = some (ob 1 [.int (nI ac), .int (nI dn), .int (nI rk), .int (nI bo), .int (nI wt)]) ∧ ac ≤ 4 ∧ dn ≤ 4 ∧ rk ≤ 100 ∧ bo ≤ 4 ∧ 1 ≤ wt ∧ wt ≤ 9
theorem sp_countRow {d : Nat} {H : ex_H} {q p a w h ac dn rk bo wt fi x : Nat} {g m c : Nat → Nat} (hq : wi_is H q c) (hp : pi_is H p w h g m) (hf : fi_is H a ac dn rk bo wt) (hfi : fi < 256) (hx : x < w) (hqp : q + 2 < p ∨ p + 2 < q) (hqa : a < q ∨ q + 2 < a) {ro : Option Nat} (hro : ∀ j, ro = some j → j < h) : ex_Met mX8_countRow (d + 2) 0 0 H [.ref q, .ref p, .ref a, .int (nI fi), .int (nI x), .int (oI ro)] (fun H' r => r = none ∧ ex_ch H H' [q, q + 1, q + 2] ∧ wi_is H' q (rowc w g m bo fi ac x ro c)) := by
  obtain ⟨hf1, hac, hdn, hrk, hbo, hwt1, hwt2⟩ := id hf
  obtain ⟨⟨hz, hgm⟩, -⟩ := id hp
  obtain ⟨hz1, hz2, hz3, hz4⟩ := id hz
  refine ex_meth [(0, .ref q), (1, .ref p), (2, .ref a), (3, .int (nI fi)), (4, .int (nI x)), (5, .int (oI ro))] rfl rfl rfl (fun b => Nat.le_of_ble_eq_true rfl) ?_
  refine ew_iload (M := mX8_countRow) dX8_countRow_0 rfl ?_
  refine ew_aload_n (M := mX8_countRow) dX8_countRow_2 rfl (Or.inr (Or.inl ⟨_, rfl⟩)) ?_
  refine ew_get (M := mX8_countRow) dX8_countRow_3 fX8_68 (by repeat (first | with_reducible assumption | refine ex_eq ?_ | refine ex_ne ?_ (by omega) | exact ex_lt (by with_reducible assumption) | rw [List.length_set] | assumption)) (by rfl) ?_
  refine ew_isub (M := mX8_countRow) dX8_countRow_6 ?_
  refine ew_istore (M := mX8_countRow) dX8_countRow_7 (by decide) rfl ?_
  refine ew_ls [(0, .ref q), (1, .ref p), (2, .ref a), (3, .int (nI fi)), (4, .int (nI x)), (5, .int (oI ro)), (6, .int (nI (x + 0) - nI ac))] ⟨rfl, rfl, rfl, rfl, rfl, rfl, rfl, trivial⟩ ?_
  refine fl_down (F := fun t c => pl w g m bo fi c ro (sf bo w (x + t) ac)) (P := fun t c => ∀ H2 : ex_H, ex_ch H H2 [q, q + 1, q + 2] → wi_is H2 q c → ex_W mX8_countRow (d + 2) 0 0 _ H2 9 [(0, .ref q), (1, .ref p), (2, .ref a), (3, .int (nI fi)), (4, .int (nI x)), (5, .int (oI ro)), (6, .int (nI (x + t) - nI ac))] [] 0 0) (2 * ac + 1) c (fun t c ht _ k => ?_) ?_ H ex_ch.rf hq
  · intro H2 hc2 hq2
    have hf2 := hc2.at hf1 (by simp; omega)
    have hp2 := hp.ch hc2 (by simp; omega) (by simp; omega) (by simp; omega)
    obtain ⟨-, gs, ms, ⟨hp21, hp22, hp23⟩, hct⟩ := id hp2
    obtain ⟨hq21, co, fn, hq22, hq23, -⟩ := id hq2
    have e10 : (nI x + nI ac < nI (x + t) - nI ac) = (2 * ac < t) := pl_lt0 x (by omega) ac (by omega) t (by omega)
    have hcol : ∀ i, sf bo w (x + t) ac = some i → i < w := fun i h => sf_lt hz1 h
    cases hr : ro with
    | none =>
      subst hr
      have hk : pl w g m bo fi c none (sf bo w (x + t) ac) = ca c fi (if bo = 4 then 1 else 0) := rfl
      rw [hk] at k
      by_cases h4 : bo = 4
      · subst h4
        rw [if_pos rfl] at k
        refine ew_iload (M := mX8_countRow) dX8_countRow_9 rfl ?_
        refine ew_iload (M := mX8_countRow) dX8_countRow_11 rfl ?_
        refine ew_aload_n (M := mX8_countRow) dX8_countRow_13 rfl (Or.inr (Or.inl ⟨_, rfl⟩)) ?_
        refine ew_get (M := mX8_countRow) dX8_countRow_14 fX8_68 (by repeat (first | with_reducible assumption | refine ex_eq ?_ | refine ex_ne ?_ (by omega) | exact ex_lt (by with_reducible assumption) | rw [List.length_set] | assumption)) (by rfl) ?_
        refine ew_iadd (M := mX8_countRow) dX8_countRow_17 ?_
        refine ew_icmp_gt (M := mX8_countRow) (tgt := 99) dX8_countRow_18 rfl (fun h => absurd h (by rw [e10]; omega)) (fun _ => ?_)
        refine ew_iload (M := mX8_countRow) dX8_countRow_21 rfl ?_
        refine ew_aload_n (M := mX8_countRow) dX8_countRow_23 rfl (Or.inr (Or.inl ⟨_, rfl⟩)) ?_
        refine ew_get (M := mX8_countRow) dX8_countRow_24 fX8_71 (by repeat (first | with_reducible assumption | refine ex_eq ?_ | refine ex_ne ?_ (by omega) | exact ex_lt (by with_reducible assumption) | rw [List.length_set] | assumption)) (by rfl) ?_
        refine ew_aload_n (M := mX8_countRow) dX8_countRow_27 rfl (Or.inr (Or.inl ⟨_, rfl⟩)) ?_
        refine ew_get (M := mX8_countRow) dX8_countRow_28 fX8_38 (by repeat (first | with_reducible assumption | refine ex_eq ?_ | refine ex_ne ?_ (by omega) | exact ex_lt (by with_reducible assumption) | rw [List.length_set] | assumption)) (by rfl) ?_
        refine ew_callS (M := mX8_countRow) dX8_countRow_31 vX8_41 (sp_standingFor (by omega) (by omega) hz1 hz2 hbo) rfl (Nat.le_of_ble_eq_true rfl) ⟨Nat.le_refl _, Nat.le_refl _⟩ rfl (fun H31 r31 q31 => ?_)
        obtain ⟨rfl, rfl⟩ := q31
        refine ew_istore (M := mX8_countRow) dX8_countRow_34 (by decide) rfl ?_
        refine ew_iload (M := mX8_countRow) dX8_countRow_36 rfl ?_
        refine ew_iconst (M := mX8_countRow) dX8_countRow_38 (v := (-1)) (by decide) ?_
        refine ew_icmp_eq (M := mX8_countRow) (tgt := 48) dX8_countRow_39 rfl (fun _ => ?_) (fun h => absurd rfl h)
        refine ew_aload_n (M := mX8_countRow) dX8_countRow_48 rfl (Or.inr (Or.inl ⟨_, rfl⟩)) ?_
        refine ew_iload_n (M := mX8_countRow) dX8_countRow_49 rfl ?_
        refine ew_aload_n (M := mX8_countRow) dX8_countRow_50 rfl (Or.inr (Or.inl ⟨_, rfl⟩)) ?_
        refine ew_get (M := mX8_countRow) dX8_countRow_51 fX8_38 (by repeat (first | with_reducible assumption | refine ex_eq ?_ | refine ex_ne ?_ (by omega) | exact ex_lt (by with_reducible assumption) | rw [List.length_set] | assumption)) (by rfl) ?_
        refine ew_iconst (M := mX8_countRow) dX8_countRow_54 (v := nI 4) (by decide) ?_
        refine ew_icmp_ne (M := mX8_countRow) (tgt := 62) dX8_countRow_55 rfl (fun h => absurd rfl h) (fun _ => ?_)
        refine ew_iconst (M := mX8_countRow) dX8_countRow_58 (v := nI 1) (by decide) ?_
        refine ew_goto (M := mX8_countRow) (tgt := 63) dX8_countRow_59 rfl ?_
        refine ew_callV (M := mX8_countRow) dX8_countRow_63 vX8_60 (by repeat (first | with_reducible assumption | refine ex_eq ?_ | refine ex_ne ?_ (by omega) | exact ex_lt (by with_reducible assumption) | rw [List.length_set] | assumption)) rfl (sp_count hq2 hfi) rfl (Nat.le_of_ble_eq_true rfl) ⟨Nat.le_refl _, Nat.le_refl _⟩ rfl (fun H63 r63 q63 => ?_)
        obtain ⟨rfl, hc3, hq3⟩ := q63
        refine ew_goto (M := mX8_countRow) (tgt := 93) dX8_countRow_66 rfl ?_
        refine ew_iinc (M := mX8_countRow) dX8_countRow_93 rfl (ex_inc2 (x + t) ac) (by decide) rfl ?_
        refine ew_goto (M := mX8_countRow) (tgt := 9) dX8_countRow_96 rfl ?_
        refine ew_ls _ ?_ (k _ (hc2.tr hc3 (by simp)) hq3)
        exact ⟨rfl, rfl, rfl, rfl, rfl, rfl, rfl, trivial⟩
      · rw [if_neg h4] at k
        refine ew_iload (M := mX8_countRow) dX8_countRow_9 rfl ?_
        refine ew_iload (M := mX8_countRow) dX8_countRow_11 rfl ?_
        refine ew_aload_n (M := mX8_countRow) dX8_countRow_13 rfl (Or.inr (Or.inl ⟨_, rfl⟩)) ?_
        refine ew_get (M := mX8_countRow) dX8_countRow_14 fX8_68 (by repeat (first | with_reducible assumption | refine ex_eq ?_ | refine ex_ne ?_ (by omega) | exact ex_lt (by with_reducible assumption) | rw [List.length_set] | assumption)) (by rfl) ?_
        refine ew_iadd (M := mX8_countRow) dX8_countRow_17 ?_
        refine ew_icmp_gt (M := mX8_countRow) (tgt := 99) dX8_countRow_18 rfl (fun h => absurd h (by rw [e10]; omega)) (fun _ => ?_)
        refine ew_iload (M := mX8_countRow) dX8_countRow_21 rfl ?_
        refine ew_aload_n (M := mX8_countRow) dX8_countRow_23 rfl (Or.inr (Or.inl ⟨_, rfl⟩)) ?_
        refine ew_get (M := mX8_countRow) dX8_countRow_24 fX8_71 (by repeat (first | with_reducible assumption | refine ex_eq ?_ | refine ex_ne ?_ (by omega) | exact ex_lt (by with_reducible assumption) | rw [List.length_set] | assumption)) (by rfl) ?_
        refine ew_aload_n (M := mX8_countRow) dX8_countRow_27 rfl (Or.inr (Or.inl ⟨_, rfl⟩)) ?_
        refine ew_get (M := mX8_countRow) dX8_countRow_28 fX8_38 (by repeat (first | with_reducible assumption | refine ex_eq ?_ | refine ex_ne ?_ (by omega) | exact ex_lt (by with_reducible assumption) | rw [List.length_set] | assumption)) (by rfl) ?_
        refine ew_callS (M := mX8_countRow) dX8_countRow_31 vX8_41 (sp_standingFor (by omega) (by omega) hz1 hz2 hbo) rfl (Nat.le_of_ble_eq_true rfl) ⟨Nat.le_refl _, Nat.le_refl _⟩ rfl (fun H31 r31 q31 => ?_)
        obtain ⟨rfl, rfl⟩ := q31
        refine ew_istore (M := mX8_countRow) dX8_countRow_34 (by decide) rfl ?_
        refine ew_iload (M := mX8_countRow) dX8_countRow_36 rfl ?_
        refine ew_iconst (M := mX8_countRow) dX8_countRow_38 (v := (-1)) (by decide) ?_
        refine ew_icmp_eq (M := mX8_countRow) (tgt := 48) dX8_countRow_39 rfl (fun _ => ?_) (fun h => absurd rfl h)
        refine ew_aload_n (M := mX8_countRow) dX8_countRow_48 rfl (Or.inr (Or.inl ⟨_, rfl⟩)) ?_
        refine ew_iload_n (M := mX8_countRow) dX8_countRow_49 rfl ?_
        refine ew_aload_n (M := mX8_countRow) dX8_countRow_50 rfl (Or.inr (Or.inl ⟨_, rfl⟩)) ?_
        refine ew_get (M := mX8_countRow) dX8_countRow_51 fX8_38 (by repeat (first | with_reducible assumption | refine ex_eq ?_ | refine ex_ne ?_ (by omega) | exact ex_lt (by with_reducible assumption) | rw [List.length_set] | assumption)) (by rfl) ?_
        refine ew_iconst (M := mX8_countRow) dX8_countRow_54 (v := nI 4) (by decide) ?_
        refine ew_icmp_ne (M := mX8_countRow) (tgt := 62) dX8_countRow_55 rfl (fun _ => ?_) (fun h => absurd h (fun e => h4 ((nI_eq (by omega) (by decide)).mp e)))
        refine ew_iconst (M := mX8_countRow) dX8_countRow_62 (v := nI 0) (by decide) ?_
        refine ew_callV (M := mX8_countRow) dX8_countRow_63 vX8_60 (by repeat (first | with_reducible assumption | refine ex_eq ?_ | refine ex_ne ?_ (by omega) | exact ex_lt (by with_reducible assumption) | rw [List.length_set] | assumption)) rfl (sp_count hq2 hfi) rfl (Nat.le_of_ble_eq_true rfl) ⟨Nat.le_refl _, Nat.le_refl _⟩ rfl (fun H63 r63 q63 => ?_)
        obtain ⟨rfl, hc3, hq3⟩ := q63
        refine ew_goto (M := mX8_countRow) (tgt := 93) dX8_countRow_66 rfl ?_
        refine ew_iinc (M := mX8_countRow) dX8_countRow_93 rfl (ex_inc2 (x + t) ac) (by decide) rfl ?_
        refine ew_goto (M := mX8_countRow) (tgt := 9) dX8_countRow_96 rfl ?_
        refine ew_ls _ ?_ (k _ (hc2.tr hc3 (by simp)) hq3)
        exact ⟨rfl, rfl, rfl, rfl, rfl, rfl, rfl, trivial⟩
    | some j =>
      subst hr
      have hj := hro j rfl
      cases hs : sf bo w (x + t) ac with
      | none =>
        have hk : pl w g m bo fi c (some j) (sf bo w (x + t) ac) = ca c fi (if bo = 4 then 1 else 0) := by rw [hs]; rfl
        rw [hk] at k
        by_cases h4 : bo = 4
        · subst h4
          rw [if_pos rfl] at k
          refine ew_iload (M := mX8_countRow) dX8_countRow_9 rfl ?_
          refine ew_iload (M := mX8_countRow) dX8_countRow_11 rfl ?_
          refine ew_aload_n (M := mX8_countRow) dX8_countRow_13 rfl (Or.inr (Or.inl ⟨_, rfl⟩)) ?_
          refine ew_get (M := mX8_countRow) dX8_countRow_14 fX8_68 (by repeat (first | with_reducible assumption | refine ex_eq ?_ | refine ex_ne ?_ (by omega) | exact ex_lt (by with_reducible assumption) | rw [List.length_set] | assumption)) (by rfl) ?_
          refine ew_iadd (M := mX8_countRow) dX8_countRow_17 ?_
          refine ew_icmp_gt (M := mX8_countRow) (tgt := 99) dX8_countRow_18 rfl (fun h => absurd h (by rw [e10]; omega)) (fun _ => ?_)
          refine ew_iload (M := mX8_countRow) dX8_countRow_21 rfl ?_
          refine ew_aload_n (M := mX8_countRow) dX8_countRow_23 rfl (Or.inr (Or.inl ⟨_, rfl⟩)) ?_
          refine ew_get (M := mX8_countRow) dX8_countRow_24 fX8_71 (by repeat (first | with_reducible assumption | refine ex_eq ?_ | refine ex_ne ?_ (by omega) | exact ex_lt (by with_reducible assumption) | rw [List.length_set] | assumption)) (by rfl) ?_
          refine ew_aload_n (M := mX8_countRow) dX8_countRow_27 rfl (Or.inr (Or.inl ⟨_, rfl⟩)) ?_
          refine ew_get (M := mX8_countRow) dX8_countRow_28 fX8_38 (by repeat (first | with_reducible assumption | refine ex_eq ?_ | refine ex_ne ?_ (by omega) | exact ex_lt (by with_reducible assumption) | rw [List.length_set] | assumption)) (by rfl) ?_
          refine ew_callS (M := mX8_countRow) dX8_countRow_31 vX8_41 (sp_standingFor (by omega) (by omega) hz1 hz2 hbo) rfl (Nat.le_of_ble_eq_true rfl) ⟨Nat.le_refl _, Nat.le_refl _⟩ rfl (fun H31 r31 q31 => ?_)
          obtain ⟨rfl, rfl⟩ := q31
          rw [hs]
          refine ew_istore (M := mX8_countRow) dX8_countRow_34 (by decide) rfl ?_
          refine ew_iload (M := mX8_countRow) dX8_countRow_36 rfl ?_
          refine ew_iconst (M := mX8_countRow) dX8_countRow_38 (v := (-1)) (by decide) ?_
          refine ew_icmp_eq (M := mX8_countRow) (tgt := 48) dX8_countRow_39 rfl (fun h => absurd h (nI_m1 (by omega))) (fun _ => ?_)
          refine ew_iload (M := mX8_countRow) dX8_countRow_42 rfl ?_
          refine ew_iconst (M := mX8_countRow) dX8_countRow_44 (v := (-1)) (by decide) ?_
          refine ew_icmp_ne (M := mX8_countRow) (tgt := 69) dX8_countRow_45 rfl (fun h => absurd rfl h) (fun _ => ?_)
          refine ew_aload_n (M := mX8_countRow) dX8_countRow_48 rfl (Or.inr (Or.inl ⟨_, rfl⟩)) ?_
          refine ew_iload_n (M := mX8_countRow) dX8_countRow_49 rfl ?_
          refine ew_aload_n (M := mX8_countRow) dX8_countRow_50 rfl (Or.inr (Or.inl ⟨_, rfl⟩)) ?_
          refine ew_get (M := mX8_countRow) dX8_countRow_51 fX8_38 (by repeat (first | with_reducible assumption | refine ex_eq ?_ | refine ex_ne ?_ (by omega) | exact ex_lt (by with_reducible assumption) | rw [List.length_set] | assumption)) (by rfl) ?_
          refine ew_iconst (M := mX8_countRow) dX8_countRow_54 (v := nI 4) (by decide) ?_
          refine ew_icmp_ne (M := mX8_countRow) (tgt := 62) dX8_countRow_55 rfl (fun h => absurd rfl h) (fun _ => ?_)
          refine ew_iconst (M := mX8_countRow) dX8_countRow_58 (v := nI 1) (by decide) ?_
          refine ew_goto (M := mX8_countRow) (tgt := 63) dX8_countRow_59 rfl ?_
          refine ew_callV (M := mX8_countRow) dX8_countRow_63 vX8_60 (by repeat (first | with_reducible assumption | refine ex_eq ?_ | refine ex_ne ?_ (by omega) | exact ex_lt (by with_reducible assumption) | rw [List.length_set] | assumption)) rfl (sp_count hq2 hfi) rfl (Nat.le_of_ble_eq_true rfl) ⟨Nat.le_refl _, Nat.le_refl _⟩ rfl (fun H63 r63 q63 => ?_)
          obtain ⟨rfl, hc3, hq3⟩ := q63
          refine ew_goto (M := mX8_countRow) (tgt := 93) dX8_countRow_66 rfl ?_
          refine ew_iinc (M := mX8_countRow) dX8_countRow_93 rfl (ex_inc2 (x + t) ac) (by decide) rfl ?_
          refine ew_goto (M := mX8_countRow) (tgt := 9) dX8_countRow_96 rfl ?_
          refine ew_ls _ ?_ (k _ (hc2.tr hc3 (by simp)) hq3)
          exact ⟨rfl, rfl, rfl, rfl, rfl, rfl, rfl, trivial⟩
        · rw [if_neg h4] at k
          refine ew_iload (M := mX8_countRow) dX8_countRow_9 rfl ?_
          refine ew_iload (M := mX8_countRow) dX8_countRow_11 rfl ?_
          refine ew_aload_n (M := mX8_countRow) dX8_countRow_13 rfl (Or.inr (Or.inl ⟨_, rfl⟩)) ?_
          refine ew_get (M := mX8_countRow) dX8_countRow_14 fX8_68 (by repeat (first | with_reducible assumption | refine ex_eq ?_ | refine ex_ne ?_ (by omega) | exact ex_lt (by with_reducible assumption) | rw [List.length_set] | assumption)) (by rfl) ?_
          refine ew_iadd (M := mX8_countRow) dX8_countRow_17 ?_
          refine ew_icmp_gt (M := mX8_countRow) (tgt := 99) dX8_countRow_18 rfl (fun h => absurd h (by rw [e10]; omega)) (fun _ => ?_)
          refine ew_iload (M := mX8_countRow) dX8_countRow_21 rfl ?_
          refine ew_aload_n (M := mX8_countRow) dX8_countRow_23 rfl (Or.inr (Or.inl ⟨_, rfl⟩)) ?_
          refine ew_get (M := mX8_countRow) dX8_countRow_24 fX8_71 (by repeat (first | with_reducible assumption | refine ex_eq ?_ | refine ex_ne ?_ (by omega) | exact ex_lt (by with_reducible assumption) | rw [List.length_set] | assumption)) (by rfl) ?_
          refine ew_aload_n (M := mX8_countRow) dX8_countRow_27 rfl (Or.inr (Or.inl ⟨_, rfl⟩)) ?_
          refine ew_get (M := mX8_countRow) dX8_countRow_28 fX8_38 (by repeat (first | with_reducible assumption | refine ex_eq ?_ | refine ex_ne ?_ (by omega) | exact ex_lt (by with_reducible assumption) | rw [List.length_set] | assumption)) (by rfl) ?_
          refine ew_callS (M := mX8_countRow) dX8_countRow_31 vX8_41 (sp_standingFor (by omega) (by omega) hz1 hz2 hbo) rfl (Nat.le_of_ble_eq_true rfl) ⟨Nat.le_refl _, Nat.le_refl _⟩ rfl (fun H31 r31 q31 => ?_)
          obtain ⟨rfl, rfl⟩ := q31
          rw [hs]
          refine ew_istore (M := mX8_countRow) dX8_countRow_34 (by decide) rfl ?_
          refine ew_iload (M := mX8_countRow) dX8_countRow_36 rfl ?_
          refine ew_iconst (M := mX8_countRow) dX8_countRow_38 (v := (-1)) (by decide) ?_
          refine ew_icmp_eq (M := mX8_countRow) (tgt := 48) dX8_countRow_39 rfl (fun h => absurd h (nI_m1 (by omega))) (fun _ => ?_)
          refine ew_iload (M := mX8_countRow) dX8_countRow_42 rfl ?_
          refine ew_iconst (M := mX8_countRow) dX8_countRow_44 (v := (-1)) (by decide) ?_
          refine ew_icmp_ne (M := mX8_countRow) (tgt := 69) dX8_countRow_45 rfl (fun h => absurd rfl h) (fun _ => ?_)
          refine ew_aload_n (M := mX8_countRow) dX8_countRow_48 rfl (Or.inr (Or.inl ⟨_, rfl⟩)) ?_
          refine ew_iload_n (M := mX8_countRow) dX8_countRow_49 rfl ?_
          refine ew_aload_n (M := mX8_countRow) dX8_countRow_50 rfl (Or.inr (Or.inl ⟨_, rfl⟩)) ?_
          refine ew_get (M := mX8_countRow) dX8_countRow_51 fX8_38 (by repeat (first | with_reducible assumption | refine ex_eq ?_ | refine ex_ne ?_ (by omega) | exact ex_lt (by with_reducible assumption) | rw [List.length_set] | assumption)) (by rfl) ?_
          refine ew_iconst (M := mX8_countRow) dX8_countRow_54 (v := nI 4) (by decide) ?_
          refine ew_icmp_ne (M := mX8_countRow) (tgt := 62) dX8_countRow_55 rfl (fun _ => ?_) (fun h => absurd h (fun e => h4 ((nI_eq (by omega) (by decide)).mp e)))
          refine ew_iconst (M := mX8_countRow) dX8_countRow_62 (v := nI 0) (by decide) ?_
          refine ew_callV (M := mX8_countRow) dX8_countRow_63 vX8_60 (by repeat (first | with_reducible assumption | refine ex_eq ?_ | refine ex_ne ?_ (by omega) | exact ex_lt (by with_reducible assumption) | rw [List.length_set] | assumption)) rfl (sp_count hq2 hfi) rfl (Nat.le_of_ble_eq_true rfl) ⟨Nat.le_refl _, Nat.le_refl _⟩ rfl (fun H63 r63 q63 => ?_)
          obtain ⟨rfl, hc3, hq3⟩ := q63
          refine ew_goto (M := mX8_countRow) (tgt := 93) dX8_countRow_66 rfl ?_
          refine ew_iinc (M := mX8_countRow) dX8_countRow_93 rfl (ex_inc2 (x + t) ac) (by decide) rfl ?_
          refine ew_goto (M := mX8_countRow) (tgt := 9) dX8_countRow_96 rfl ?_
          refine ew_ls _ ?_ (k _ (hc2.tr hc3 (by simp)) hq3)
          exact ⟨rfl, rfl, rfl, rfl, rfl, rfl, rfl, trivial⟩
      | some i =>
        have hi := hcol i hs
        have hk : pl w g m bo fi c (some j) (sf bo w (x + t) ac) = if m (j * w + i) = 0 then ca c (g (j * w + i)) 1 else c := by rw [hs]; rfl
        rw [hk] at k
        have hg2 := hgm _ (pi_lt hi hj)
        refine ew_iload (M := mX8_countRow) dX8_countRow_9 rfl ?_
        refine ew_iload (M := mX8_countRow) dX8_countRow_11 rfl ?_
        refine ew_aload_n (M := mX8_countRow) dX8_countRow_13 rfl (Or.inr (Or.inl ⟨_, rfl⟩)) ?_
        refine ew_get (M := mX8_countRow) dX8_countRow_14 fX8_68 (by repeat (first | with_reducible assumption | refine ex_eq ?_ | refine ex_ne ?_ (by omega) | exact ex_lt (by with_reducible assumption) | rw [List.length_set] | assumption)) (by rfl) ?_
        refine ew_iadd (M := mX8_countRow) dX8_countRow_17 ?_
        refine ew_icmp_gt (M := mX8_countRow) (tgt := 99) dX8_countRow_18 rfl (fun h => absurd h (by rw [e10]; omega)) (fun _ => ?_)
        refine ew_iload (M := mX8_countRow) dX8_countRow_21 rfl ?_
        refine ew_aload_n (M := mX8_countRow) dX8_countRow_23 rfl (Or.inr (Or.inl ⟨_, rfl⟩)) ?_
        refine ew_get (M := mX8_countRow) dX8_countRow_24 fX8_71 (by repeat (first | with_reducible assumption | refine ex_eq ?_ | refine ex_ne ?_ (by omega) | exact ex_lt (by with_reducible assumption) | rw [List.length_set] | assumption)) (by rfl) ?_
        refine ew_aload_n (M := mX8_countRow) dX8_countRow_27 rfl (Or.inr (Or.inl ⟨_, rfl⟩)) ?_
        refine ew_get (M := mX8_countRow) dX8_countRow_28 fX8_38 (by repeat (first | with_reducible assumption | refine ex_eq ?_ | refine ex_ne ?_ (by omega) | exact ex_lt (by with_reducible assumption) | rw [List.length_set] | assumption)) (by rfl) ?_
        refine ew_callS (M := mX8_countRow) dX8_countRow_31 vX8_41 (sp_standingFor (by omega) (by omega) hz1 hz2 hbo) rfl (Nat.le_of_ble_eq_true rfl) ⟨Nat.le_refl _, Nat.le_refl _⟩ rfl (fun H31 r31 q31 => ?_)
        obtain ⟨rfl, rfl⟩ := q31
        rw [hs]
        refine ew_istore (M := mX8_countRow) dX8_countRow_34 (by decide) rfl ?_
        refine ew_iload (M := mX8_countRow) dX8_countRow_36 rfl ?_
        refine ew_iconst (M := mX8_countRow) dX8_countRow_38 (v := (-1)) (by decide) ?_
        refine ew_icmp_eq (M := mX8_countRow) (tgt := 48) dX8_countRow_39 rfl (fun h => absurd h (nI_m1 (by omega))) (fun _ => ?_)
        refine ew_iload (M := mX8_countRow) dX8_countRow_42 rfl ?_
        refine ew_iconst (M := mX8_countRow) dX8_countRow_44 (v := (-1)) (by decide) ?_
        refine ew_icmp_ne (M := mX8_countRow) (tgt := 69) dX8_countRow_45 rfl (fun _ => ?_) (fun h => absurd h (nI_m1 (by omega)))
        refine ew_aload_n (M := mX8_countRow) dX8_countRow_69 rfl (Or.inr (Or.inl ⟨_, rfl⟩)) ?_
        refine ew_iload (M := mX8_countRow) dX8_countRow_70 rfl ?_
        refine ew_iload (M := mX8_countRow) dX8_countRow_72 rfl ?_
        refine ew_callV (M := mX8_countRow) dX8_countRow_74 vX8_49 (by repeat (first | with_reducible assumption | refine ex_eq ?_ | refine ex_ne ?_ (by omega) | exact ex_lt (by with_reducible assumption) | rw [List.length_set] | assumption)) rfl (sp_isMasked hp2 hi hj) rfl (Nat.le_of_ble_eq_true rfl) ⟨Nat.le_refl _, Nat.le_refl _⟩ rfl (fun H74 r74 q74 => ?_)
        obtain ⟨rfl, rfl⟩ := q74
        refine ew_if_ne (M := mX8_countRow) (tgt := 93) dX8_countRow_77 rfl (fun c77 => ?_) (fun c77 => ?_)
        · rw [nI_z (by omega)] at c77
          rw [if_neg c77] at k
          refine ew_iinc (M := mX8_countRow) dX8_countRow_93 rfl (ex_inc2 (x + t) ac) (by decide) rfl ?_
          refine ew_goto (M := mX8_countRow) (tgt := 9) dX8_countRow_96 rfl ?_
          first
            | (refine ew_ls _ ?_ (k _ (hc2.tr hc3 (by simp)) hq3); exact ⟨rfl, rfl, rfl, rfl, rfl, rfl, rfl, trivial⟩)
            | (refine ew_ls _ ?_ (k _ hc2 hq2); exact ⟨rfl, rfl, rfl, rfl, rfl, rfl, rfl, trivial⟩)
        · rw [nI_z (by omega)] at c77
          rw [if_pos c77] at k
          refine ew_aload_n (M := mX8_countRow) dX8_countRow_80 rfl (Or.inr (Or.inl ⟨_, rfl⟩)) ?_
          refine ew_aload_n (M := mX8_countRow) dX8_countRow_81 rfl (Or.inr (Or.inl ⟨_, rfl⟩)) ?_
          refine ew_iload (M := mX8_countRow) dX8_countRow_82 rfl ?_
          refine ew_iload (M := mX8_countRow) dX8_countRow_84 rfl ?_
          refine ew_callV (M := mX8_countRow) dX8_countRow_86 vX8_53 (by repeat (first | with_reducible assumption | refine ex_eq ?_ | refine ex_ne ?_ (by omega) | exact ex_lt (by with_reducible assumption) | rw [List.length_set] | assumption)) rfl (sp_greyOf hp2 hi hj) rfl (Nat.le_of_ble_eq_true rfl) ⟨Nat.le_refl _, Nat.le_refl _⟩ rfl (fun H86 r86 q86 => ?_)
          obtain ⟨rfl, rfl⟩ := q86
          refine ew_iconst (M := mX8_countRow) dX8_countRow_89 (v := nI 1) (by decide) ?_
          refine ew_callV (M := mX8_countRow) dX8_countRow_90 vX8_60 (by repeat (first | with_reducible assumption | refine ex_eq ?_ | refine ex_ne ?_ (by omega) | exact ex_lt (by with_reducible assumption) | rw [List.length_set] | assumption)) rfl (sp_count hq2 hg2.1) rfl (Nat.le_of_ble_eq_true rfl) ⟨Nat.le_refl _, Nat.le_refl _⟩ rfl (fun H90 r90 q90 => ?_)
          obtain ⟨rfl, hc3, hq3⟩ := q90
          refine ew_iinc (M := mX8_countRow) dX8_countRow_93 rfl (ex_inc2 (x + t) ac) (by decide) rfl ?_
          refine ew_goto (M := mX8_countRow) (tgt := 9) dX8_countRow_96 rfl ?_
          first
            | (refine ew_ls _ ?_ (k _ (hc2.tr hc3 (by simp)) hq3); exact ⟨rfl, rfl, rfl, rfl, rfl, rfl, rfl, trivial⟩)
            | (refine ew_ls _ ?_ (k _ hc2 hq2); exact ⟨rfl, rfl, rfl, rfl, rfl, rfl, rfl, trivial⟩)
  · intro H2 hc2 hq2
    have hf2 := hc2.at hf1 (by simp; omega)
    have hp2 := hp.ch hc2 (by simp; omega) (by simp; omega) (by simp; omega)
    obtain ⟨-, gs, ms, ⟨hp21, hp22, hp23⟩, hct⟩ := id hp2
    obtain ⟨hq21, co, fn, hq22, hq23, -⟩ := id hq2
    have e10 : (nI x + nI ac < nI (x + (2 * ac + 1)) - nI ac) = (2 * ac < 2 * ac + 1) := pl_lt0 x (by omega) ac (by omega) _ (by omega)
    refine ew_iload (M := mX8_countRow) dX8_countRow_9 rfl ?_
    refine ew_iload (M := mX8_countRow) dX8_countRow_11 rfl ?_
    refine ew_aload_n (M := mX8_countRow) dX8_countRow_13 rfl (Or.inr (Or.inl ⟨_, rfl⟩)) ?_
    refine ew_get (M := mX8_countRow) dX8_countRow_14 fX8_68 (by repeat (first | with_reducible assumption | refine ex_eq ?_ | refine ex_ne ?_ (by omega) | exact ex_lt (by with_reducible assumption) | rw [List.length_set] | assumption)) (by rfl) ?_
    refine ew_iadd (M := mX8_countRow) dX8_countRow_17 ?_
    refine ew_icmp_gt (M := mX8_countRow) (tgt := 99) dX8_countRow_18 rfl (fun _ => ?_) (fun h => absurd (by rw [e10]; omega) h)
    refine ew_vret (M := mX8_countRow) dX8_countRow_99 rfl (Nat.le_refl _) (Nat.le_refl _) ?_
    exact ⟨rfl, hc2, hq2⟩
theorem sp_lookAt {d : Nat} {H : ex_H} {q p a w h ac dn rk bo wt fi x y : Nat} {g m c0 : Nat → Nat} (hq : wi_is H q c0) (hp : pi_is H p w h g m) (hf : fi_is H a ac dn rk bo wt) (hfi : fi < 256) (hx : x < w) (hy : y < h) (hqp : q + 2 < p ∨ p + 2 < q) (hqa : a < q ∨ q + 2 < a) : ex_Met mX8_lookAt (d + 3) 0 0 H [.ref q, .ref p, .ref a, .int (nI fi), .int (nI x), .int (nI y)] (fun H' r => r = none ∧ ex_ch H H' [q, q + 1, q + 2] ∧ wi_is H' q (cnts w h g m fi ac dn bo wt x y)) := by
  obtain ⟨hf1, hac, hdn, hrk, hbo, hwt1, hwt2⟩ := id hf
  obtain ⟨⟨hz, hgm⟩, gs, ms, ⟨hp1, hp2, hp3⟩, -⟩ := id hp
  obtain ⟨hz1, hz2, hz3, hz4⟩ := id hz
  obtain ⟨hq1, co, fn, hq2, hq3, -⟩ := id hq
  refine ex_meth [(0, .ref q), (1, .ref p), (2, .ref a), (3, .int (nI fi)), (4, .int (nI x)), (5, .int (nI y))] rfl rfl rfl (fun b => Nat.le_of_ble_eq_true rfl) ?_
  refine ew_aload_n (M := mX8_lookAt) dX8_lookAt_0 rfl (Or.inr (Or.inl ⟨_, rfl⟩)) ?_
  refine ew_iconst (M := mX8_lookAt) dX8_lookAt_1 (v := nI 0) (by decide) ?_
  refine ew_put (M := mX8_lookAt) dX8_lookAt_2 fX8_9 (by repeat (first | with_reducible assumption | refine ex_eq ?_ | refine ex_ne ?_ (by omega) | exact ex_lt (by with_reducible assumption) | rw [List.length_set] | assumption)) (by exact Nat.le_of_ble_eq_true rfl) ⟨rfl, rfl, fun _ h => by cases h⟩ ?_
  refine ew_aload_n (M := mX8_lookAt) dX8_lookAt_5 rfl (Or.inr (Or.inl ⟨_, rfl⟩)) ?_
  refine ew_get (M := mX8_lookAt) dX8_lookAt_6 fX8_15 (by repeat (first | with_reducible assumption | refine ex_eq ?_ | refine ex_ne ?_ (by omega) | exact ex_lt (by with_reducible assumption) | rw [List.length_set] | assumption)) (by rfl) ?_
  refine ew_iconst (M := mX8_lookAt) dX8_lookAt_9 (v := nI 0) (by decide) ?_
  refine ew_callS (M := mX8_lookAt) dX8_lookAt_10 vX8_22 (sp_fill (a := q + 1) (n := 16) (f := co) (by repeat (first | with_reducible assumption | refine ex_eq ?_ | refine ex_ne ?_ (by omega) | exact ex_lt (by with_reducible assumption) | rw [List.length_set] | assumption)) (by decide)) rfl (Nat.le_of_ble_eq_true rfl) ⟨Nat.le_refl _, Nat.le_refl _⟩ rfl (fun H10 r10 q10 => ?_)
  obtain ⟨rfl, co2, rfl, hco2⟩ := q10
  refine ew_aload_n (M := mX8_lookAt) dX8_lookAt_13 rfl (Or.inr (Or.inl ⟨_, rfl⟩)) ?_
  refine ew_get (M := mX8_lookAt) dX8_lookAt_14 fX8_19 (by repeat (first | with_reducible assumption | refine ex_eq ?_ | refine ex_ne ?_ (by omega) | exact ex_lt (by with_reducible assumption) | rw [List.length_set] | assumption)) (by rfl) ?_
  refine ew_iconst (M := mX8_lookAt) dX8_lookAt_17 (v := nI 0) (by decide) ?_
  refine ew_callS (M := mX8_lookAt) dX8_lookAt_18 vX8_22 (sp_fill (a := q + 2) (n := 256) (f := fn) (by repeat (first | with_reducible assumption | refine ex_eq ?_ | refine ex_ne ?_ (by omega) | exact ex_lt (by with_reducible assumption) | rw [List.length_set] | assumption)) (by decide)) rfl (Nat.le_of_ble_eq_true rfl) ⟨Nat.le_refl _, Nat.le_refl _⟩ rfl (fun H18 r18 q18 => ?_)
  obtain ⟨rfl, fn2, rfl, hfn2⟩ := q18
  have hc1 : ex_ch H (((H.set q (ob 8 [.int (nI 0), .ref (q + 1), .ref (q + 2)])).set (q + 1) (ar .int 16 co2)).set (q + 2) (ar .int 256 fn2)) [q, q + 1, q + 2] := ((ex_ch.rf.set (by simp)).set (by simp)).set (by simp)
  have hw1 : wi_is (((H.set q (ob 8 [.int (nI 0), .ref (q + 1), .ref (q + 2)])).set (q + 1) (ar .int 16 co2)).set (q + 2) (ar .int 256 fn2)) q (fun _ => 0) := by
    refine ⟨?_, co2, fn2, (by repeat (first | with_reducible assumption | refine ex_eq ?_ | refine ex_ne ?_ (by omega) | exact ex_lt (by with_reducible assumption) | rw [List.length_set] | assumption)), (by repeat (first | with_reducible assumption | refine ex_eq ?_ | refine ex_ne ?_ (by omega) | exact ex_lt (by with_reducible assumption) | rw [List.length_set] | assumption)), fun k hk => ?_, fun k hk => ?_⟩
    · rw [bs_zero]
      exact ex_ne (ex_ne (ex_eq (ex_lt hq1)) (by omega)) (by omega)
    · rw [bs_zero]; exact hco2 k hk
    · exact hfn2 k hk
  change ex_W _ _ _ _ _ (((H.set q (ob 8 [.int (nI 0), .ref (q + 1), .ref (q + 2)])).set (q + 1) (ar .int 16 co2)).set (q + 2) (ar .int 256 fn2)) _ _ _ _ _
  generalize (((H.set q (ob 8 [.int (nI 0), .ref (q + 1), .ref (q + 2)])).set (q + 1) (ar .int 16 co2)).set (q + 2) (ar .int 256 fn2)) = H1 at hc1 hw1 ⊢
  have hf2 := hc1.at hf1 (by simp; omega)
  refine ew_iload (M := mX8_lookAt) dX8_lookAt_21 rfl ?_
  refine ew_aload_n (M := mX8_lookAt) dX8_lookAt_23 rfl (Or.inr (Or.inl ⟨_, rfl⟩)) ?_
  refine ew_get (M := mX8_lookAt) dX8_lookAt_24 fX8_28 (by repeat (first | with_reducible assumption | refine ex_eq ?_ | refine ex_ne ?_ (by omega) | exact ex_lt (by with_reducible assumption) | rw [List.length_set] | assumption)) (by rfl) ?_
  refine ew_isub (M := mX8_lookAt) dX8_lookAt_27 ?_
  refine ew_istore (M := mX8_lookAt) dX8_lookAt_28 (by decide) rfl ?_
  refine ew_ls [(0, .ref q), (1, .ref p), (2, .ref a), (3, .int (nI fi)), (4, .int (nI x)), (5, .int (nI y)), (6, .int (nI (y + 0) - nI dn))] ⟨rfl, rfl, rfl, rfl, rfl, rfl, rfl, trivial⟩ ?_
  refine fl_down (F := fun t c => rowc w g m bo fi ac x (sf bo h (y + t) dn) c) (P := fun t c => ∀ H2 : ex_H, ex_ch H H2 [q, q + 1, q + 2] → wi_is H2 q c → ex_W mX8_lookAt (d + 3) 0 0 _ H2 30 [(0, .ref q), (1, .ref p), (2, .ref a), (3, .int (nI fi)), (4, .int (nI x)), (5, .int (nI y)), (6, .int (nI (y + t) - nI dn))] [] 0 0) (2 * dn + 1) (fun _ => 0) (fun t c ht _ k => ?_) ?_ H1 hc1 hw1
  · intro H2 hc2 hq2
    have hf2 := hc2.at hf1 (by simp; omega)
    have hp2 := hp.ch hc2 (by simp; omega) (by simp; omega) (by simp; omega)
    obtain ⟨-, gs, ms, ⟨hp21, hp22, hp23⟩, hct⟩ := id hp2
    obtain ⟨hq21, co, fn, hq22, hq23, -⟩ := id hq2
    have e10 : (nI y + nI dn < nI (y + t) - nI dn) = (2 * dn < t) := pl_lt0 y (by omega) dn (by omega) t (by omega)
    refine ew_iload (M := mX8_lookAt) dX8_lookAt_30 rfl ?_
    refine ew_iload (M := mX8_lookAt) dX8_lookAt_32 rfl ?_
    refine ew_aload_n (M := mX8_lookAt) dX8_lookAt_34 rfl (Or.inr (Or.inl ⟨_, rfl⟩)) ?_
    refine ew_get (M := mX8_lookAt) dX8_lookAt_35 fX8_28 (by repeat (first | with_reducible assumption | refine ex_eq ?_ | refine ex_ne ?_ (by omega) | exact ex_lt (by with_reducible assumption) | rw [List.length_set] | assumption)) (by rfl) ?_
    refine ew_iadd (M := mX8_lookAt) dX8_lookAt_38 ?_
    refine ew_icmp_gt (M := mX8_lookAt) (tgt := 70) dX8_lookAt_39 rfl (fun h => absurd h (by rw [e10]; omega)) (fun _ => ?_)
    refine ew_aload_n (M := mX8_lookAt) dX8_lookAt_42 rfl (Or.inr (Or.inl ⟨_, rfl⟩)) ?_
    refine ew_aload_n (M := mX8_lookAt) dX8_lookAt_43 rfl (Or.inr (Or.inl ⟨_, rfl⟩)) ?_
    refine ew_aload_n (M := mX8_lookAt) dX8_lookAt_44 rfl (Or.inr (Or.inl ⟨_, rfl⟩)) ?_
    refine ew_iload_n (M := mX8_lookAt) dX8_lookAt_45 rfl ?_
    refine ew_iload (M := mX8_lookAt) dX8_lookAt_46 rfl ?_
    refine ew_iload (M := mX8_lookAt) dX8_lookAt_48 rfl ?_
    refine ew_aload_n (M := mX8_lookAt) dX8_lookAt_50 rfl (Or.inr (Or.inl ⟨_, rfl⟩)) ?_
    refine ew_get (M := mX8_lookAt) dX8_lookAt_51 fX8_33 (by repeat (first | with_reducible assumption | refine ex_eq ?_ | refine ex_ne ?_ (by omega) | exact ex_lt (by with_reducible assumption) | rw [List.length_set] | assumption)) (by rfl) ?_
    refine ew_aload_n (M := mX8_lookAt) dX8_lookAt_54 rfl (Or.inr (Or.inl ⟨_, rfl⟩)) ?_
    refine ew_get (M := mX8_lookAt) dX8_lookAt_55 fX8_38 (by repeat (first | with_reducible assumption | refine ex_eq ?_ | refine ex_ne ?_ (by omega) | exact ex_lt (by with_reducible assumption) | rw [List.length_set] | assumption)) (by rfl) ?_
    refine ew_callS (M := mX8_lookAt) dX8_lookAt_58 vX8_41 (sp_standingFor (by omega) (by omega) hz3 (by omega) hbo) rfl (Nat.le_of_ble_eq_true rfl) ⟨Nat.le_refl _, Nat.le_refl _⟩ rfl (fun H58 r58 q58 => ?_)
    obtain ⟨rfl, rfl⟩ := q58
    refine ew_callV (M := mX8_lookAt) dX8_lookAt_61 vX8_45 (by repeat (first | with_reducible assumption | refine ex_eq ?_ | refine ex_ne ?_ (by omega) | exact ex_lt (by with_reducible assumption) | rw [List.length_set] | assumption)) rfl (sp_countRow hq2 hp2 ⟨hf2, hac, hdn, hrk, hbo, hwt1, hwt2⟩ hfi hx hqp hqa (fun j hj => sf_lt hz3 hj)) rfl (Nat.le_of_ble_eq_true rfl) ⟨Nat.le_refl _, Nat.le_refl _⟩ rfl (fun H61 r61 q61 => ?_)
    obtain ⟨rfl, hc3, hq3⟩ := q61
    refine ew_iinc (M := mX8_lookAt) dX8_lookAt_64 rfl (ex_inc2 (y + t) dn) (by decide) rfl ?_
    refine ew_goto (M := mX8_lookAt) (tgt := 30) dX8_lookAt_67 rfl ?_
    refine ew_ls _ ?_ (k _ (hc2.tr hc3 (by simp)) hq3)
    exact ⟨rfl, rfl, rfl, rfl, rfl, rfl, rfl, trivial⟩
  · intro H2 hc2 hq2
    have hf2 := hc2.at hf1 (by simp; omega)
    have hp2 := hp.ch hc2 (by simp; omega) (by simp; omega) (by simp; omega)
    obtain ⟨-, gs, ms, ⟨hp21, hp22, hp23⟩, hct⟩ := id hp2
    obtain ⟨hq21, co, fn, hq22, hq23, -⟩ := id hq2
    have e10 : (nI y + nI dn < nI (y + (2 * dn + 1)) - nI dn) = (2 * dn < 2 * dn + 1) := pl_lt0 y (by omega) dn (by omega) _ (by omega)
    have hg2 := hgm _ (pi_lt hx hy)
    refine ew_iload (M := mX8_lookAt) dX8_lookAt_30 rfl ?_
    refine ew_iload (M := mX8_lookAt) dX8_lookAt_32 rfl ?_
    refine ew_aload_n (M := mX8_lookAt) dX8_lookAt_34 rfl (Or.inr (Or.inl ⟨_, rfl⟩)) ?_
    refine ew_get (M := mX8_lookAt) dX8_lookAt_35 fX8_28 (by repeat (first | with_reducible assumption | refine ex_eq ?_ | refine ex_ne ?_ (by omega) | exact ex_lt (by with_reducible assumption) | rw [List.length_set] | assumption)) (by rfl) ?_
    refine ew_iadd (M := mX8_lookAt) dX8_lookAt_38 ?_
    refine ew_icmp_gt (M := mX8_lookAt) (tgt := 70) dX8_lookAt_39 rfl (fun _ => ?_) (fun h => absurd (by rw [e10]; omega) h)
    refine ew_aload_n (M := mX8_lookAt) dX8_lookAt_70 rfl (Or.inr (Or.inl ⟨_, rfl⟩)) ?_
    refine ew_iload (M := mX8_lookAt) dX8_lookAt_71 rfl ?_
    refine ew_iload (M := mX8_lookAt) dX8_lookAt_73 rfl ?_
    refine ew_callV (M := mX8_lookAt) dX8_lookAt_75 vX8_49 (by repeat (first | with_reducible assumption | refine ex_eq ?_ | refine ex_ne ?_ (by omega) | exact ex_lt (by with_reducible assumption) | rw [List.length_set] | assumption)) rfl (sp_isMasked hp2 hx hy) rfl (Nat.le_of_ble_eq_true rfl) ⟨Nat.le_refl _, Nat.le_refl _⟩ rfl (fun H75 r75 q75 => ?_)
    obtain ⟨rfl, rfl⟩ := q75
    refine ew_if_ne (M := mX8_lookAt) (tgt := 99) dX8_lookAt_78 rfl (fun c78 => ?_) (fun c78 => ?_)
    · rw [nI_z (by omega)] at c78
      refine ew_vret (M := mX8_lookAt) dX8_lookAt_99 rfl (Nat.le_refl _) (Nat.le_refl _) ?_
      first
        | exact ⟨rfl, hc2.tr hc3 (by simp), by rw [cnts, if_pos c78]; exact hq3⟩
        | exact ⟨rfl, hc2, by rw [cnts, if_neg c78]; exact hq2⟩
    · rw [nI_z (by omega)] at c78
      refine ew_aload_n (M := mX8_lookAt) dX8_lookAt_81 rfl (Or.inr (Or.inl ⟨_, rfl⟩)) ?_
      refine ew_aload_n (M := mX8_lookAt) dX8_lookAt_82 rfl (Or.inr (Or.inl ⟨_, rfl⟩)) ?_
      refine ew_iload (M := mX8_lookAt) dX8_lookAt_83 rfl ?_
      refine ew_iload (M := mX8_lookAt) dX8_lookAt_85 rfl ?_
      refine ew_callV (M := mX8_lookAt) dX8_lookAt_87 vX8_53 (by repeat (first | with_reducible assumption | refine ex_eq ?_ | refine ex_ne ?_ (by omega) | exact ex_lt (by with_reducible assumption) | rw [List.length_set] | assumption)) rfl (sp_greyOf hp2 hx hy) rfl (Nat.le_of_ble_eq_true rfl) ⟨Nat.le_refl _, Nat.le_refl _⟩ rfl (fun H87 r87 q87 => ?_)
      obtain ⟨rfl, rfl⟩ := q87
      refine ew_aload_n (M := mX8_lookAt) dX8_lookAt_90 rfl (Or.inr (Or.inl ⟨_, rfl⟩)) ?_
      refine ew_get (M := mX8_lookAt) dX8_lookAt_91 fX8_57 (by repeat (first | with_reducible assumption | refine ex_eq ?_ | refine ex_ne ?_ (by omega) | exact ex_lt (by with_reducible assumption) | rw [List.length_set] | assumption)) (by rfl) ?_
      refine ew_iconst (M := mX8_lookAt) dX8_lookAt_94 (v := nI 1) (by decide) ?_
      refine ew_isub (M := mX8_lookAt) dX8_lookAt_95 ?_
      rw [pk_sub hwt1]
      refine ew_callV (M := mX8_lookAt) dX8_lookAt_96 vX8_60 (by repeat (first | with_reducible assumption | refine ex_eq ?_ | refine ex_ne ?_ (by omega) | exact ex_lt (by with_reducible assumption) | rw [List.length_set] | assumption)) rfl (sp_count hq2 hg2.1) rfl (Nat.le_of_ble_eq_true rfl) ⟨Nat.le_refl _, Nat.le_refl _⟩ rfl (fun H96 r96 q96 => ?_)
      obtain ⟨rfl, hc3, hq3⟩ := q96
      refine ew_vret (M := mX8_lookAt) dX8_lookAt_99 rfl (Nat.le_refl _) (Nat.le_refl _) ?_
      first
        | exact ⟨rfl, hc2.tr hc3 (by simp), by rw [cnts, if_pos c78]; exact hq3⟩
        | exact ⟨rfl, hc2, by rw [cnts, if_neg c78]; exact hq2⟩
