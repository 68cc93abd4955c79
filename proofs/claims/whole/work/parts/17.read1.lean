/-- the sign that a letter is: 0 .. 15 a figure, 16 a dash -/
def sg (x : Nat) : Option Nat := if 48 ≤ x ∧ x ≤ 57 then some (x - 48) else if 97 ≤ x ∧ x ≤ 102 then some (x - 97 + 10) else if x = 45 then some 16 else none
theorem sg_le {x s : Nat} (h : sg x = some s) : s ≤ 16 := by
  unfold sg at h
  split at h
  · cases h; omega
  · split at h
    · cases h; omega
    · split at h
      · cases h; omega
      · cases h
theorem sp_signOf {d : Nat} {H : ex_H} {x : Nat} (hx : x < 256) : ex_Met mX5_signOf (d + 1) 0 0 H [.int (nI x)] (ex_r H (.int (oI (sg x)))) := by
  unfold sg
  refine ex_meth [(0, .int (nI x))] rfl rfl rfl (fun b => Nat.le_of_ble_eq_true rfl) ?_
  by_cases h1 : 48 ≤ x ∧ x ≤ 57
  · rw [if_pos h1]
    refine ew_iload_n (M := mX5_signOf) dX5_signOf_0 rfl ?_
    refine ew_bipush (M := mX5_signOf) dX5_signOf_1 (v := nI 48) (by decide) ?_
    refine ew_bipush (M := mX5_signOf) dX5_signOf_3 (v := nI 57) (by decide) ?_
    refine ew_callS (M := mX5_signOf) dX5_signOf_5 vX5_55 (sp_within_y (nI_le h1.1 (by omega)) (nI_le h1.2 (by omega))) rfl (Nat.le_of_ble_eq_true rfl) ⟨Nat.le_refl _, Nat.le_refl _⟩ rfl (fun H5 r5 q5 => ?_)
    obtain ⟨rfl, rfl⟩ := q5
    refine ew_if_eq (M := mX5_signOf) (tgt := 16) dX5_signOf_8 rfl (fun h => absurd h (by decide)) (fun _ => ?_)
    refine ew_iload_n (M := mX5_signOf) dX5_signOf_11 rfl ?_
    refine ew_bipush (M := mX5_signOf) dX5_signOf_12 (v := nI 48) (by decide) ?_
    refine ew_isub (M := mX5_signOf) dX5_signOf_14 ?_
    refine ew_iret (M := mX5_signOf) dX5_signOf_15 rfl (by first | rfl | decide) (Nat.le_refl _) (Nat.le_refl _) ?_
    exact ⟨rfl, by rw [pk_sub h1.1]; rfl⟩
  · rw [if_neg h1]
    by_cases h2 : 97 ≤ x ∧ x ≤ 102
    · rw [if_pos h2]
      refine ew_iload_n (M := mX5_signOf) dX5_signOf_0 rfl ?_
      refine ew_bipush (M := mX5_signOf) dX5_signOf_1 (v := nI 48) (by decide) ?_
      refine ew_bipush (M := mX5_signOf) dX5_signOf_3 (v := nI 57) (by decide) ?_
      refine ew_callS (M := mX5_signOf) dX5_signOf_5 vX5_55 (sp_within_n (fun e => h1 ⟨(nI_leI (by omega) (by omega)).mp e.1, (nI_leI (by omega) (by omega)).mp e.2⟩)) rfl (Nat.le_of_ble_eq_true rfl) ⟨Nat.le_refl _, Nat.le_refl _⟩ rfl (fun H5 r5 q5 => ?_)
      obtain ⟨rfl, rfl⟩ := q5
      refine ew_if_eq (M := mX5_signOf) (tgt := 16) dX5_signOf_8 rfl (fun _ => ?_) (fun h => absurd (by decide) h)
      refine ew_iload_n (M := mX5_signOf) dX5_signOf_16 rfl ?_
      refine ew_bipush (M := mX5_signOf) dX5_signOf_17 (v := nI 97) (by decide) ?_
      refine ew_bipush (M := mX5_signOf) dX5_signOf_19 (v := nI 102) (by decide) ?_
      refine ew_callS (M := mX5_signOf) dX5_signOf_21 vX5_55 (sp_within_y (nI_le h2.1 (by omega)) (nI_le h2.2 (by omega))) rfl (Nat.le_of_ble_eq_true rfl) ⟨Nat.le_refl _, Nat.le_refl _⟩ rfl (fun H21 r21 q21 => ?_)
      obtain ⟨rfl, rfl⟩ := q21
      refine ew_if_eq (M := mX5_signOf) (tgt := 35) dX5_signOf_24 rfl (fun h => absurd h (by decide)) (fun _ => ?_)
      refine ew_iload_n (M := mX5_signOf) dX5_signOf_27 rfl ?_
      refine ew_bipush (M := mX5_signOf) dX5_signOf_28 (v := nI 97) (by decide) ?_
      refine ew_isub (M := mX5_signOf) dX5_signOf_30 ?_
      refine ew_bipush (M := mX5_signOf) dX5_signOf_31 (v := nI 10) (by decide) ?_
      refine ew_iadd (M := mX5_signOf) dX5_signOf_33 ?_
      refine ew_iret (M := mX5_signOf) dX5_signOf_34 rfl (by first | rfl | decide) (Nat.le_refl _) (Nat.le_refl _) ?_
      exact ⟨rfl, by rw [pk_sub h2.1, nI_add]; rfl⟩
    · rw [if_neg h2]
      by_cases h3 : x = 45
      · rw [if_pos h3]
        refine ew_iload_n (M := mX5_signOf) dX5_signOf_0 rfl ?_
        refine ew_bipush (M := mX5_signOf) dX5_signOf_1 (v := nI 48) (by decide) ?_
        refine ew_bipush (M := mX5_signOf) dX5_signOf_3 (v := nI 57) (by decide) ?_
        refine ew_callS (M := mX5_signOf) dX5_signOf_5 vX5_55 (sp_within_n (fun e => h1 ⟨(nI_leI (by omega) (by omega)).mp e.1, (nI_leI (by omega) (by omega)).mp e.2⟩)) rfl (Nat.le_of_ble_eq_true rfl) ⟨Nat.le_refl _, Nat.le_refl _⟩ rfl (fun H5 r5 q5 => ?_)
        obtain ⟨rfl, rfl⟩ := q5
        refine ew_if_eq (M := mX5_signOf) (tgt := 16) dX5_signOf_8 rfl (fun _ => ?_) (fun h => absurd (by decide) h)
        refine ew_iload_n (M := mX5_signOf) dX5_signOf_16 rfl ?_
        refine ew_bipush (M := mX5_signOf) dX5_signOf_17 (v := nI 97) (by decide) ?_
        refine ew_bipush (M := mX5_signOf) dX5_signOf_19 (v := nI 102) (by decide) ?_
        refine ew_callS (M := mX5_signOf) dX5_signOf_21 vX5_55 (sp_within_n (fun e => h2 ⟨(nI_leI (by omega) (by omega)).mp e.1, (nI_leI (by omega) (by omega)).mp e.2⟩)) rfl (Nat.le_of_ble_eq_true rfl) ⟨Nat.le_refl _, Nat.le_refl _⟩ rfl (fun H21 r21 q21 => ?_)
        obtain ⟨rfl, rfl⟩ := q21
        refine ew_if_eq (M := mX5_signOf) (tgt := 35) dX5_signOf_24 rfl (fun _ => ?_) (fun h => absurd (by decide) h)
        refine ew_iload_n (M := mX5_signOf) dX5_signOf_35 rfl ?_
        refine ew_bipush (M := mX5_signOf) dX5_signOf_36 (v := nI 45) (by decide) ?_
        refine ew_icmp_ne (M := mX5_signOf) (tgt := 46) dX5_signOf_38 rfl (fun h => absurd (by rw [h3]) h) (fun _ => ?_)
        refine ew_bipush (M := mX5_signOf) dX5_signOf_41 (v := nI 16) (by decide) ?_
        refine ew_goto (M := mX5_signOf) (tgt := 47) dX5_signOf_43 rfl ?_
        refine ew_iret (M := mX5_signOf) dX5_signOf_47 rfl (by first | rfl | decide) (Nat.le_refl _) (Nat.le_refl _) ?_
        exact ⟨rfl, rfl⟩
      · rw [if_neg h3]
        refine ew_iload_n (M := mX5_signOf) dX5_signOf_0 rfl ?_
        refine ew_bipush (M := mX5_signOf) dX5_signOf_1 (v := nI 48) (by decide) ?_
        refine ew_bipush (M := mX5_signOf) dX5_signOf_3 (v := nI 57) (by decide) ?_
        refine ew_callS (M := mX5_signOf) dX5_signOf_5 vX5_55 (sp_within_n (fun e => h1 ⟨(nI_leI (by omega) (by omega)).mp e.1, (nI_leI (by omega) (by omega)).mp e.2⟩)) rfl (Nat.le_of_ble_eq_true rfl) ⟨Nat.le_refl _, Nat.le_refl _⟩ rfl (fun H5 r5 q5 => ?_)
        obtain ⟨rfl, rfl⟩ := q5
        refine ew_if_eq (M := mX5_signOf) (tgt := 16) dX5_signOf_8 rfl (fun _ => ?_) (fun h => absurd (by decide) h)
        refine ew_iload_n (M := mX5_signOf) dX5_signOf_16 rfl ?_
        refine ew_bipush (M := mX5_signOf) dX5_signOf_17 (v := nI 97) (by decide) ?_
        refine ew_bipush (M := mX5_signOf) dX5_signOf_19 (v := nI 102) (by decide) ?_
        refine ew_callS (M := mX5_signOf) dX5_signOf_21 vX5_55 (sp_within_n (fun e => h2 ⟨(nI_leI (by omega) (by omega)).mp e.1, (nI_leI (by omega) (by omega)).mp e.2⟩)) rfl (Nat.le_of_ble_eq_true rfl) ⟨Nat.le_refl _, Nat.le_refl _⟩ rfl (fun H21 r21 q21 => ?_)
        obtain ⟨rfl, rfl⟩ := q21
        refine ew_if_eq (M := mX5_signOf) (tgt := 35) dX5_signOf_24 rfl (fun _ => ?_) (fun h => absurd (by decide) h)
        refine ew_iload_n (M := mX5_signOf) dX5_signOf_35 rfl ?_
        refine ew_bipush (M := mX5_signOf) dX5_signOf_36 (v := nI 45) (by decide) ?_
        refine ew_icmp_ne (M := mX5_signOf) (tgt := 46) dX5_signOf_38 rfl (fun _ => ?_) (fun h => absurd h (fun e => h3 ((nI_eq (by omega) (by decide)).mp e)))
        refine ew_iconst (M := mX5_signOf) dX5_signOf_46 (v := (-1)) (by decide) ?_
        refine ew_iret (M := mX5_signOf) dX5_signOf_47 rfl (by first | rfl | decide) (Nat.le_refl _) (Nat.le_refl _) ?_
        exact ⟨rfl, rfl⟩
def fsI (hf : Nat) : Int32 := if hf = 0 then -1 else nI (hf - 1)
def rdW (r wd : Nat) : Nat := if r = 0 then 10 else wd
/-- a reader's cells: dots read, row, column, width of the first row, the first sign and one (0: none) -/
def re_is (H : ex_H) (a p D r c wd hf : Nat) : Prop := H[a]? = some (ob 5 [.ref p, .int (nI D), .int (nI (rdW r wd)), .int (nI r), .int (nI c), .int (fsI hf)])
def rd_ok (D r c wd hf : Nat) : Prop := r ≤ 7 ∧ c ≤ rdW r wd ∧ rdW r wd ≤ 10 ∧ (0 < r → 1 ≤ wd) ∧ hf ≤ 17 ∧ (0 < hf → c < rdW r wd) ∧ D = (if r = 0 then c else r * wd + c)
/-- what of a picture has been read -/
def rd_pi (H : ex_H) (p D : Nat) (g m : Nat → Nat) : Prop := ∃ w h gs ms, pi_at H p w h gs ms ∧ ∀ k, k < D → gs k = nI (g k) ∧ ms k = nI (m k) ∧ g k < 256 ∧ m k < 2
theorem rd_80 {D r c wd hf : Nat} (h : rd_ok D r c wd hf) (hc : c < rdW r wd) : D < 80 := by
  obtain ⟨h1, h2, h3, h4, h5, h6, h7⟩ := h
  subst h7
  unfold rdW at *
  split
  · rename_i e; rw [if_pos e] at *; omega
  · rename_i e
    rw [if_neg e] at *
    have : r * wd ≤ 7 * wd := Nat.mul_le_mul_right _ h1
    omega
def brk (r c wd hf : Nat) : Nat := if hf ≠ 0 ∨ c = 0 then 1 else if 0 < r ∧ c < wd then 2 else 0
def rd_W (r c wd : Nat) : Nat := if r = 0 then c else wd
theorem sp_takeRowEnd_f {d : Nat} {H : ex_H} {a p D r c wd hf : Nat} (ha : re_is H a p D r c wd hf) (hok : rd_ok D r c wd hf) {b : Int32} (hb : brk r c wd hf ≠ 0) : ex_Met mX5_takeRowEnd (d + 2) 0 0 H [.ref a, .int b] (ex_r H (.int (nI (brk r c wd hf)))) := by
  obtain ⟨h1, h2, h3, h4, h5, h6, h7⟩ := id hok
  unfold re_is at ha
  unfold brk at *
  refine ex_meth [(0, .ref a), (1, .int b)] rfl rfl rfl (fun b => Nat.le_of_ble_eq_true rfl) ?_
  by_cases e1 : hf = 0
  · by_cases e2 : c = 0
    · rw [if_pos (Or.inr e2)]
      subst e1 e2
      refine ew_aload_n (M := mX5_takeRowEnd) dX5_takeRowEnd_0 rfl (Or.inr (Or.inl ⟨_, rfl⟩)) ?_
      refine ew_get (M := mX5_takeRowEnd) dX5_takeRowEnd_1 fX5_24 (by repeat (first | with_reducible assumption | refine ex_eq ?_ | refine ex_ne ?_ (by omega) | exact ex_lt (by with_reducible assumption) | rw [List.length_set] | assumption)) (by rfl) ?_
      refine ew_iconst (M := mX5_takeRowEnd) dX5_takeRowEnd_4 (v := (-1)) (by decide) ?_
      refine ew_icmp_ne (M := mX5_takeRowEnd) (tgt := 15) dX5_takeRowEnd_5 rfl (fun h => absurd rfl h) (fun _ => ?_)
      refine ew_aload_n (M := mX5_takeRowEnd) dX5_takeRowEnd_8 rfl (Or.inr (Or.inl ⟨_, rfl⟩)) ?_
      refine ew_get (M := mX5_takeRowEnd) dX5_takeRowEnd_9 fX5_21 (by repeat (first | with_reducible assumption | refine ex_eq ?_ | refine ex_ne ?_ (by omega) | exact ex_lt (by with_reducible assumption) | rw [List.length_set] | assumption)) (by rfl) ?_
      refine ew_if_ne (M := mX5_takeRowEnd) (tgt := 17) dX5_takeRowEnd_12 rfl (fun h => absurd rfl h) (fun _ => ?_)
      refine ew_iconst (M := mX5_takeRowEnd) dX5_takeRowEnd_15 (v := nI 1) (by decide) ?_
      refine ew_iret (M := mX5_takeRowEnd) dX5_takeRowEnd_16 rfl (by first | rfl | decide) (Nat.le_refl _) (Nat.le_refl _) ?_
      exact ⟨rfl, rfl⟩
    · have e3 : ¬ (hf ≠ 0 ∨ c = 0) := by omega
      rw [if_neg e3] at *
      have e4 : 0 < r ∧ c < wd := by
        by_cases e5 : 0 < r ∧ c < wd
        · exact e5
        · rw [if_neg e5] at hb; exact absurd rfl hb
      rw [if_pos e4]
      have e6 : rdW r wd = wd := if_neg (by omega)
      rw [e6] at ha h2 h3
      subst e1
      refine ew_aload_n (M := mX5_takeRowEnd) dX5_takeRowEnd_0 rfl (Or.inr (Or.inl ⟨_, rfl⟩)) ?_
      refine ew_get (M := mX5_takeRowEnd) dX5_takeRowEnd_1 fX5_24 (by repeat (first | with_reducible assumption | refine ex_eq ?_ | refine ex_ne ?_ (by omega) | exact ex_lt (by with_reducible assumption) | rw [List.length_set] | assumption)) (by rfl) ?_
      refine ew_iconst (M := mX5_takeRowEnd) dX5_takeRowEnd_4 (v := (-1)) (by decide) ?_
      refine ew_icmp_ne (M := mX5_takeRowEnd) (tgt := 15) dX5_takeRowEnd_5 rfl (fun h => absurd rfl h) (fun _ => ?_)
      refine ew_aload_n (M := mX5_takeRowEnd) dX5_takeRowEnd_8 rfl (Or.inr (Or.inl ⟨_, rfl⟩)) ?_
      refine ew_get (M := mX5_takeRowEnd) dX5_takeRowEnd_9 fX5_21 (by repeat (first | with_reducible assumption | refine ex_eq ?_ | refine ex_ne ?_ (by omega) | exact ex_lt (by with_reducible assumption) | rw [List.length_set] | assumption)) (by rfl) ?_
      refine ew_if_ne (M := mX5_takeRowEnd) (tgt := 17) dX5_takeRowEnd_12 rfl (fun _ => ?_) (fun h => absurd h (nI_n0 (by omega) (by omega)))
      refine ew_aload_n (M := mX5_takeRowEnd) dX5_takeRowEnd_17 rfl (Or.inr (Or.inl ⟨_, rfl⟩)) ?_
      refine ew_get (M := mX5_takeRowEnd) dX5_takeRowEnd_18 fX5_18 (by repeat (first | with_reducible assumption | refine ex_eq ?_ | refine ex_ne ?_ (by omega) | exact ex_lt (by with_reducible assumption) | rw [List.length_set] | assumption)) (by rfl) ?_
      refine ew_if_ne (M := mX5_takeRowEnd) (tgt := 32) dX5_takeRowEnd_21 rfl (fun _ => ?_) (fun h => absurd h (nI_n0 (by omega) (by omega)))
      refine ew_aload_n (M := mX5_takeRowEnd) dX5_takeRowEnd_32 rfl (Or.inr (Or.inl ⟨_, rfl⟩)) ?_
      refine ew_get (M := mX5_takeRowEnd) dX5_takeRowEnd_33 fX5_21 (by repeat (first | with_reducible assumption | refine ex_eq ?_ | refine ex_ne ?_ (by omega) | exact ex_lt (by with_reducible assumption) | rw [List.length_set] | assumption)) (by rfl) ?_
      refine ew_aload_n (M := mX5_takeRowEnd) dX5_takeRowEnd_36 rfl (Or.inr (Or.inl ⟨_, rfl⟩)) ?_
      refine ew_get (M := mX5_takeRowEnd) dX5_takeRowEnd_37 fX5_15 (by repeat (first | with_reducible assumption | refine ex_eq ?_ | refine ex_ne ?_ (by omega) | exact ex_lt (by with_reducible assumption) | rw [List.length_set] | assumption)) (by rfl) ?_
      refine ew_icmp_ge (M := mX5_takeRowEnd) (tgt := 45) dX5_takeRowEnd_40 rfl (fun h => absurd h (nI_ge (by omega) (by omega))) (fun _ => ?_)
      refine ew_iconst (M := mX5_takeRowEnd) dX5_takeRowEnd_43 (v := nI 2) (by decide) ?_
      refine ew_iret (M := mX5_takeRowEnd) dX5_takeRowEnd_44 rfl (by first | rfl | decide) (Nat.le_refl _) (Nat.le_refl _) ?_
      exact ⟨rfl, rfl⟩
  · rw [if_pos (Or.inl e1)]
    have e5 : fsI hf = nI (hf - 1) := if_neg e1
    rw [e5] at ha
    refine ew_aload_n (M := mX5_takeRowEnd) dX5_takeRowEnd_0 rfl (Or.inr (Or.inl ⟨_, rfl⟩)) ?_
    refine ew_get (M := mX5_takeRowEnd) dX5_takeRowEnd_1 fX5_24 (by repeat (first | with_reducible assumption | refine ex_eq ?_ | refine ex_ne ?_ (by omega) | exact ex_lt (by with_reducible assumption) | rw [List.length_set] | assumption)) (by rfl) ?_
    refine ew_iconst (M := mX5_takeRowEnd) dX5_takeRowEnd_4 (v := (-1)) (by decide) ?_
    refine ew_icmp_ne (M := mX5_takeRowEnd) (tgt := 15) dX5_takeRowEnd_5 rfl (fun _ => ?_) (fun h => absurd h (nI_m1 (by omega)))
    refine ew_iconst (M := mX5_takeRowEnd) dX5_takeRowEnd_15 (v := nI 1) (by decide) ?_
    refine ew_iret (M := mX5_takeRowEnd) dX5_takeRowEnd_16 rfl (by first | rfl | decide) (Nat.le_refl _) (Nat.le_refl _) ?_
    exact ⟨rfl, rfl⟩
theorem sp_takeRowEnd_b {d : Nat} {H : ex_H} {a p D r c wd hf : Nat} (ha : re_is H a p D r c wd hf) (hok : rd_ok D r c wd hf) (hb : brk r c wd hf = 0) : ex_Met mX5_takeRowEnd (d + 2) 0 0 H [.ref a, .int (nI 0)] (fun H' x => x = some (.int (nI (if r = 7 then 3 else 0))) ∧ ex_ch H H' [a] ∧ re_is H' a p D (r + 1) 0 (rd_W r c wd) 0) := by
  obtain ⟨h1, h2, h3, h4, h5, h6, h7⟩ := id hok
  unfold re_is at ha
  have e0 : hf = 0 ∧ c ≠ 0 ∧ ¬ (0 < r ∧ c < wd) := by
    unfold brk at hb
    by_cases q1 : hf ≠ 0 ∨ c = 0
    · rw [if_pos q1] at hb; omega
    · rw [if_neg q1] at hb
      by_cases q2 : 0 < r ∧ c < wd
      · rw [if_pos q2] at hb; omega
      · omega
  obtain ⟨rfl, e1, e2⟩ := e0
  have e3 : c = rd_W r c wd := by
    unfold rd_W rdW at *
    split
    · rfl
    · rename_i e; rw [if_neg e] at *; omega
  have e4 : 1 ≤ rd_W r c wd ∧ rd_W r c wd ≤ 10 := by rw [← e3]; omega
  refine ex_meth [(0, .ref a), (1, .int (nI 0))] rfl rfl rfl (fun b => Nat.le_of_ble_eq_true rfl) ?_
  by_cases hr : r = 0
  · subst hr
    rw [if_neg (by decide)]
    have e5 : rd_W 0 c wd = c := rfl
    rw [e5] at e4 ⊢
    refine ew_aload_n (M := mX5_takeRowEnd) dX5_takeRowEnd_0 rfl (Or.inr (Or.inl ⟨_, rfl⟩)) ?_
    refine ew_get (M := mX5_takeRowEnd) dX5_takeRowEnd_1 fX5_24 (by repeat (first | with_reducible assumption | refine ex_eq ?_ | refine ex_ne ?_ (by omega) | exact ex_lt (by with_reducible assumption) | rw [List.length_set] | assumption)) (by rfl) ?_
    refine ew_iconst (M := mX5_takeRowEnd) dX5_takeRowEnd_4 (v := (-1)) (by decide) ?_
    refine ew_icmp_ne (M := mX5_takeRowEnd) (tgt := 15) dX5_takeRowEnd_5 rfl (fun h => absurd rfl h) (fun _ => ?_)
    refine ew_aload_n (M := mX5_takeRowEnd) dX5_takeRowEnd_8 rfl (Or.inr (Or.inl ⟨_, rfl⟩)) ?_
    refine ew_get (M := mX5_takeRowEnd) dX5_takeRowEnd_9 fX5_21 (by repeat (first | with_reducible assumption | refine ex_eq ?_ | refine ex_ne ?_ (by omega) | exact ex_lt (by with_reducible assumption) | rw [List.length_set] | assumption)) (by rfl) ?_
    refine ew_if_ne (M := mX5_takeRowEnd) (tgt := 17) dX5_takeRowEnd_12 rfl (fun _ => ?_) (fun h => absurd h (nI_n0 (by omega) (by omega)))
    refine ew_aload_n (M := mX5_takeRowEnd) dX5_takeRowEnd_17 rfl (Or.inr (Or.inl ⟨_, rfl⟩)) ?_
    refine ew_get (M := mX5_takeRowEnd) dX5_takeRowEnd_18 fX5_18 (by repeat (first | with_reducible assumption | refine ex_eq ?_ | refine ex_ne ?_ (by omega) | exact ex_lt (by with_reducible assumption) | rw [List.length_set] | assumption)) (by rfl) ?_
    refine ew_if_ne (M := mX5_takeRowEnd) (tgt := 32) dX5_takeRowEnd_21 rfl (fun h => absurd rfl h) (fun _ => ?_)
    refine ew_aload_n (M := mX5_takeRowEnd) dX5_takeRowEnd_24 rfl (Or.inr (Or.inl ⟨_, rfl⟩)) ?_
    refine ew_aload_n (M := mX5_takeRowEnd) dX5_takeRowEnd_25 rfl (Or.inr (Or.inl ⟨_, rfl⟩)) ?_
    refine ew_get (M := mX5_takeRowEnd) dX5_takeRowEnd_26 fX5_21 (by repeat (first | with_reducible assumption | refine ex_eq ?_ | refine ex_ne ?_ (by omega) | exact ex_lt (by with_reducible assumption) | rw [List.length_set] | assumption)) (by rfl) ?_
    refine ew_put (M := mX5_takeRowEnd) dX5_takeRowEnd_29 fX5_15 (by repeat (first | with_reducible assumption | refine ex_eq ?_ | refine ex_ne ?_ (by omega) | exact ex_lt (by with_reducible assumption) | rw [List.length_set] | assumption)) (by exact Nat.le_of_ble_eq_true rfl) ⟨rfl, rfl, fun _ h => by cases h⟩ ?_
    refine ew_aload_n (M := mX5_takeRowEnd) dX5_takeRowEnd_32 rfl (Or.inr (Or.inl ⟨_, rfl⟩)) ?_
    refine ew_get (M := mX5_takeRowEnd) dX5_takeRowEnd_33 fX5_21 (by repeat (first | with_reducible assumption | refine ex_eq ?_ | refine ex_ne ?_ (by omega) | exact ex_lt (by with_reducible assumption) | rw [List.length_set] | assumption)) (by rfl) ?_
    refine ew_aload_n (M := mX5_takeRowEnd) dX5_takeRowEnd_36 rfl (Or.inr (Or.inl ⟨_, rfl⟩)) ?_
    refine ew_get (M := mX5_takeRowEnd) dX5_takeRowEnd_37 fX5_15 (by repeat (first | with_reducible assumption | refine ex_eq ?_ | refine ex_ne ?_ (by omega) | exact ex_lt (by with_reducible assumption) | rw [List.length_set] | assumption)) (by rfl) ?_
    refine ew_icmp_ge (M := mX5_takeRowEnd) (tgt := 45) dX5_takeRowEnd_40 rfl (fun _ => ?_) (fun h => absurd (Int32.le_refl _) h)
    refine ew_aload_n (M := mX5_takeRowEnd) dX5_takeRowEnd_45 rfl (Or.inr (Or.inl ⟨_, rfl⟩)) ?_
    refine ew_dup (M := mX5_takeRowEnd) dX5_takeRowEnd_46 rfl ?_
    refine ew_get (M := mX5_takeRowEnd) dX5_takeRowEnd_47 fX5_18 (by repeat (first | with_reducible assumption | refine ex_eq ?_ | refine ex_ne ?_ (by omega) | exact ex_lt (by with_reducible assumption) | rw [List.length_set] | assumption)) (by rfl) ?_
    refine ew_iconst (M := mX5_takeRowEnd) dX5_takeRowEnd_50 (v := nI 1) (by decide) ?_
    refine ew_iadd (M := mX5_takeRowEnd) dX5_takeRowEnd_51 ?_
    rw [nI_add]
    refine ew_put (M := mX5_takeRowEnd) dX5_takeRowEnd_52 fX5_18 (by repeat (first | with_reducible assumption | refine ex_eq ?_ | refine ex_ne ?_ (by omega) | exact ex_lt (by with_reducible assumption) | rw [List.length_set] | assumption)) (by exact Nat.le_of_ble_eq_true rfl) ⟨rfl, rfl, fun _ h => by cases h⟩ ?_
    refine ew_aload_n (M := mX5_takeRowEnd) dX5_takeRowEnd_55 rfl (Or.inr (Or.inl ⟨_, rfl⟩)) ?_
    refine ew_iconst (M := mX5_takeRowEnd) dX5_takeRowEnd_56 (v := nI 0) (by decide) ?_
    refine ew_put (M := mX5_takeRowEnd) dX5_takeRowEnd_57 fX5_21 (by repeat (first | with_reducible assumption | refine ex_eq ?_ | refine ex_ne ?_ (by omega) | exact ex_lt (by with_reducible assumption) | rw [List.length_set] | assumption)) (by exact Nat.le_of_ble_eq_true rfl) ⟨rfl, rfl, fun _ h => by cases h⟩ ?_
    refine ew_iload_n (M := mX5_takeRowEnd) dX5_takeRowEnd_60 rfl ?_
    refine ew_if_eq (M := mX5_takeRowEnd) (tgt := 81) dX5_takeRowEnd_61 rfl (fun _ => ?_) (fun h => absurd rfl h)
    refine ew_aload_n (M := mX5_takeRowEnd) dX5_takeRowEnd_81 rfl (Or.inr (Or.inl ⟨_, rfl⟩)) ?_
    refine ew_get (M := mX5_takeRowEnd) dX5_takeRowEnd_82 fX5_18 (by repeat (first | with_reducible assumption | refine ex_eq ?_ | refine ex_ne ?_ (by omega) | exact ex_lt (by with_reducible assumption) | rw [List.length_set] | assumption)) (by rfl) ?_
    refine ew_bipush (M := mX5_takeRowEnd) dX5_takeRowEnd_85 (v := nI 8) (by decide) ?_
    refine ew_icmp_ge (M := mX5_takeRowEnd) (tgt := 94) dX5_takeRowEnd_87 rfl (fun h => absurd h (nI_ge (by decide) (by decide))) (fun _ => ?_)
    refine ew_iconst (M := mX5_takeRowEnd) dX5_takeRowEnd_90 (v := nI 0) (by decide) ?_
    refine ew_goto (M := mX5_takeRowEnd) (tgt := 95) dX5_takeRowEnd_91 rfl ?_
    refine ew_iret (M := mX5_takeRowEnd) dX5_takeRowEnd_95 rfl (by first | rfl | decide) (Nat.le_refl _) (Nat.le_refl _) ?_
    exact ⟨rfl, ((ex_ch.rf.set (by simp)).set (by simp)).set (by simp), ex_eq (by rw [List.length_set]; rw [List.length_set]; exact ex_lt ha)⟩
  · have e5 : rd_W r c wd = wd := if_neg hr
    have e6 : rdW r wd = wd := if_neg hr
    rw [e5] at e3 e4 ⊢
    rw [e6] at ha h2 h3
    subst e3
    refine ew_aload_n (M := mX5_takeRowEnd) dX5_takeRowEnd_0 rfl (Or.inr (Or.inl ⟨_, rfl⟩)) ?_
    refine ew_get (M := mX5_takeRowEnd) dX5_takeRowEnd_1 fX5_24 (by repeat (first | with_reducible assumption | refine ex_eq ?_ | refine ex_ne ?_ (by omega) | exact ex_lt (by with_reducible assumption) | rw [List.length_set] | assumption)) (by rfl) ?_
    refine ew_iconst (M := mX5_takeRowEnd) dX5_takeRowEnd_4 (v := (-1)) (by decide) ?_
    refine ew_icmp_ne (M := mX5_takeRowEnd) (tgt := 15) dX5_takeRowEnd_5 rfl (fun h => absurd rfl h) (fun _ => ?_)
    refine ew_aload_n (M := mX5_takeRowEnd) dX5_takeRowEnd_8 rfl (Or.inr (Or.inl ⟨_, rfl⟩)) ?_
    refine ew_get (M := mX5_takeRowEnd) dX5_takeRowEnd_9 fX5_21 (by repeat (first | with_reducible assumption | refine ex_eq ?_ | refine ex_ne ?_ (by omega) | exact ex_lt (by with_reducible assumption) | rw [List.length_set] | assumption)) (by rfl) ?_
    refine ew_if_ne (M := mX5_takeRowEnd) (tgt := 17) dX5_takeRowEnd_12 rfl (fun _ => ?_) (fun h => absurd h (nI_n0 (by omega) (by omega)))
    refine ew_aload_n (M := mX5_takeRowEnd) dX5_takeRowEnd_17 rfl (Or.inr (Or.inl ⟨_, rfl⟩)) ?_
    refine ew_get (M := mX5_takeRowEnd) dX5_takeRowEnd_18 fX5_18 (by repeat (first | with_reducible assumption | refine ex_eq ?_ | refine ex_ne ?_ (by omega) | exact ex_lt (by with_reducible assumption) | rw [List.length_set] | assumption)) (by rfl) ?_
    refine ew_if_ne (M := mX5_takeRowEnd) (tgt := 32) dX5_takeRowEnd_21 rfl (fun _ => ?_) (fun h => absurd h (nI_n0 (by omega) (by omega)))
    refine ew_aload_n (M := mX5_takeRowEnd) dX5_takeRowEnd_32 rfl (Or.inr (Or.inl ⟨_, rfl⟩)) ?_
    refine ew_get (M := mX5_takeRowEnd) dX5_takeRowEnd_33 fX5_21 (by repeat (first | with_reducible assumption | refine ex_eq ?_ | refine ex_ne ?_ (by omega) | exact ex_lt (by with_reducible assumption) | rw [List.length_set] | assumption)) (by rfl) ?_
    refine ew_aload_n (M := mX5_takeRowEnd) dX5_takeRowEnd_36 rfl (Or.inr (Or.inl ⟨_, rfl⟩)) ?_
    refine ew_get (M := mX5_takeRowEnd) dX5_takeRowEnd_37 fX5_15 (by repeat (first | with_reducible assumption | refine ex_eq ?_ | refine ex_ne ?_ (by omega) | exact ex_lt (by with_reducible assumption) | rw [List.length_set] | assumption)) (by rfl) ?_
    refine ew_icmp_ge (M := mX5_takeRowEnd) (tgt := 45) dX5_takeRowEnd_40 rfl (fun _ => ?_) (fun h => absurd (Int32.le_refl _) h)
    refine ew_aload_n (M := mX5_takeRowEnd) dX5_takeRowEnd_45 rfl (Or.inr (Or.inl ⟨_, rfl⟩)) ?_
    refine ew_dup (M := mX5_takeRowEnd) dX5_takeRowEnd_46 rfl ?_
    refine ew_get (M := mX5_takeRowEnd) dX5_takeRowEnd_47 fX5_18 (by repeat (first | with_reducible assumption | refine ex_eq ?_ | refine ex_ne ?_ (by omega) | exact ex_lt (by with_reducible assumption) | rw [List.length_set] | assumption)) (by rfl) ?_
    refine ew_iconst (M := mX5_takeRowEnd) dX5_takeRowEnd_50 (v := nI 1) (by decide) ?_
    refine ew_iadd (M := mX5_takeRowEnd) dX5_takeRowEnd_51 ?_
    rw [nI_add]
    refine ew_put (M := mX5_takeRowEnd) dX5_takeRowEnd_52 fX5_18 (by repeat (first | with_reducible assumption | refine ex_eq ?_ | refine ex_ne ?_ (by omega) | exact ex_lt (by with_reducible assumption) | rw [List.length_set] | assumption)) (by exact Nat.le_of_ble_eq_true rfl) ⟨rfl, rfl, fun _ h => by cases h⟩ ?_
    refine ew_aload_n (M := mX5_takeRowEnd) dX5_takeRowEnd_55 rfl (Or.inr (Or.inl ⟨_, rfl⟩)) ?_
    refine ew_iconst (M := mX5_takeRowEnd) dX5_takeRowEnd_56 (v := nI 0) (by decide) ?_
    refine ew_put (M := mX5_takeRowEnd) dX5_takeRowEnd_57 fX5_21 (by repeat (first | with_reducible assumption | refine ex_eq ?_ | refine ex_ne ?_ (by omega) | exact ex_lt (by with_reducible assumption) | rw [List.length_set] | assumption)) (by exact Nat.le_of_ble_eq_true rfl) ⟨rfl, rfl, fun _ h => by cases h⟩ ?_
    refine ew_iload_n (M := mX5_takeRowEnd) dX5_takeRowEnd_60 rfl ?_
    refine ew_if_eq (M := mX5_takeRowEnd) (tgt := 81) dX5_takeRowEnd_61 rfl (fun _ => ?_) (fun h => absurd rfl h)
    refine ew_aload_n (M := mX5_takeRowEnd) dX5_takeRowEnd_81 rfl (Or.inr (Or.inl ⟨_, rfl⟩)) ?_
    refine ew_get (M := mX5_takeRowEnd) dX5_takeRowEnd_82 fX5_18 (by repeat (first | with_reducible assumption | refine ex_eq ?_ | refine ex_ne ?_ (by omega) | exact ex_lt (by with_reducible assumption) | rw [List.length_set] | assumption)) (by rfl) ?_
    refine ew_bipush (M := mX5_takeRowEnd) dX5_takeRowEnd_85 (v := nI 8) (by decide) ?_
    refine ew_icmp_ge (M := mX5_takeRowEnd) (tgt := 94) dX5_takeRowEnd_87 rfl (fun c87 => ?_) (fun c87 => ?_)
    · rw [nI_leI (by decide) (by omega)] at c87
      rw [if_pos (by omega)]
      refine ew_iconst (M := mX5_takeRowEnd) dX5_takeRowEnd_94 (v := nI 3) (by decide) ?_
      refine ew_iret (M := mX5_takeRowEnd) dX5_takeRowEnd_95 rfl (by first | rfl | decide) (Nat.le_refl _) (Nat.le_refl _) ?_
      exact ⟨rfl, (ex_ch.rf.set (by simp)).set (by simp), ex_eq (by rw [List.length_set]; exact ex_lt ha)⟩
    · rw [nI_leI (by decide) (by omega)] at c87
      rw [if_neg (by omega)]
      refine ew_iconst (M := mX5_takeRowEnd) dX5_takeRowEnd_90 (v := nI 0) (by decide) ?_
      refine ew_goto (M := mX5_takeRowEnd) (tgt := 95) dX5_takeRowEnd_91 rfl ?_
      refine ew_iret (M := mX5_takeRowEnd) dX5_takeRowEnd_95 rfl (by first | rfl | decide) (Nat.le_refl _) (Nat.le_refl _) ?_
      exact ⟨rfl, (ex_ch.rf.set (by simp)).set (by simp), ex_eq (by rw [List.length_set]; exact ex_lt ha)⟩
theorem sp_takeRowEnd_e {d : Nat} {H : ex_H} {a p D r c wd hf : Nat} (ha : re_is H a p D r c wd hf) (hok : rd_ok D r c wd hf) {g m : Nat → Nat} (hp : rd_pi H p D g m) (hap : a < p ∨ p + 2 < a) (hb : brk r c wd hf = 0) : ex_Met mX5_takeRowEnd (d + 2) 0 0 H [.ref a, .int (nI 1)] (fun H' x => x = some (.int (nI 0)) ∧ ex_ch H H' [a, p] ∧ pi_is H' p (rd_W r c wd) (r + 1) g m) := by
  obtain ⟨h1, h2, h3, h4, h5, h6, h7⟩ := id hok
  unfold re_is at ha
  have e0 : hf = 0 ∧ c ≠ 0 ∧ ¬ (0 < r ∧ c < wd) := by
    unfold brk at hb
    by_cases q1 : hf ≠ 0 ∨ c = 0
    · rw [if_pos q1] at hb; omega
    · rw [if_neg q1] at hb
      by_cases q2 : 0 < r ∧ c < wd
      · rw [if_pos q2] at hb; omega
      · omega
  obtain ⟨rfl, e1, e2⟩ := e0
  have e3 : c = rd_W r c wd := by
    unfold rd_W rdW at *
    split
    · rfl
    · rename_i e; rw [if_neg e] at *; omega
  have e4 : 1 ≤ rd_W r c wd ∧ rd_W r c wd ≤ 10 := by rw [← e3]; omega
  have e7 : rd_W r c wd * (r + 1) = D := by
    subst h7
    unfold rd_W
    by_cases hr : r = 0
    · subst hr; rw [if_pos rfl, if_pos rfl]; omega
    · rw [if_neg hr, if_neg hr, Nat.mul_succ, Nat.mul_comm]
      rw [rd_W, if_neg hr] at e3
      omega
  have hz : pi_sz (rd_W r c wd) (r + 1) := ⟨e4.1, e4.2, by omega, by omega⟩
  obtain ⟨w0, h0, gs, ms, hp0, hgm⟩ := hp
  obtain ⟨hp1, hp2, hp3⟩ := id hp0
  refine ex_meth [(0, .ref a), (1, .int (nI 1))] rfl rfl rfl (fun b => Nat.le_of_ble_eq_true rfl) ?_
  by_cases hr : r = 0
  · subst hr
    have e5 : rd_W 0 c wd = c := rfl
    rw [e5] at e4 e7 hz ⊢
    refine ew_aload_n (M := mX5_takeRowEnd) dX5_takeRowEnd_0 rfl (Or.inr (Or.inl ⟨_, rfl⟩)) ?_
    refine ew_get (M := mX5_takeRowEnd) dX5_takeRowEnd_1 fX5_24 (by repeat (first | with_reducible assumption | refine ex_eq ?_ | refine ex_ne ?_ (by omega) | exact ex_lt (by with_reducible assumption) | rw [List.length_set] | assumption)) (by rfl) ?_
    refine ew_iconst (M := mX5_takeRowEnd) dX5_takeRowEnd_4 (v := (-1)) (by decide) ?_
    refine ew_icmp_ne (M := mX5_takeRowEnd) (tgt := 15) dX5_takeRowEnd_5 rfl (fun h => absurd rfl h) (fun _ => ?_)
    refine ew_aload_n (M := mX5_takeRowEnd) dX5_takeRowEnd_8 rfl (Or.inr (Or.inl ⟨_, rfl⟩)) ?_
    refine ew_get (M := mX5_takeRowEnd) dX5_takeRowEnd_9 fX5_21 (by repeat (first | with_reducible assumption | refine ex_eq ?_ | refine ex_ne ?_ (by omega) | exact ex_lt (by with_reducible assumption) | rw [List.length_set] | assumption)) (by rfl) ?_
    refine ew_if_ne (M := mX5_takeRowEnd) (tgt := 17) dX5_takeRowEnd_12 rfl (fun _ => ?_) (fun h => absurd h (nI_n0 (by omega) (by omega)))
    refine ew_aload_n (M := mX5_takeRowEnd) dX5_takeRowEnd_17 rfl (Or.inr (Or.inl ⟨_, rfl⟩)) ?_
    refine ew_get (M := mX5_takeRowEnd) dX5_takeRowEnd_18 fX5_18 (by repeat (first | with_reducible assumption | refine ex_eq ?_ | refine ex_ne ?_ (by omega) | exact ex_lt (by with_reducible assumption) | rw [List.length_set] | assumption)) (by rfl) ?_
    refine ew_if_ne (M := mX5_takeRowEnd) (tgt := 32) dX5_takeRowEnd_21 rfl (fun h => absurd rfl h) (fun _ => ?_)
    refine ew_aload_n (M := mX5_takeRowEnd) dX5_takeRowEnd_24 rfl (Or.inr (Or.inl ⟨_, rfl⟩)) ?_
    refine ew_aload_n (M := mX5_takeRowEnd) dX5_takeRowEnd_25 rfl (Or.inr (Or.inl ⟨_, rfl⟩)) ?_
    refine ew_get (M := mX5_takeRowEnd) dX5_takeRowEnd_26 fX5_21 (by repeat (first | with_reducible assumption | refine ex_eq ?_ | refine ex_ne ?_ (by omega) | exact ex_lt (by with_reducible assumption) | rw [List.length_set] | assumption)) (by rfl) ?_
    refine ew_put (M := mX5_takeRowEnd) dX5_takeRowEnd_29 fX5_15 (by repeat (first | with_reducible assumption | refine ex_eq ?_ | refine ex_ne ?_ (by omega) | exact ex_lt (by with_reducible assumption) | rw [List.length_set] | assumption)) (by exact Nat.le_of_ble_eq_true rfl) ⟨rfl, rfl, fun _ h => by cases h⟩ ?_
    refine ew_aload_n (M := mX5_takeRowEnd) dX5_takeRowEnd_32 rfl (Or.inr (Or.inl ⟨_, rfl⟩)) ?_
    refine ew_get (M := mX5_takeRowEnd) dX5_takeRowEnd_33 fX5_21 (by repeat (first | with_reducible assumption | refine ex_eq ?_ | refine ex_ne ?_ (by omega) | exact ex_lt (by with_reducible assumption) | rw [List.length_set] | assumption)) (by rfl) ?_
    refine ew_aload_n (M := mX5_takeRowEnd) dX5_takeRowEnd_36 rfl (Or.inr (Or.inl ⟨_, rfl⟩)) ?_
    refine ew_get (M := mX5_takeRowEnd) dX5_takeRowEnd_37 fX5_15 (by repeat (first | with_reducible assumption | refine ex_eq ?_ | refine ex_ne ?_ (by omega) | exact ex_lt (by with_reducible assumption) | rw [List.length_set] | assumption)) (by rfl) ?_
    refine ew_icmp_ge (M := mX5_takeRowEnd) (tgt := 45) dX5_takeRowEnd_40 rfl (fun _ => ?_) (fun h => absurd (Int32.le_refl _) h)
    refine ew_aload_n (M := mX5_takeRowEnd) dX5_takeRowEnd_45 rfl (Or.inr (Or.inl ⟨_, rfl⟩)) ?_
    refine ew_dup (M := mX5_takeRowEnd) dX5_takeRowEnd_46 rfl ?_
    refine ew_get (M := mX5_takeRowEnd) dX5_takeRowEnd_47 fX5_18 (by repeat (first | with_reducible assumption | refine ex_eq ?_ | refine ex_ne ?_ (by omega) | exact ex_lt (by with_reducible assumption) | rw [List.length_set] | assumption)) (by rfl) ?_
    refine ew_iconst (M := mX5_takeRowEnd) dX5_takeRowEnd_50 (v := nI 1) (by decide) ?_
    refine ew_iadd (M := mX5_takeRowEnd) dX5_takeRowEnd_51 ?_
    rw [nI_add]
    refine ew_put (M := mX5_takeRowEnd) dX5_takeRowEnd_52 fX5_18 (by repeat (first | with_reducible assumption | refine ex_eq ?_ | refine ex_ne ?_ (by omega) | exact ex_lt (by with_reducible assumption) | rw [List.length_set] | assumption)) (by exact Nat.le_of_ble_eq_true rfl) ⟨rfl, rfl, fun _ h => by cases h⟩ ?_
    refine ew_aload_n (M := mX5_takeRowEnd) dX5_takeRowEnd_55 rfl (Or.inr (Or.inl ⟨_, rfl⟩)) ?_
    refine ew_iconst (M := mX5_takeRowEnd) dX5_takeRowEnd_56 (v := nI 0) (by decide) ?_
    refine ew_put (M := mX5_takeRowEnd) dX5_takeRowEnd_57 fX5_21 (by repeat (first | with_reducible assumption | refine ex_eq ?_ | refine ex_ne ?_ (by omega) | exact ex_lt (by with_reducible assumption) | rw [List.length_set] | assumption)) (by exact Nat.le_of_ble_eq_true rfl) ⟨rfl, rfl, fun _ h => by cases h⟩ ?_
    refine ew_iload_n (M := mX5_takeRowEnd) dX5_takeRowEnd_60 rfl ?_
    refine ew_if_eq (M := mX5_takeRowEnd) (tgt := 81) dX5_takeRowEnd_61 rfl (fun h => absurd h (by decide)) (fun _ => ?_)
    refine ew_aload_n (M := mX5_takeRowEnd) dX5_takeRowEnd_64 rfl (Or.inr (Or.inl ⟨_, rfl⟩)) ?_
    refine ew_get (M := mX5_takeRowEnd) dX5_takeRowEnd_65 fX5_27 (by repeat (first | with_reducible assumption | refine ex_eq ?_ | refine ex_ne ?_ (by omega) | exact ex_lt (by with_reducible assumption) | rw [List.length_set] | assumption)) (by rfl) ?_
    refine ew_aload_n (M := mX5_takeRowEnd) dX5_takeRowEnd_68 rfl (Or.inr (Or.inl ⟨_, rfl⟩)) ?_
    refine ew_get (M := mX5_takeRowEnd) dX5_takeRowEnd_69 fX5_15 (by repeat (first | with_reducible assumption | refine ex_eq ?_ | refine ex_ne ?_ (by omega) | exact ex_lt (by with_reducible assumption) | rw [List.length_set] | assumption)) (by rfl) ?_
    refine ew_aload_n (M := mX5_takeRowEnd) dX5_takeRowEnd_72 rfl (Or.inr (Or.inl ⟨_, rfl⟩)) ?_
    refine ew_get (M := mX5_takeRowEnd) dX5_takeRowEnd_73 fX5_18 (by repeat (first | with_reducible assumption | refine ex_eq ?_ | refine ex_ne ?_ (by omega) | exact ex_lt (by with_reducible assumption) | rw [List.length_set] | assumption)) (by rfl) ?_
    refine ew_callV (M := mX5_takeRowEnd) dX5_takeRowEnd_76 vX5_45 (by repeat (first | with_reducible assumption | refine ex_eq ?_ | refine ex_ne ?_ (by omega) | exact ex_lt (by with_reducible assumption) | rw [List.length_set] | assumption)) rfl (sp_setSize (p := p) (gs := gs) (ms := ms) (w0 := w0) (h0 := h0) ⟨(by repeat (first | with_reducible assumption | refine ex_eq ?_ | refine ex_ne ?_ (by omega) | exact ex_lt (by with_reducible assumption) | rw [List.length_set] | assumption)), (by repeat (first | with_reducible assumption | refine ex_eq ?_ | refine ex_ne ?_ (by omega) | exact ex_lt (by with_reducible assumption) | rw [List.length_set] | assumption)), (by repeat (first | with_reducible assumption | refine ex_eq ?_ | refine ex_ne ?_ (by omega) | exact ex_lt (by with_reducible assumption) | rw [List.length_set] | assumption))⟩ hz) rfl (Nat.le_of_ble_eq_true rfl) ⟨Nat.le_refl _, Nat.le_refl _⟩ rfl (fun H76 r76 q76 => ?_)
    obtain ⟨rfl, hc1, hp4⟩ := q76
    refine ew_iconst (M := mX5_takeRowEnd) dX5_takeRowEnd_79 (v := nI 0) (by decide) ?_
    refine ew_iret (M := mX5_takeRowEnd) dX5_takeRowEnd_80 rfl (by first | rfl | decide) (Nat.le_refl _) (Nat.le_refl _) ?_
    refine ⟨rfl, (((ex_ch.rf.set (by simp)).set (by simp)).set (by simp) : ex_ch H _ [a, p]).tr hc1 (by simp), ⟨hz, fun k hk => ?_⟩, gs, ms, hp4, fun k hk => ?_⟩
    · rw [e7] at hk; exact ⟨(hgm k hk).2.2.1, (hgm k hk).2.2.2⟩
    · rw [e7] at hk; exact ⟨(hgm k hk).1, (hgm k hk).2.1⟩
  · have e5 : rd_W r c wd = wd := if_neg hr
    have e6 : rdW r wd = wd := if_neg hr
    rw [e5] at e3 e4 e7 hz ⊢
    rw [e6] at ha h2 h3
    subst e3
    refine ew_aload_n (M := mX5_takeRowEnd) dX5_takeRowEnd_0 rfl (Or.inr (Or.inl ⟨_, rfl⟩)) ?_
    refine ew_get (M := mX5_takeRowEnd) dX5_takeRowEnd_1 fX5_24 (by repeat (first | with_reducible assumption | refine ex_eq ?_ | refine ex_ne ?_ (by omega) | exact ex_lt (by with_reducible assumption) | rw [List.length_set] | assumption)) (by rfl) ?_
    refine ew_iconst (M := mX5_takeRowEnd) dX5_takeRowEnd_4 (v := (-1)) (by decide) ?_
    refine ew_icmp_ne (M := mX5_takeRowEnd) (tgt := 15) dX5_takeRowEnd_5 rfl (fun h => absurd rfl h) (fun _ => ?_)
    refine ew_aload_n (M := mX5_takeRowEnd) dX5_takeRowEnd_8 rfl (Or.inr (Or.inl ⟨_, rfl⟩)) ?_
    refine ew_get (M := mX5_takeRowEnd) dX5_takeRowEnd_9 fX5_21 (by repeat (first | with_reducible assumption | refine ex_eq ?_ | refine ex_ne ?_ (by omega) | exact ex_lt (by with_reducible assumption) | rw [List.length_set] | assumption)) (by rfl) ?_
    refine ew_if_ne (M := mX5_takeRowEnd) (tgt := 17) dX5_takeRowEnd_12 rfl (fun _ => ?_) (fun h => absurd h (nI_n0 (by omega) (by omega)))
    refine ew_aload_n (M := mX5_takeRowEnd) dX5_takeRowEnd_17 rfl (Or.inr (Or.inl ⟨_, rfl⟩)) ?_
    refine ew_get (M := mX5_takeRowEnd) dX5_takeRowEnd_18 fX5_18 (by repeat (first | with_reducible assumption | refine ex_eq ?_ | refine ex_ne ?_ (by omega) | exact ex_lt (by with_reducible assumption) | rw [List.length_set] | assumption)) (by rfl) ?_
    refine ew_if_ne (M := mX5_takeRowEnd) (tgt := 32) dX5_takeRowEnd_21 rfl (fun _ => ?_) (fun h => absurd h (nI_n0 (by omega) (by omega)))
    refine ew_aload_n (M := mX5_takeRowEnd) dX5_takeRowEnd_32 rfl (Or.inr (Or.inl ⟨_, rfl⟩)) ?_
    refine ew_get (M := mX5_takeRowEnd) dX5_takeRowEnd_33 fX5_21 (by repeat (first | with_reducible assumption | refine ex_eq ?_ | refine ex_ne ?_ (by omega) | exact ex_lt (by with_reducible assumption) | rw [List.length_set] | assumption)) (by rfl) ?_
    refine ew_aload_n (M := mX5_takeRowEnd) dX5_takeRowEnd_36 rfl (Or.inr (Or.inl ⟨_, rfl⟩)) ?_
    refine ew_get (M := mX5_takeRowEnd) dX5_takeRowEnd_37 fX5_15 (by repeat (first | with_reducible assumption | refine ex_eq ?_ | refine ex_ne ?_ (by omega) | exact ex_lt (by with_reducible assumption) | rw [List.length_set] | assumption)) (by rfl) ?_
    refine ew_icmp_ge (M := mX5_takeRowEnd) (tgt := 45) dX5_takeRowEnd_40 rfl (fun _ => ?_) (fun h => absurd (Int32.le_refl _) h)
    refine ew_aload_n (M := mX5_takeRowEnd) dX5_takeRowEnd_45 rfl (Or.inr (Or.inl ⟨_, rfl⟩)) ?_
    refine ew_dup (M := mX5_takeRowEnd) dX5_takeRowEnd_46 rfl ?_
    refine ew_get (M := mX5_takeRowEnd) dX5_takeRowEnd_47 fX5_18 (by repeat (first | with_reducible assumption | refine ex_eq ?_ | refine ex_ne ?_ (by omega) | exact ex_lt (by with_reducible assumption) | rw [List.length_set] | assumption)) (by rfl) ?_
    refine ew_iconst (M := mX5_takeRowEnd) dX5_takeRowEnd_50 (v := nI 1) (by decide) ?_
    refine ew_iadd (M := mX5_takeRowEnd) dX5_takeRowEnd_51 ?_
    rw [nI_add]
    refine ew_put (M := mX5_takeRowEnd) dX5_takeRowEnd_52 fX5_18 (by repeat (first | with_reducible assumption | refine ex_eq ?_ | refine ex_ne ?_ (by omega) | exact ex_lt (by with_reducible assumption) | rw [List.length_set] | assumption)) (by exact Nat.le_of_ble_eq_true rfl) ⟨rfl, rfl, fun _ h => by cases h⟩ ?_
    refine ew_aload_n (M := mX5_takeRowEnd) dX5_takeRowEnd_55 rfl (Or.inr (Or.inl ⟨_, rfl⟩)) ?_
    refine ew_iconst (M := mX5_takeRowEnd) dX5_takeRowEnd_56 (v := nI 0) (by decide) ?_
    refine ew_put (M := mX5_takeRowEnd) dX5_takeRowEnd_57 fX5_21 (by repeat (first | with_reducible assumption | refine ex_eq ?_ | refine ex_ne ?_ (by omega) | exact ex_lt (by with_reducible assumption) | rw [List.length_set] | assumption)) (by exact Nat.le_of_ble_eq_true rfl) ⟨rfl, rfl, fun _ h => by cases h⟩ ?_
    refine ew_iload_n (M := mX5_takeRowEnd) dX5_takeRowEnd_60 rfl ?_
    refine ew_if_eq (M := mX5_takeRowEnd) (tgt := 81) dX5_takeRowEnd_61 rfl (fun h => absurd h (by decide)) (fun _ => ?_)
    refine ew_aload_n (M := mX5_takeRowEnd) dX5_takeRowEnd_64 rfl (Or.inr (Or.inl ⟨_, rfl⟩)) ?_
    refine ew_get (M := mX5_takeRowEnd) dX5_takeRowEnd_65 fX5_27 (by repeat (first | with_reducible assumption | refine ex_eq ?_ | refine ex_ne ?_ (by omega) | exact ex_lt (by with_reducible assumption) | rw [List.length_set] | assumption)) (by rfl) ?_
    refine ew_aload_n (M := mX5_takeRowEnd) dX5_takeRowEnd_68 rfl (Or.inr (Or.inl ⟨_, rfl⟩)) ?_
    refine ew_get (M := mX5_takeRowEnd) dX5_takeRowEnd_69 fX5_15 (by repeat (first | with_reducible assumption | refine ex_eq ?_ | refine ex_ne ?_ (by omega) | exact ex_lt (by with_reducible assumption) | rw [List.length_set] | assumption)) (by rfl) ?_
    refine ew_aload_n (M := mX5_takeRowEnd) dX5_takeRowEnd_72 rfl (Or.inr (Or.inl ⟨_, rfl⟩)) ?_
    refine ew_get (M := mX5_takeRowEnd) dX5_takeRowEnd_73 fX5_18 (by repeat (first | with_reducible assumption | refine ex_eq ?_ | refine ex_ne ?_ (by omega) | exact ex_lt (by with_reducible assumption) | rw [List.length_set] | assumption)) (by rfl) ?_
    refine ew_callV (M := mX5_takeRowEnd) dX5_takeRowEnd_76 vX5_45 (by repeat (first | with_reducible assumption | refine ex_eq ?_ | refine ex_ne ?_ (by omega) | exact ex_lt (by with_reducible assumption) | rw [List.length_set] | assumption)) rfl (sp_setSize (p := p) (gs := gs) (ms := ms) (w0 := w0) (h0 := h0) ⟨(by repeat (first | with_reducible assumption | refine ex_eq ?_ | refine ex_ne ?_ (by omega) | exact ex_lt (by with_reducible assumption) | rw [List.length_set] | assumption)), (by repeat (first | with_reducible assumption | refine ex_eq ?_ | refine ex_ne ?_ (by omega) | exact ex_lt (by with_reducible assumption) | rw [List.length_set] | assumption)), (by repeat (first | with_reducible assumption | refine ex_eq ?_ | refine ex_ne ?_ (by omega) | exact ex_lt (by with_reducible assumption) | rw [List.length_set] | assumption))⟩ hz) rfl (Nat.le_of_ble_eq_true rfl) ⟨Nat.le_refl _, Nat.le_refl _⟩ rfl (fun H76 r76 q76 => ?_)
    obtain ⟨rfl, hc1, hp4⟩ := q76
    refine ew_iconst (M := mX5_takeRowEnd) dX5_takeRowEnd_79 (v := nI 0) (by decide) ?_
    refine ew_iret (M := mX5_takeRowEnd) dX5_takeRowEnd_80 rfl (by first | rfl | decide) (Nat.le_refl _) (Nat.le_refl _) ?_
    refine ⟨rfl, ((ex_ch.rf.set (by simp)).set (by simp) : ex_ch H _ [a, p]).tr hc1 (by simp), ⟨hz, fun k hk => ?_⟩, gs, ms, hp4, fun k hk => ?_⟩
    · rw [e7] at hk; exact ⟨(hgm k hk).2.2.1, (hgm k hk).2.2.2⟩
    · rw [e7] at hk; exact ⟨(hgm k hk).1, (hgm k hk).2.1⟩
