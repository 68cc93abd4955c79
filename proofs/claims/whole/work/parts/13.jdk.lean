theorem ex_methF {N : ex_M} {d mc ms : Nat} {H : ex_H} {As : List Value} {post : ex_H → Option Value → Prop} (ls : List (Nat × Value)) (hls : lv_args 0 As = ls) (hy : plainFor N.1 = true) (hsp : N.2.2.2.2 = none)
    (hL : ∀ b : ex_B, (lg_sl (As.map (ex_v b))).length ≤ N.2.2.1) (k : ex_W N d mc ms post H 0 ls [] 0 0) : ex_Met N d mc ms H As post := by
  intro l D dA b
  refine MetFree.of_bodySF (code := N.2.1) (maxLocals := N.2.2.1) (ret := N.2.2.2.1) hy ?_ ?_
  · intro args s m h hn
    obtain ⟨meth, c, h1, h2, h3, h4, h5, h6, -, -⟩ := Cond.code_spec hn (atoms_spec (ws := .code N.1 N.2.1 N.2.2.1 N.2.2.2.1 :: ex_g) h _ List.mem_cons_self)
    exact ⟨meth, c, h1, h2, h3, h4, h5, h6⟩
  · intro p e s m args below meth c s₁ B hml hv _
    obtain ⟨rfl, hP, hK⟩ := hv
    have hh0 : s₁.heap = s.heap := by rw [B.state]; rfl
    have hts := atoms_spec (ws := .code N.1 N.2.1 N.2.2.1 N.2.2.2.1 :: ex_g) B.pre
    have hl := lv_entry (As.map (ex_v b)) (n := N.2.2.1) (hL b)
    have hw := k p l e s m _ below meth c D dA b ⟨B.exec, B.bytes, B.returns, B.notSynchronized, hml, findClass_of_methodNamed B.named, (name_of_methodNamed B.named B.method).1, fun w hw => hts w (List.mem_cons_of_mem _ hw), hK, fun L xs h => by rw [hsp] at h; cases h⟩ s.heap [] _ hP va_S.rf (by
      refine ⟨hl.1, hl.2.1, fun i v hi => ?_⟩
      have hm := ex_lookup_mem _ _ _ hi
      rw [← hls] at hm
      exact hl.2.2 (i, ex_v b v) (by rw [ex_lv_args]; exact List.mem_map.mpr ⟨(i, v), hm, rfl⟩))
    rw [List.map_nil, ← lg_entry_eq] at hw
    obtain ⟨t, a1, o, b1, b2, b3⟩ := hw s₁ hh0 (Stand.of_body B)
    exact ⟨t, o, a1, b1, b2, ⟨b3.1, b3.2⟩⟩
/-- what is left over of a less c by n (c is at most 4 and n at least 1) -/
def fm (a c n : Nat) : Nat := (a + 4 * n - c) % n
def fm_r (a c n : Nat) : Int32 := (nI a - nI c) - (nI a - nI c) / nI n * nI n
set_option maxRecDepth 100000 in
theorem fm_ok0 : ∀ a < 18, ∀ c < 5, ∀ n < 21, 0 < n → (if 0 ≤ (nI a - nI c) ^^^ nI n then fm_r a c n = nI (fm a c n) else if fm_r a c n = 0 then fm_r a c n = nI (fm a c n) else fm_r a c n + nI n = nI (fm a c n)) := by decide +kernel
theorem fm_ok (a : Nat) (ha : a < 18) (c : Nat) (hc : c < 5) (n : Nat) (hn : n < 21) (h0 : 0 < n) : (0 ≤ (nI a - nI c) ^^^ nI n → fm_r a c n = nI (fm a c n)) ∧ (¬ 0 ≤ (nI a - nI c) ^^^ nI n → fm_r a c n = 0 → fm_r a c n = nI (fm a c n)) ∧ (¬ 0 ≤ (nI a - nI c) ^^^ nI n → ¬ fm_r a c n = 0 → fm_r a c n + nI n = nI (fm a c n)) := by
  have h := fm_ok0 a ha c hc n hn h0
  refine ⟨fun h1 => ?_, fun h1 h2 => ?_, fun h1 h2 => ?_⟩
  · rw [if_pos h1] at h; exact h
  · rw [if_neg h1, if_pos h2] at h; exact h
  · rw [if_neg h1, if_neg h2] at h; exact h
set_option maxRecDepth 100000 in
theorem fm_ok2 : ∀ a < 18, ∀ c < 5, ∀ n < 21, 0 < n → (fm_r a c n + nI n) - (fm_r a c n + nI n) / nI n * nI n = nI (fm a c n) := by decide +kernel
theorem nI_n0 {n : Nat} (h0 : 0 < n) (h : n < 2 ^ 31) : ¬ nI n = 0 := fun e => by rw [nI_z h] at e; omega
theorem sp_floorMod {d : Nat} {H : ex_H} {a c n : Nat} (ha : a < 18) (hc : c < 5) (hn : n < 21) (h0 : 0 < n) : ex_Met mJ9_floorMod_7cf53 d 0 0 H [.int (nI a - nI c), .int (nI n)] (ex_r H (.int (nI (fm a c n)))) := by
  obtain ⟨f1, f2, f3⟩ := fm_ok a ha c hc n hn h0
  refine ex_methF [(0, .int (nI a - nI c)), (1, .int (nI n))] rfl (by decide +kernel) rfl (fun b => Nat.le_of_ble_eq_true rfl) ?_
  refine ew_iload_n (M := mJ9_floorMod_7cf53) dJ9_floorMod_7cf53_0 rfl ?_
  refine ew_iload_n (M := mJ9_floorMod_7cf53) dJ9_floorMod_7cf53_1 rfl ?_
  refine ew_irem (M := mJ9_floorMod_7cf53) dJ9_floorMod_7cf53_2 (nI_n0 h0 (by omega)) ?_
  refine ew_istore_n (M := mJ9_floorMod_7cf53) dJ9_floorMod_7cf53_3 (by decide) rfl ?_
  refine ew_iload_n (M := mJ9_floorMod_7cf53) dJ9_floorMod_7cf53_4 rfl ?_
  refine ew_iload_n (M := mJ9_floorMod_7cf53) dJ9_floorMod_7cf53_5 rfl ?_
  refine ew_ixor (M := mJ9_floorMod_7cf53) dJ9_floorMod_7cf53_6 ?_
  refine ew_if_ge (M := mJ9_floorMod_7cf53) (tgt := 18) dJ9_floorMod_7cf53_7 rfl (fun c7 => ?_) (fun c7 => ?_)
  · refine ew_iload_n (M := mJ9_floorMod_7cf53) dJ9_floorMod_7cf53_18 rfl ?_
    refine ew_iret (M := mJ9_floorMod_7cf53) dJ9_floorMod_7cf53_19 rfl (by first | rfl | decide) (Nat.le_refl _) (Nat.le_refl _) ?_
    first | exact ⟨rfl, by rw [← f2 c7 c11]; rfl⟩ | exact ⟨rfl, by rw [← f1 c7]; rfl⟩
  · refine ew_iload_n (M := mJ9_floorMod_7cf53) dJ9_floorMod_7cf53_10 rfl ?_
    refine ew_if_eq (M := mJ9_floorMod_7cf53) (tgt := 18) dJ9_floorMod_7cf53_11 rfl (fun c11 => ?_) (fun c11 => ?_)
    · refine ew_iload_n (M := mJ9_floorMod_7cf53) dJ9_floorMod_7cf53_18 rfl ?_
      refine ew_iret (M := mJ9_floorMod_7cf53) dJ9_floorMod_7cf53_19 rfl (by first | rfl | decide) (Nat.le_refl _) (Nat.le_refl _) ?_
      first | exact ⟨rfl, by rw [← f2 c7 c11]; rfl⟩ | exact ⟨rfl, by rw [← f1 c7]; rfl⟩
    · refine ew_iload_n (M := mJ9_floorMod_7cf53) dJ9_floorMod_7cf53_14 rfl ?_
      refine ew_iload_n (M := mJ9_floorMod_7cf53) dJ9_floorMod_7cf53_15 rfl ?_
      refine ew_iadd (M := mJ9_floorMod_7cf53) dJ9_floorMod_7cf53_16 ?_
      refine ew_iret (M := mJ9_floorMod_7cf53) dJ9_floorMod_7cf53_17 rfl (by first | rfl | decide) (Nat.le_refl _) (Nat.le_refl _) ?_
      exact ⟨rfl, by rw [← f3 c7 c11]; rfl⟩
theorem sp_min {d : Nat} {H : ex_H} {a b : Nat} (ha : a < 2 ^ 31) (hb : b < 2 ^ 31) : ex_Met mJ9_min_7cf53 d 0 0 H [.int (nI a), .int (nI b)] (ex_r H (.int (nI (min a b)))) := by
  refine ex_methF [(0, .int (nI a)), (1, .int (nI b))] rfl (by decide +kernel) rfl (fun b => Nat.le_of_ble_eq_true rfl) ?_
  refine ew_iload_n (M := mJ9_min_7cf53) dJ9_min_7cf53_0 rfl ?_
  refine ew_iload_n (M := mJ9_min_7cf53) dJ9_min_7cf53_1 rfl ?_
  refine ew_icmp_gt (M := mJ9_min_7cf53) (tgt := 9) dJ9_min_7cf53_2 rfl (fun c2 => ?_) (fun c2 => ?_)
  · rw [nI_ltI hb ha] at c2
    refine ew_iload_n (M := mJ9_min_7cf53) dJ9_min_7cf53_9 rfl ?_
    refine ew_iret (M := mJ9_min_7cf53) dJ9_min_7cf53_10 rfl (by first | rfl | decide) (Nat.le_refl _) (Nat.le_refl _) ?_
    exact ⟨rfl, by first | (rw [Nat.min_eq_right (by omega)]; done) | rw [Nat.min_eq_left (by omega)]⟩
  · rw [nI_ltI hb ha] at c2
    refine ew_iload_n (M := mJ9_min_7cf53) dJ9_min_7cf53_5 rfl ?_
    refine ew_goto (M := mJ9_min_7cf53) (tgt := 10) dJ9_min_7cf53_6 rfl ?_
    refine ew_iret (M := mJ9_min_7cf53) dJ9_min_7cf53_10 rfl (by first | rfl | decide) (Nat.le_refl _) (Nat.le_refl _) ?_
    exact ⟨rfl, by first | (rw [Nat.min_eq_right (by omega)]; done) | rw [Nat.min_eq_left (by omega)]⟩
def absI (x : Int32) : Int32 := if 0 ≤ x then x else -x
theorem sp_abs {d : Nat} {H : ex_H} {x : Int32} : ex_Met mJ9_abs_0f7a4 d 0 0 H [.int x] (ex_r H (.int (absI x))) := by
  refine ex_methF [(0, .int x)] rfl (by decide +kernel) rfl (fun b => Nat.le_of_ble_eq_true rfl) ?_
  refine ew_iload_n (M := mJ9_abs_0f7a4) dJ9_abs_0f7a4_0 rfl ?_
  refine ew_if_ge (M := mJ9_abs_0f7a4) (tgt := 9) dJ9_abs_0f7a4_1 rfl (fun c1 => ?_) (fun c1 => ?_)
  · refine ew_iload_n (M := mJ9_abs_0f7a4) dJ9_abs_0f7a4_9 rfl ?_
    refine ew_iret (M := mJ9_abs_0f7a4) dJ9_abs_0f7a4_10 rfl (by first | rfl | decide) (Nat.le_refl _) (Nat.le_refl _) ?_
    exact ⟨rfl, by first | (rw [absI, if_pos c1]; done) | rw [absI, if_neg c1]⟩
  · refine ew_iload_n (M := mJ9_abs_0f7a4) dJ9_abs_0f7a4_4 rfl ?_
    refine ew_ineg (M := mJ9_abs_0f7a4) dJ9_abs_0f7a4_5 ?_
    refine ew_goto (M := mJ9_abs_0f7a4) (tgt := 10) dJ9_abs_0f7a4_6 rfl ?_
    refine ew_iret (M := mJ9_abs_0f7a4) dJ9_abs_0f7a4_10 rfl (by first | rfl | decide) (Nat.le_refl _) (Nat.le_refl _) ?_
    exact ⟨rfl, by first | (rw [absI, if_pos c1]; done) | rw [absI, if_neg c1]⟩
theorem sp_fill {d : Nat} {H : ex_H} {a n : Nat} {f : Nat → Int32} {v : Int32} (hH : H[a]? = some (ar .int n f)) (hn : n < 2 ^ 31) : ex_Met mJ7_fill_53178 d 0 0 H [.ref a, .int v] (fun H' r => r = none ∧ ∃ f', H.set a (ar .int n f') = H' ∧ ∀ k, k < n → f' k = v) := by
  refine ex_meth [(0, .ref a), (1, .int v)] rfl rfl rfl (fun b => Nat.le_of_ble_eq_true rfl) ?_
  refine ew_iconst (M := mJ7_fill_53178) dJ7_fill_53178_0 (v := nI 0) (by decide) ?_
  refine ew_istore_n (M := mJ7_fill_53178) dJ7_fill_53178_1 (by decide) rfl ?_
  refine ew_aload_n (M := mJ7_fill_53178) dJ7_fill_53178_2 rfl (Or.inr (Or.inl ⟨_, rfl⟩)) ?_
  refine ew_alen (M := mJ7_fill_53178) (t0 := 0) dJ7_fill_53178_3 (by repeat (first | with_reducible assumption | refine ex_eq ?_ | refine ex_ne ?_ (by omega) | exact ex_lt (by with_reducible assumption) | rw [List.length_set] | assumption)) (fun _ => rfl) ?_
  refine ew_istore_n (M := mJ7_fill_53178) dJ7_fill_53178_4 (by decide) rfl ?_
  refine ew_ls [(0, .ref a), (1, .int v), (2, .int (nI 0)), (3, .int (nI n))] ⟨rfl, rfl, rfl, rfl, trivial⟩ ?_
  have key : ∀ f0 : Nat → Int32, (∀ k, k < 0 → f0 k = v) → ex_W mJ7_fill_53178 d 0 0 (fun H' r => r = none ∧ ∃ f', H.set a (ar .int n f') = H' ∧ ∀ k, k < n → f' k = v) (H.set a (ar .int n f0)) 5 [(0, .ref a), (1, .int v), (2, .int (nI 0)), (3, .int (nI n))] [] 0 0 := by
    refine nat_down (P := fun i => ∀ f0 : Nat → Int32, (∀ k, k < i → f0 k = v) → ex_W mJ7_fill_53178 d 0 0 (fun H' r => r = none ∧ ∃ f', H.set a (ar .int n f') = H' ∧ ∀ k, k < n → f' k = v) (H.set a (ar .int n f0)) 5 [(0, .ref a), (1, .int v), (2, .int (nI i)), (3, .int (nI n))] [] 0 0) n (fun i hi k => ?_) ?_
    · intro f0 hf0
      refine ew_iload_n (M := mJ7_fill_53178) dJ7_fill_53178_5 rfl ?_
      refine ew_iload_n (M := mJ7_fill_53178) dJ7_fill_53178_6 rfl ?_
      refine ew_icmp_ge (M := mJ7_fill_53178) (tgt := 20) dJ7_fill_53178_7 rfl (fun h => absurd h (nI_ge hi hn)) (fun _ => ?_)
      refine ew_aload_n (M := mJ7_fill_53178) dJ7_fill_53178_10 rfl (Or.inr (Or.inl ⟨_, rfl⟩)) ?_
      refine ew_iload_n (M := mJ7_fill_53178) dJ7_fill_53178_11 rfl ?_
      refine ew_iload_n (M := mJ7_fill_53178) dJ7_fill_53178_12 rfl ?_
      refine ew_iast (M := mJ7_fill_53178) i dJ7_fill_53178_13 (by repeat (first | with_reducible assumption | refine ex_eq ?_ | refine ex_ne ?_ (by omega) | exact ex_lt (by with_reducible assumption) | rw [List.length_set] | assumption)) ⟨rfl, hi, hn⟩ ?_
      refine ew_iinc (M := mJ7_fill_53178) dJ7_fill_53178_14 rfl (ex_inc i) (by decide) rfl ?_
      refine ew_goto (M := mJ7_fill_53178) (tgt := 5) dJ7_fill_53178_17 rfl ?_
      rw [List.set_set]
      refine ew_ls _ ?_ (k (upd f0 i v) (fun j hj => ?_))
      · exact ⟨rfl, rfl, rfl, rfl, trivial⟩
      · by_cases e : j = i
        · subst e; simp [upd]
        · simp only [upd, if_neg e]; exact hf0 j (by omega)
    · intro f0 hf0
      refine ew_iload_n (M := mJ7_fill_53178) dJ7_fill_53178_5 rfl ?_
      refine ew_iload_n (M := mJ7_fill_53178) dJ7_fill_53178_6 rfl ?_
      refine ew_icmp_ge (M := mJ7_fill_53178) (tgt := 20) dJ7_fill_53178_7 rfl (fun _ => ?_) (fun h => absurd (nI_le (Nat.le_refl _) hn) h)
      refine ew_vret (M := mJ7_fill_53178) dJ7_fill_53178_20 rfl (Nat.le_refl _) (Nat.le_refl _) ?_
      exact ⟨rfl, f0, rfl, hf0⟩
  have h0 := key f (fun k hk => absurd hk (Nat.not_lt_zero k))
  have e0 : H.set a (ar .int n f) = H := by
    have hl := ex_lt hH
    have := (List.getElem?_eq_some_iff.mp hH).2
    rw [← this]
    exact List.set_getElem_self hl
  rw [e0] at h0
  exact h0
