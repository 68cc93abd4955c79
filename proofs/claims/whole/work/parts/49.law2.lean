theorem lw_exit {L t : Nat} (hL : L ≤ 3072) : (t < L / 6 → ¬ nI L - nI 6 < nI (6 * t)) ∧ (t = L / 6 → nI L - nI 6 < nI (6 * t)) := by
  by_cases h : 6 ≤ L
  · rw [nI_sb h]
    exact ⟨fun ht => nI_nlt (by omega) (by omega), fun ht => nI_lt (by omega) (by omega)⟩
  · refine ⟨fun ht => by omega, fun ht => ?_⟩
    have e : t = 0 := by omega
    subst e
    have : ∀ L < 6, nI L - nI 6 < nI (6 * 0) := by decide +kernel
    exact this L (by omega)
theorem lw_loop {nm : String} {L : Nat} {xs : Nat → Int32} {post : ex_H → Option Value → Prop} (hL : L ≤ 3072) (hp : ∀ H, post H (some (.int (nI 1)))) {H : ex_H} {S : SS} (hc : cl_is H S) (hm : mo_is H S) (hl : 98 ≤ H.length) : ex_W (mL_law nm L xs) 10 600000 7302250 post H 18 [(0, .retAddr 0), (1, .ref 0), (2, .ref 86), (3, .int (nI (6 * 0)))] [] (98 + 0) (6131 + 6 * 0) := by
  refine nat_down (P := fun t => ∀ (H : ex_H) (S : SS), cl_is H S → mo_is H S → 98 ≤ H.length → ex_W (mL_law nm L xs) 10 600000 7302250 post H 18 [(0, .retAddr 0), (1, .ref 0), (2, .ref 86), (3, .int (nI (6 * t)))] [] (98 + t) (6131 + 6 * t)) (L / 6) (fun t ht ko => ?_) ?_ H S hc hm hl
  · intro H S hc hm hl
    have ht6 : 6 * t + 6 ≤ L := by omega
    have kk : ∀ (H' : ex_H) (S' : SS), cl_is H' S' → mo_is H' S' → 98 ≤ H'.length → ex_W (mL_law nm L xs) 10 600000 7302250 post H' 936 [(0, .retAddr 0), (1, .ref 0), (2, .ref 86), (3, .int (nI (6 * t)))] [] (99 + t) (6137 + 6 * t) := by
      intro H' S' hc' hm' hl'
      refine ew_iinc (M := mL_law nm L xs) dL_law_936 rfl (show nI (6 * t) + Int32.ofInt 6 = nI (6 * (t + 1)) from nI_add (6 * t) 6) (show 3 < 4 by decide) rfl ?_
      refine ew_goto (M := mL_law nm L xs) (tgt := 18) dL_law_939 rfl ?_
      refine ew_cs (M := mL_law nm L xs) (cells' := 98 + (t + 1)) (slots' := 6131 + 6 * (t + 1)) (by omega) (by omega) ?_
      refine ew_ls _ ?_ (ko H' S' hc' hm' hl')
      exact ⟨rfl, rfl, rfl, rfl, trivial⟩
    obtain ⟨j, hj, ej⟩ := pk_andE (xs (6 * t)) (m := nI 31) 5 (by decide)
    refine ew_iload_n (M := mL_law nm L xs) dL_law_18 rfl ?_
    refine ew_aload_n (M := mL_law nm L xs) dL_law_19 rfl (Or.inr (Or.inr ⟨_, rfl⟩)) ?_
    refine ew_slen (M := mL_law nm L xs) dL_law_20 rfl ?_
    refine ew_bipush (M := mL_law nm L xs) dL_law_21 (v := nI 6) (by decide) ?_
    refine ew_isub (M := mL_law nm L xs) dL_law_23 ?_
    refine ew_icmp_gt (M := mL_law nm L xs) (tgt := 942) dL_law_24 rfl (fun h => absurd h ((lw_exit hL).1 ht)) (fun _ => ?_)
    refine ew_aload_n (M := mL_law nm L xs) dL_law_27 rfl (Or.inr (Or.inr ⟨_, rfl⟩)) ?_
    refine ew_iload_n (M := mL_law nm L xs) dL_law_28 rfl ?_
    refine ew_sld (M := mL_law nm L xs) (6 * t) dL_law_29 rfl ⟨rfl, by omega, by omega⟩ ?_
    refine ew_bipush (M := mL_law nm L xs) dL_law_30 (v := nI 31) (by decide) ?_
    refine ew_iand (M := mL_law nm L xs) dL_law_32 ?_
    rw [ej]
    change j < 32 at hj
    rcases (show j = 0 ∨ j = 1 ∨ j = 2 ∨ j = 3 ∨ j = 4 ∨ j = 5 ∨ j = 6 ∨ j = 7 ∨ j = 8 ∨ j = 9 ∨ j = 10 ∨ j = 11 ∨ j = 12 ∨ j = 13 ∨ j = 14 ∨ j = 15 ∨ j = 16 ∨ j = 17 ∨ j = 18 ∨ j = 19 ∨ j = 20 ∨ j = 21 ∨ j = 22 ∨ j = 23 ∨ j = 24 ∨ j = 25 ∨ j = 26 ∨ j = 27 ∨ j = 28 ∨ j = 29 ∨ j = 30 ∨ j = 31 by omega) with rfl | rfl | rfl | rfl | rfl | rfl | rfl | rfl | rfl | rfl | rfl | rfl | rfl | rfl | rfl | rfl | rfl | rfl | rfl | rfl | rfl | rfl | rfl | rfl | rfl | rfl | rfl | rfl | rfl | rfl | rfl | rfl
    · refine ew_tableIn (M := mL_law nm L xs) (tgt := 152) (off := 119) dL_law_33 (by decide) (by decide) (by decide) rfl ?_
      exact lw_feed ht6 hL hc hm hl kk
    · refine ew_tableIn (M := mL_law nm L xs) (tgt := 175) (off := 142) dL_law_33 (by decide) (by decide) (by decide) rfl ?_
      exact lw_picture ht6 hL hc hm hl kk
    · refine ew_tableIn (M := mL_law nm L xs) (tgt := 188) (off := 155) dL_law_33 (by decide) (by decide) (by decide) rfl ?_
      exact lw_fault ht6 hL hc hm hl kk
    · refine ew_tableIn (M := mL_law nm L xs) (tgt := 201) (off := 168) dL_law_33 (by decide) (by decide) (by decide) rfl ?_
      exact lw_told ht6 hL hc hm hl kk
    · refine ew_tableIn (M := mL_law nm L xs) (tgt := 224) (off := 191) dL_law_33 (by decide) (by decide) (by decide) rfl ?_
      exact lw_at ht6 hL hc hm hl kk
    · refine ew_tableIn (M := mL_law nm L xs) (tgt := 267) (off := 234) dL_law_33 (by decide) (by decide) (by decide) rfl ?_
      exact lw_tally ht6 hL hc hm hl kk
    · refine ew_tableIn (M := mL_law nm L xs) (tgt := 330) (off := 297) dL_law_33 (by decide) (by decide) (by decide) rfl ?_
      exact lw_filter ht6 hL hc hm hl kk
    · refine ew_tableIn (M := mL_law nm L xs) (tgt := 393) (off := 360) dL_law_33 (by decide) (by decide) (by decide) rfl ?_
      exact lw_drop ht6 hL hc hm hl kk
    · refine ew_tableIn (M := mL_law nm L xs) (tgt := 416) (off := 383) dL_law_33 (by decide) (by decide) (by decide) rfl ?_
      exact lw_fill ht6 hL hc hm hl kk
    · refine ew_tableIn (M := mL_law nm L xs) (tgt := 439) (off := 406) dL_law_33 (by decide) (by decide) (by decide) rfl ?_
      exact lw_would ht6 hL hc hm hl kk
    · refine ew_tableIn (M := mL_law nm L xs) (tgt := 492) (off := 459) dL_law_33 (by decide) (by decide) (by decide) rfl ?_
      exact lw_bins ht6 hL hc hm hl kk
    · refine ew_tableIn (M := mL_law nm L xs) (tgt := 515) (off := 482) dL_law_33 (by decide) (by decide) (by decide) rfl ?_
      exact lw_spikes ht6 hL hc hm hl kk
    · refine ew_tableIn (M := mL_law nm L xs) (tgt := 548) (off := 515) dL_law_33 (by decide) (by decide) (by decide) rfl ?_
      exact lw_dot ht6 hL hc hm hl kk
    · refine ew_tableIn (M := mL_law nm L xs) (tgt := 591) (off := 558) dL_law_33 (by decide) (by decide) (by decide) rfl ?_
      exact lw_mask ht6 hL hc hm hl kk
    · refine ew_tableIn (M := mL_law nm L xs) (tgt := 650) (off := 617) dL_law_33 (by decide) (by decide) (by decide) rfl ?_
      exact lw_turn ht6 hL hc hm hl kk
    · refine ew_tableIn (M := mL_law nm L xs) (tgt := 673) (off := 640) dL_law_33 (by decide) (by decide) (by decide) rfl ?_
      exact lw_filtered ht6 hL hc hm hl kk
    · refine ew_tableIn (M := mL_law nm L xs) (tgt := 696) (off := 663) dL_law_33 (by decide) (by decide) (by decide) rfl ?_
      exact lw_all ht6 hL hc hm hl kk
    · refine ew_tableIn (M := mL_law nm L xs) (tgt := 709) (off := 676) dL_law_33 (by decide) (by decide) (by decide) rfl ?_
      exact lw_until ht6 hL hc hm hl kk
    · refine ew_tableIn (M := mL_law nm L xs) (tgt := 742) (off := 709) dL_law_33 (by decide) (by decide) (by decide) rfl ?_
      exact lw_noise ht6 hL hc hm hl kk
    · refine ew_tableIn (M := mL_law nm L xs) (tgt := 765) (off := 732) dL_law_33 (by decide) (by decide) (by decide) rfl ?_
      exact lw_undo ht6 hL hc hm hl kk
    · refine ew_tableIn (M := mL_law nm L xs) (tgt := 788) (off := 755) dL_law_33 (by decide) (by decide) (by decide) rfl ?_
      exact lw_write ht6 hL hc hm hl kk
    · refine ew_tableIn (M := mL_law nm L xs) (tgt := 831) (off := 798) dL_law_33 (by decide) (by decide) (by decide) rfl ?_
      exact lw_tear ht6 hL hc hm hl kk
    · refine ew_tableIn (M := mL_law nm L xs) (tgt := 844) (off := 811) dL_law_33 (by decide) (by decide) (by decide) rfl ?_
      exact lw_seed ht6 hL hc hm hl kk
    · refine ew_tableIn (M := mL_law nm L xs) (tgt := 867) (off := 834) dL_law_33 (by decide) (by decide) (by decide) rfl ?_
      exact lw_keep ht6 hL hc hm hl kk
    · refine ew_tableIn (M := mL_law nm L xs) (tgt := 890) (off := 857) dL_law_33 (by decide) (by decide) (by decide) rfl ?_
      exact lw_goBack ht6 hL hc hm hl kk
    · refine ew_tableIn (M := mL_law nm L xs) (tgt := 913) (off := 880) dL_law_33 (by decide) (by decide) (by decide) rfl ?_
      exact lw_against ht6 hL hc hm hl kk
    · refine ew_tableOut (M := mL_law nm L xs) (tgt := 936) dL_law_33 (by decide) rfl ?_
      exact ew_cs (by omega) (by omega) (kk H S hc hm hl)
    · refine ew_tableOut (M := mL_law nm L xs) (tgt := 936) dL_law_33 (by decide) rfl ?_
      exact ew_cs (by omega) (by omega) (kk H S hc hm hl)
    · refine ew_tableOut (M := mL_law nm L xs) (tgt := 936) dL_law_33 (by decide) rfl ?_
      exact ew_cs (by omega) (by omega) (kk H S hc hm hl)
    · refine ew_tableOut (M := mL_law nm L xs) (tgt := 936) dL_law_33 (by decide) rfl ?_
      exact ew_cs (by omega) (by omega) (kk H S hc hm hl)
    · refine ew_tableOut (M := mL_law nm L xs) (tgt := 936) dL_law_33 (by decide) rfl ?_
      exact ew_cs (by omega) (by omega) (kk H S hc hm hl)
    · refine ew_tableOut (M := mL_law nm L xs) (tgt := 936) dL_law_33 (by decide) rfl ?_
      exact ew_cs (by omega) (by omega) (kk H S hc hm hl)
  · intro H S hc hm hl
    refine ew_iload_n (M := mL_law nm L xs) dL_law_18 rfl ?_
    refine ew_aload_n (M := mL_law nm L xs) dL_law_19 rfl (Or.inr (Or.inr ⟨_, rfl⟩)) ?_
    refine ew_slen (M := mL_law nm L xs) dL_law_20 rfl ?_
    refine ew_bipush (M := mL_law nm L xs) dL_law_21 (v := nI 6) (by decide) ?_
    refine ew_isub (M := mL_law nm L xs) dL_law_23 ?_
    refine ew_icmp_gt (M := mL_law nm L xs) (tgt := 942) dL_law_24 rfl (fun _ => ?_) (fun h => absurd ((lw_exit hL).2 rfl) h)
    refine ew_iconst (M := mL_law nm L xs) dL_law_942 (v := nI 1) (by decide) ?_
    refine ew_iret (M := mL_law nm L xs) dL_law_943 rfl (by first | rfl | decide) (by omega) (by omega) ?_
    exact hp _
theorem lw_begin {nm : String} {L : Nat} {xs : Nat → Int32} {post : ex_H → Option Value → Prop} (hL : L ≤ 3072) (hp : ∀ H, post H (some (.int (nI 1)))) : ex_W (mL_law nm L xs) 10 600000 7302250 post [] 0 [(0, .retAddr 0)] [] 0 0 := by
  refine ew_new (M := mL_law nm L xs) dL_law_0 nL_7 (by decide) (by decide) ?_
  obtain ⟨G1, e1, l1, n1, c1⟩ := ex_push (H := []) (n := 0) rfl (ob 9 [.null, .null, .null, .null, .null, .null, .null, .null, .null, .int 0])
  refine ew_heap e1 ?_
  change ex_W _ _ _ _ _ _ _ _ (.ref 0 :: _) _ _
  refine ew_dup (M := mL_law nm L xs) dL_law_3 rfl ?_
  refine ew_callI (M := mL_law nm L xs) dL_law_4 vL_9 (cs_init n1 l1) rfl (Nat.le_of_ble_eq_true rfl) ⟨by decide, by decide⟩ rfl (fun G2 r2 q2 => ?_)
  obtain ⟨rfl, c2, l2, hc⟩ := q2
  refine ew_astore_n (M := mL_law nm L xs) dL_law_7 (Or.inr ⟨_, rfl⟩) (show 1 < 4 by decide) rfl ?_
  refine ew_new (M := mL_law nm L xs) dL_law_8 nL_10 (by decide) (by decide) ?_
  obtain ⟨G3, e3, l3, n3, c3⟩ := ex_push l2 (ob 10 [.null, .int 0, .int 0, .int 0, .null, .int 0, .int 0, .null, .int 0, .null, .null, .null, .null, .null, .null, .int 0, .int 0, .int 0, .int 0, .int 0, .null, .int 0, .null])
  refine ew_heap e3 ?_
  rw [l2]
  refine ew_dup (M := mL_law nm L xs) dL_law_11 rfl ?_
  refine ew_callI (M := mL_law nm L xs) dL_law_12 vL_12 (ms_init n3 l3) rfl (Nat.le_of_ble_eq_true rfl) ⟨by decide, by decide⟩ rfl (fun G4 r4 q4 => ?_)
  obtain ⟨rfl, c4, l4, hm⟩ := q4
  have hc3 := cl_far hc c3 (by simp)
  have hc4 := cl_far hc3 c4 (by simp)
  refine ew_astore_n (M := mL_law nm L xs) dL_law_15 (Or.inr ⟨_, rfl⟩) (show 2 < 4 by decide) rfl ?_
  refine ew_iconst (M := mL_law nm L xs) dL_law_16 (v := nI 0) (by decide) ?_
  refine ew_istore_n (M := mL_law nm L xs) dL_law_17 (show 3 < 4 by decide) rfl ?_
  refine ew_cs (cells' := 98 + 0) (slots' := 6131 + 6 * 0) (by decide) (by decide) ?_
  refine ew_ls [(0, .retAddr 0), (1, .ref 0), (2, .ref 86), (3, .int (nI (6 * 0)))] ⟨rfl, rfl, rfl, rfl, trivial⟩ ?_
  exact lw_loop hL hp hc4 hm (by omega)
