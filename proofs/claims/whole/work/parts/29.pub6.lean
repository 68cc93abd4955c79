noncomputable def alP (F : Nat → FV) (fi n : Nat) (P : PT) : PT := fl (fun k P => apP P (F k) fi) n P
theorem alP_sh (F : Nat → FV) (fi n : Nat) (P : PT) : (alP F fi n P).1 = P.1 ∧ (alP F fi n P).2.1 = P.2.1 ∧ (alP F fi n P).2.2.2 = P.2.2.2 :=
  fl_inv (P := fun _ (Q : PT) => Q.1 = P.1 ∧ Q.2.1 = P.2.1 ∧ Q.2.2.2 = P.2.2.2) n P ⟨rfl, rfl, rfl⟩ (fun _ Q _ hQ => hQ)
noncomputable def f_all (S : SS) : Int32 × SS := cif (S.2.2.1.2.1.1 = 0) (-1000000003, S) (nI (pm_gother S.2.2.1.1.1 S.2.2.1.1.2.1 (alP S.2.2.1.2.1.2 S.2.2.1.2.2.1 S.2.2.1.2.1.1 S.2.2.1.1).2.2.1 S.2.2.1.1.2.2.1), deed S (alP S.2.2.1.2.1.2 S.2.2.1.2.2.1 S.2.2.1.2.1.1 S.2.2.1.1))
theorem cs_all {d : Nat} {H : ex_H} {S : SS} (hS : cl_is H S) : ex_Met mX9_all (d + 6) 0 0 H [.ref 0] (fun H' r => r = some (.int (f_all S).1) ∧ ex_ch H H' cL ∧ cl_is H' (f_all S).2) := by
  obtain ⟨a1, ⟨pl, a2⟩, a3, ⟨fa, a4, a5, a6⟩, a7, a8, ⟨fk, a9, a10⟩, a11, a12, ⟨cw, a13⟩, a14, a15⟩ := id hS
  obtain ⟨b1, b2, b3, b4, b5⟩ := id a3
  obtain ⟨⟨bz, bgm⟩, bgs, bms, ⟨bp1, bp2, bp3⟩, bct⟩ := id b4
  obtain ⟨bz1, bz2, bz3, bz4⟩ := id bz
  obtain ⟨-, -, -, old, -, a111, -⟩ := id a11
  obtain ⟨b51, b52, b53⟩ := id b5
  refine ex_meth [(0, .ref 0)] rfl rfl rfl (fun b => Nat.le_of_ble_eq_true rfl) ?_
  unfold f_all
  by_cases h0 : S.2.2.1.2.1.1 = 0
  · rw [cif_y h0]
    refine ew_aload_n (M := mX9_all) dX9_all_0 rfl (Or.inr (Or.inl ⟨_, rfl⟩)) ?_
    refine ew_get (M := mX9_all) dX9_all_1 fX9_19 (by repeat (first | with_reducible assumption | refine ex_eq ?_ | refine ex_ne ?_ (by omega) | exact ex_lt (by with_reducible assumption) | rw [List.length_set] | assumption)) (by rfl) ?_
    refine ew_get (M := mX9_all) dX9_all_4 fX9_120 (by repeat (first | with_reducible assumption | refine ex_eq ?_ | refine ex_ne ?_ (by omega) | exact ex_lt (by with_reducible assumption) | rw [List.length_set] | assumption)) (by rfl) ?_
    refine ew_get (M := mX9_all) dX9_all_7 fX9_124 (by repeat (first | with_reducible assumption | refine ex_eq ?_ | refine ex_ne ?_ (by omega) | exact ex_lt (by with_reducible assumption) | rw [List.length_set] | assumption)) (by rfl) ?_
    refine ew_if_ne (M := mX9_all) (tgt := 16) dX9_all_10 rfl (fun h => absurd (by rw [h0]; rfl) h) (fun _ => ?_)
    refine ew_ldc (M := mX9_all) dX9_all_13 kX9_210 ?_
    refine ew_iret (M := mX9_all) dX9_all_15 rfl (by first | rfl | decide) (Nat.le_refl _) (Nat.le_refl _) ?_
    exact ⟨rfl, ex_ch.rf, hS⟩
  · rw [cif_n h0]
    refine ew_aload_n (M := mX9_all) dX9_all_0 rfl (Or.inr (Or.inl ⟨_, rfl⟩)) ?_
    refine ew_get (M := mX9_all) dX9_all_1 fX9_19 (by repeat (first | with_reducible assumption | refine ex_eq ?_ | refine ex_ne ?_ (by omega) | exact ex_lt (by with_reducible assumption) | rw [List.length_set] | assumption)) (by rfl) ?_
    refine ew_get (M := mX9_all) dX9_all_4 fX9_120 (by repeat (first | with_reducible assumption | refine ex_eq ?_ | refine ex_ne ?_ (by omega) | exact ex_lt (by with_reducible assumption) | rw [List.length_set] | assumption)) (by rfl) ?_
    refine ew_get (M := mX9_all) dX9_all_7 fX9_124 (by repeat (first | with_reducible assumption | refine ex_eq ?_ | refine ex_ne ?_ (by omega) | exact ex_lt (by with_reducible assumption) | rw [List.length_set] | assumption)) (by rfl) ?_
    refine ew_if_ne (M := mX9_all) (tgt := 16) dX9_all_10 rfl (fun _ => ?_) (fun h => absurd h (nI_n0 (by omega) (by omega)))
    refine ew_aload_n (M := mX9_all) dX9_all_16 rfl (Or.inr (Or.inl ⟨_, rfl⟩)) ?_
    refine ew_get (M := mX9_all) dX9_all_17 fX9_34 (by repeat (first | with_reducible assumption | refine ex_eq ?_ | refine ex_ne ?_ (by omega) | exact ex_lt (by with_reducible assumption) | rw [List.length_set] | assumption)) (by rfl) ?_
    refine ew_aload_n (M := mX9_all) dX9_all_20 rfl (Or.inr (Or.inl ⟨_, rfl⟩)) ?_
    refine ew_get (M := mX9_all) dX9_all_21 fX9_19 (by repeat (first | with_reducible assumption | refine ex_eq ?_ | refine ex_ne ?_ (by omega) | exact ex_lt (by with_reducible assumption) | rw [List.length_set] | assumption)) (by rfl) ?_
    refine ew_get (M := mX9_all) dX9_all_24 fX9_86 (by repeat (first | with_reducible assumption | refine ex_eq ?_ | refine ex_ne ?_ (by omega) | exact ex_lt (by with_reducible assumption) | rw [List.length_set] | assumption)) (by rfl) ?_
    refine ew_callV (M := mX9_all) dX9_all_27 vX9_89 (by repeat (first | with_reducible assumption | refine ex_eq ?_ | refine ex_ne ?_ (by omega) | exact ex_lt (by with_reducible assumption) | rw [List.length_set] | assumption)) rfl (sp_remember a11 b4 (by omega)) rfl (Nat.le_of_ble_eq_true rfl) ⟨Nat.le_refl _, Nat.le_refl _⟩ rfl (fun H27 r27 q27 => ?_)
    obtain ⟨rfl, hc1, hh1⟩ := q27
    have hS1 : cl_is H27 (s_rem S) := cl_hist hS hc1 hh1
    have hq1 : ex_ch H H27 cL := hc1.sub (fun k hk => Or.inl (by rw [cL_mem]; rw [hiL_mem] at hk; omega))
    obtain ⟨e1, ⟨epl, e2⟩, e3, ⟨efa, e4, e5, e6⟩, e7, e8, ⟨efk, e9, e10⟩, e11, e12, ⟨ecw, e13⟩, e14, e15⟩ := id hS1
    obtain ⟨g1, g2, g3, g4, g5⟩ := id e3
    have g4 : pis H27 4 S.2.2.1.1 := g4
    obtain ⟨-, ggs, gms, ⟨gp1, gp2, gp3⟩, -⟩ := id g4
    obtain ⟨g51, g52, g53⟩ := id g5
    have e1 : H27[0]? = some (ob 9 [.ref 1, .ref 3, .ref 9, .ref 22, .ref 23, .ref 73, .ref 77, .ref 80, .ref 83, .int S.2.1]) := e1
    have g1 : H27[3]? = some (ob 6 [.ref 4, .ref 7, .int (nI S.2.2.1.2.2.1), .int (nI S.2.2.1.2.2.2)]) := g1
    obtain ⟨sw0, sh0, sgs, sms, esp⟩ := id e15
    obtain ⟨esp1, esp2, esp3⟩ := id esp
    refine ew_aload_n (M := mX9_all) dX9_all_30 rfl (Or.inr (Or.inl ⟨_, rfl⟩)) ?_
    refine ew_get (M := mX9_all) dX9_all_31 fX9_59 (by repeat (first | with_reducible assumption | refine ex_eq ?_ | refine ex_ne ?_ (by omega) | exact ex_lt (by with_reducible assumption) | rw [List.length_set] | assumption)) (by rfl) ?_
    refine ew_aload_n (M := mX9_all) dX9_all_34 rfl (Or.inr (Or.inl ⟨_, rfl⟩)) ?_
    refine ew_get (M := mX9_all) dX9_all_35 fX9_19 (by repeat (first | with_reducible assumption | refine ex_eq ?_ | refine ex_ne ?_ (by omega) | exact ex_lt (by with_reducible assumption) | rw [List.length_set] | assumption)) (by rfl) ?_
    refine ew_get (M := mX9_all) dX9_all_38 fX9_86 (by repeat (first | with_reducible assumption | refine ex_eq ?_ | refine ex_ne ?_ (by omega) | exact ex_lt (by with_reducible assumption) | rw [List.length_set] | assumption)) (by rfl) ?_
    refine ew_callV (M := mX9_all) dX9_all_41 vX9_93 (by repeat (first | with_reducible assumption | refine ex_eq ?_ | refine ex_ne ?_ (by omega) | exact ex_lt (by with_reducible assumption) | rw [List.length_set] | assumption)) rfl (sp_become esp g4 (by omega)) rfl (Nat.le_of_ble_eq_true rfl) ⟨Nat.le_refl _, Nat.le_refl _⟩ rfl (fun H41 r41 q41 => ?_)
    obtain ⟨rfl, hc2, hp2⟩ := q41
    refine ew_iconst (M := mX9_all) dX9_all_44 (v := nI 0) (by decide) ?_
    refine ew_istore_n (M := mX9_all) dX9_all_45 (by decide) rfl ?_
    refine ew_ls [(0, .ref 0), (1, .int (nI 0))] ⟨rfl, rfl, trivial⟩ ?_
    refine fl_down (F := fun k P => apP P (S.2.2.1.2.1.2 k) S.2.2.1.2.2.1) (P := fun i Q => ∀ H2 : ex_H, ex_ch H41 H2 [4, 5, 6, 77, 78, 79, 80, 81, 82] → (∃ c, wi_is H2 77 c) → pi_any H2 80 → pis H2 4 Q → ex_W mX9_all (d + 6) 0 0 (fun H' r => r = some (.int (nI (pm_gother S.2.2.1.1.1 S.2.2.1.1.2.1 (alP S.2.2.1.2.1.2 S.2.2.1.2.2.1 S.2.2.1.2.1.1 S.2.2.1.1).2.2.1 S.2.2.1.1.2.2.1))) ∧ ex_ch H H' cL ∧ cl_is H' (deed S (alP S.2.2.1.2.1.2 S.2.2.1.2.2.1 S.2.2.1.2.1.1 S.2.2.1.1))) H2 46 [(0, .ref 0), (1, .int (nI i))] [] 0 0) S.2.2.1.2.1.1 S.2.2.1.1 (fun i Q hi _ kk => ?_) ?_ H41 ex_ch.rf ⟨ecw, e13.ch hc2 (by simp) (by simp) (by simp)⟩ (e14.ch hc2 (by simp) (by simp) (by simp)) (g4.ch hc2 (by simp) (by simp) (by simp))
    · intro H2 hc3 hw3 hsp3 hp3
      obtain ⟨cw3, hw3⟩ := hw3
      have k1 := hc3.at (hc2.at e1 (by simp)) (by simp)
      have k2 := hc3.at (hc2.at g1 (by simp)) (by simp)
      have k5 := (g5.ch hc2 (by simp) (by simp) (by simp)).ch hc3 (by simp) (by simp) (by simp)
      obtain ⟨-, kgs, kms, ⟨kp1, kp2, kp3⟩, -⟩ := id hp3
      obtain ⟨k51, k52, k53⟩ := id k5
      refine ew_iload_n (M := mX9_all) dX9_all_46 rfl ?_
      refine ew_aload_n (M := mX9_all) dX9_all_47 rfl (Or.inr (Or.inl ⟨_, rfl⟩)) ?_
      refine ew_get (M := mX9_all) dX9_all_48 fX9_19 (by repeat (first | with_reducible assumption | refine ex_eq ?_ | refine ex_ne ?_ (by omega) | exact ex_lt (by with_reducible assumption) | rw [List.length_set] | assumption)) (by rfl) ?_
      refine ew_get (M := mX9_all) dX9_all_51 fX9_120 (by repeat (first | with_reducible assumption | refine ex_eq ?_ | refine ex_ne ?_ (by omega) | exact ex_lt (by with_reducible assumption) | rw [List.length_set] | assumption)) (by rfl) ?_
      refine ew_get (M := mX9_all) dX9_all_54 fX9_124 (by repeat (first | with_reducible assumption | refine ex_eq ?_ | refine ex_ne ?_ (by omega) | exact ex_lt (by with_reducible assumption) | rw [List.length_set] | assumption)) (by rfl) ?_
      refine ew_icmp_ge (M := mX9_all) (tgt := 88) dX9_all_57 rfl (fun h => absurd h (nI_ge hi (by omega))) (fun _ => ?_)
      refine ew_aload_n (M := mX9_all) dX9_all_60 rfl (Or.inr (Or.inl ⟨_, rfl⟩)) ?_
      refine ew_get (M := mX9_all) dX9_all_61 fX9_19 (by repeat (first | with_reducible assumption | refine ex_eq ?_ | refine ex_ne ?_ (by omega) | exact ex_lt (by with_reducible assumption) | rw [List.length_set] | assumption)) (by rfl) ?_
      refine ew_get (M := mX9_all) dX9_all_64 fX9_120 (by repeat (first | with_reducible assumption | refine ex_eq ?_ | refine ex_ne ?_ (by omega) | exact ex_lt (by with_reducible assumption) | rw [List.length_set] | assumption)) (by rfl) ?_
      refine ew_iload_n (M := mX9_all) dX9_all_67 rfl ?_
      refine ew_callV (M := mX9_all) dX9_all_68 vX9_167 (by repeat (first | with_reducible assumption | refine ex_eq ?_ | refine ex_ne ?_ (by omega) | exact ex_lt (by with_reducible assumption) | rw [List.length_set] | assumption)) rfl (sp_numbered k5 hi) rfl (Nat.le_of_ble_eq_true rfl) ⟨Nat.le_refl _, Nat.le_refl _⟩ rfl (fun H68 r68 q68 => ?_)
      obtain ⟨a, rfl, rfl, ha98, hav⟩ := q68
      obtain ⟨v1, v2, v3, v4, v5, v6, v7⟩ := id hav
      refine ew_astore_n (M := mX9_all) dX9_all_71 (Or.inr ⟨_, rfl⟩) (by decide) rfl ?_
      refine ew_aload_n (M := mX9_all) dX9_all_72 rfl (Or.inr (Or.inl ⟨_, rfl⟩)) ?_
      refine ew_ifnull (v := some a) (M := mX9_all) (tgt := 82) dX9_all_73 rfl (fun h => by cases h) (fun _ _ => ?_)
      refine ew_aload_n (M := mX9_all) dX9_all_76 rfl (Or.inr (Or.inl ⟨_, rfl⟩)) ?_
      refine ew_aload_n (M := mX9_all) dX9_all_77 rfl (Or.inr (Or.inl ⟨_, rfl⟩)) ?_
      refine ew_callV (M := mX9_all) dX9_all_78 vX9_215 (by repeat (first | with_reducible assumption | refine ex_eq ?_ | refine ex_ne ?_ (by omega) | exact ex_lt (by with_reducible assumption) | rw [List.length_set] | assumption)) rfl (sp_apply (P := Q) k1 k2 g2 hp3 hw3 hsp3 ha98 hav) rfl (Nat.le_of_ble_eq_true rfl) ⟨Nat.le_refl _, Nat.le_refl _⟩ rfl (fun H78 r78 q78 => ?_)
      obtain ⟨rfl, hc4, hw4, hsp4, hp4⟩ := q78
      refine ew_pop (M := mX9_all) dX9_all_81 rfl ?_
      refine ew_iinc (M := mX9_all) dX9_all_82 rfl (ex_inc i) (by decide) rfl ?_
      refine ew_goto (M := mX9_all) (tgt := 46) dX9_all_85 rfl ?_
      refine ew_ls _ ?_ (kk _ (hc3.tr hc4 (by simp)) hw4 hsp4 hp4)
      exact ⟨rfl, rfl, trivial⟩
    · intro H2 hc3 hw3 hsp3 hp3
      obtain ⟨cw3, hw3⟩ := hw3
      have k1 := hc3.at (hc2.at e1 (by simp)) (by simp)
      have k2 := hc3.at (hc2.at g1 (by simp)) (by simp)
      have k5 := (g5.ch hc2 (by simp) (by simp) (by simp)).ch hc3 (by simp) (by simp) (by simp)
      obtain ⟨-, kgs, kms, ⟨kp1, kp2, kp3⟩, -⟩ := id hp3
      obtain ⟨k51, k52, k53⟩ := id k5
      have esh := alP_sh S.2.2.1.2.1.2 S.2.2.1.2.2.1 S.2.2.1.2.1.1 S.2.2.1.1
      have hp3 : pi_is H2 4 S.2.2.1.1.1 S.2.2.1.1.2.1 (alP S.2.2.1.2.1.2 S.2.2.1.2.2.1 S.2.2.1.2.1.1 S.2.2.1.1).2.2.1 (alP S.2.2.1.2.1.2 S.2.2.1.2.2.1 S.2.2.1.2.1.1 S.2.2.1.1).2.2.2 := by
        have := hp3
        unfold pis at this
        change pi_is H2 4 (alP S.2.2.1.2.1.2 S.2.2.1.2.2.1 S.2.2.1.2.1.1 S.2.2.1.1).1 (alP S.2.2.1.2.1.2 S.2.2.1.2.2.1 S.2.2.1.2.1.1 S.2.2.1.1).2.1 _ _ at this
        rw [esh.1, esh.2.1] at this
        exact this
      have hpa : pi_is H2 83 S.2.2.1.1.1 S.2.2.1.1.2.1 S.2.2.1.1.2.2.1 S.2.2.1.1.2.2.2 := pi_is.ch hc3 hp2 (by simp) (by simp) (by simp)
      obtain ⟨-, kgs, kms, ⟨kp1, kp2, kp3⟩, -⟩ := id hp3
      refine ew_iload_n (M := mX9_all) dX9_all_46 rfl ?_
      refine ew_aload_n (M := mX9_all) dX9_all_47 rfl (Or.inr (Or.inl ⟨_, rfl⟩)) ?_
      refine ew_get (M := mX9_all) dX9_all_48 fX9_19 (by repeat (first | with_reducible assumption | refine ex_eq ?_ | refine ex_ne ?_ (by omega) | exact ex_lt (by with_reducible assumption) | rw [List.length_set] | assumption)) (by rfl) ?_
      refine ew_get (M := mX9_all) dX9_all_51 fX9_120 (by repeat (first | with_reducible assumption | refine ex_eq ?_ | refine ex_ne ?_ (by omega) | exact ex_lt (by with_reducible assumption) | rw [List.length_set] | assumption)) (by rfl) ?_
      refine ew_get (M := mX9_all) dX9_all_54 fX9_124 (by repeat (first | with_reducible assumption | refine ex_eq ?_ | refine ex_ne ?_ (by omega) | exact ex_lt (by with_reducible assumption) | rw [List.length_set] | assumption)) (by rfl) ?_
      refine ew_icmp_ge (M := mX9_all) (tgt := 88) dX9_all_57 rfl (fun _ => ?_) (fun h => absurd (nI_le (Nat.le_refl _) (by omega)) h)
      refine ew_aload_n (M := mX9_all) dX9_all_88 rfl (Or.inr (Or.inl ⟨_, rfl⟩)) ?_
      refine ew_get (M := mX9_all) dX9_all_89 fX9_19 (by repeat (first | with_reducible assumption | refine ex_eq ?_ | refine ex_ne ?_ (by omega) | exact ex_lt (by with_reducible assumption) | rw [List.length_set] | assumption)) (by rfl) ?_
      refine ew_get (M := mX9_all) dX9_all_92 fX9_86 (by repeat (first | with_reducible assumption | refine ex_eq ?_ | refine ex_ne ?_ (by omega) | exact ex_lt (by with_reducible assumption) | rw [List.length_set] | assumption)) (by rfl) ?_
      refine ew_aload_n (M := mX9_all) dX9_all_95 rfl (Or.inr (Or.inl ⟨_, rfl⟩)) ?_
      refine ew_get (M := mX9_all) dX9_all_96 fX9_59 (by repeat (first | with_reducible assumption | refine ex_eq ?_ | refine ex_ne ?_ (by omega) | exact ex_lt (by with_reducible assumption) | rw [List.length_set] | assumption)) (by rfl) ?_
      refine ew_callV (M := mX9_all) dX9_all_99 vX9_218 (by repeat (first | with_reducible assumption | refine ex_eq ?_ | refine ex_ne ?_ (by omega) | exact ex_lt (by with_reducible assumption) | rw [List.length_set] | assumption)) rfl (sp_greysOtherThan hp3 hpa) rfl (Nat.le_of_ble_eq_true rfl) ⟨Nat.le_refl _, Nat.le_refl _⟩ rfl (fun H99 r99 q99 => ?_)
      obtain ⟨rfl, rfl⟩ := q99
      refine ew_iret (M := mX9_all) dX9_all_102 rfl (by first | rfl | decide) (Nat.le_refl _) (Nat.le_refl _) ?_
      have hcc : ex_ch H27 H2 [4, 5, 6, 77, 78, 79, 80, 81, 82, 83, 84, 85] := (hc2.sub (by simp)).tr hc3 (by simp)
      refine ⟨rfl, hq1.tr hcc (fun k hk => Or.inl (by rw [cL_mem]; simp at hk; omega)), cl_pic hS1 hcc ?_ ⟨_, hw3⟩ hsp3 (pis.any (P := (_, _, _, _)) hpa)⟩
      show pi_is H2 4 (alP S.2.2.1.2.1.2 S.2.2.1.2.2.1 S.2.2.1.2.1.1 S.2.2.1.1).1 (alP S.2.2.1.2.1.2 S.2.2.1.2.2.1 S.2.2.1.2.1.1 S.2.2.1.1).2.1 _ _
      rw [esh.1, esh.2.1]
      exact hp3
theorem gother_le (w h : Nat) (g g2 : Nat → Nat) : pm_gother w h g g2 ≤ w * h :=
  fl_inv (P := fun i n => n ≤ i) (w * h) 0 (Nat.le_refl _) (fun i n _ hn => by split <;> omega)
noncomputable def unt (v : FV) (fi : Nat) : Nat → PT → Nat × PT
  | 0, P => (0, P)
  | n + 1, P => if pm_gother P.1 P.2.1 P.2.2.1 (apG P v fi) = 0 then (0, apP P v fi) else ((unt v fi n (apP P v fi)).1 + 1, (unt v fi n (apP P v fi)).2)
noncomputable def f_until (S : SS) (f n : Int32) : Int32 × SS := cif (fin S.2.2.1.2.1.1 f) (cif (nI 1 ≤ n ∧ n ≤ nI 20) (nI (unt (S.2.2.1.2.1.2 f.toNatClampNeg) S.2.2.1.2.2.1 n.toNatClampNeg S.2.2.1.1).1, deed S (unt (S.2.2.1.2.1.2 f.toNatClampNeg) S.2.2.1.2.2.1 n.toNatClampNeg S.2.2.1.1).2) (-1000000002, S)) (-1000000001, S)
theorem cs_until {d : Nat} {H : ex_H} {S : SS} (hS : cl_is H S) (f n : Int32) : ex_Met mX9_until (d + 6) 0 0 H [.ref 0, .int f, .int n] (fun H' r => r = some (.int (f_until S f n).1) ∧ ex_ch H H' cL ∧ cl_is H' (f_until S f n).2) := by
  obtain ⟨a1, ⟨pl, a2⟩, a3, ⟨fa, a4, a5, a6⟩, a7, a8, ⟨fk, a9, a10⟩, a11, a12, ⟨cw, a13⟩, a14, a15⟩ := id hS
  obtain ⟨b1, b2, b3, b4, b5⟩ := id a3
  obtain ⟨⟨bz, bgm⟩, bgs, bms, ⟨bp1, bp2, bp3⟩, bct⟩ := id b4
  obtain ⟨bz1, bz2, bz3, bz4⟩ := id bz
  obtain ⟨-, -, -, old, -, a111, -⟩ := id a11
  obtain ⟨b51, b52, b53⟩ := id b5
  refine ex_meth [(0, .ref 0), (1, .int f), (2, .int n)] rfl rfl rfl (fun b => Nat.le_of_ble_eq_true rfl) ?_
  unfold f_until
  by_cases hx : fin S.2.2.1.2.1.1 f
  · rw [cif_y hx]
    obtain ⟨k, hk, rfl⟩ := id hx
    rw [nI_clamp (show k < 2 ^ 31 by omega)]
    by_cases hn : nI 1 ≤ n ∧ n ≤ nI 20
    · rw [cif_y hn]
      obtain ⟨v, hv1, hv2, rfl⟩ := nI_of4 (by decide) hn
      rw [nI_clamp (show v < 2 ^ 31 by omega)]
      refine ew_aload_n (M := mX9_until) dX9_until_0 rfl (Or.inr (Or.inl ⟨_, rfl⟩)) ?_
      refine ew_get (M := mX9_until) dX9_until_1 fX9_19 (by repeat (first | with_reducible assumption | refine ex_eq ?_ | refine ex_ne ?_ (by omega) | exact ex_lt (by with_reducible assumption) | rw [List.length_set] | assumption)) (by rfl) ?_
      refine ew_get (M := mX9_until) dX9_until_4 fX9_120 (by repeat (first | with_reducible assumption | refine ex_eq ?_ | refine ex_ne ?_ (by omega) | exact ex_lt (by with_reducible assumption) | rw [List.length_set] | assumption)) (by rfl) ?_
      refine ew_iload_n (M := mX9_until) dX9_until_7 rfl ?_
      refine ew_callV (M := mX9_until) dX9_until_8 vX9_167 (by repeat (first | with_reducible assumption | refine ex_eq ?_ | refine ex_ne ?_ (by omega) | exact ex_lt (by with_reducible assumption) | rw [List.length_set] | assumption)) rfl (sp_numbered b5 hk) rfl (Nat.le_of_ble_eq_true rfl) ⟨Nat.le_refl _, Nat.le_refl _⟩ rfl (fun H8 r8 q8 => ?_)
      obtain ⟨a, rfl, rfl, ha98, hav⟩ := q8
      obtain ⟨v1, v2, v3, v4, v5, v6, v7⟩ := id hav
      refine ew_astore_n (M := mX9_until) dX9_until_11 (Or.inr ⟨_, rfl⟩) (by decide) rfl ?_
      refine ew_aload_n (M := mX9_until) dX9_until_12 rfl (Or.inr (Or.inl ⟨_, rfl⟩)) ?_
      refine ew_ifnonnull (v := some a) (M := mX9_until) (tgt := 19) dX9_until_13 rfl (fun _ _ => ?_) (fun h => by cases h)
      refine ew_iload_n (M := mX9_until) dX9_until_19 rfl ?_
      refine ew_iconst (M := mX9_until) dX9_until_20 (v := nI 1) (by decide) ?_
      refine ew_bipush (M := mX9_until) dX9_until_21 (v := nI 20) (by decide) ?_
      refine ew_callS (M := mX9_until) dX9_until_23 vX9_66 (sp_within_y hn.1 hn.2) rfl (Nat.le_of_ble_eq_true rfl) ⟨Nat.le_refl _, Nat.le_refl _⟩ rfl (fun H23 r23 q23 => ?_)
      obtain ⟨rfl, rfl⟩ := q23
      refine ew_if_ne (M := mX9_until) (tgt := 32) dX9_until_26 rfl (fun _ => ?_) (fun h => absurd h (by decide))
      refine ew_aload_n (M := mX9_until) dX9_until_32 rfl (Or.inr (Or.inl ⟨_, rfl⟩)) ?_
      refine ew_get (M := mX9_until) dX9_until_33 fX9_34 (by repeat (first | with_reducible assumption | refine ex_eq ?_ | refine ex_ne ?_ (by omega) | exact ex_lt (by with_reducible assumption) | rw [List.length_set] | assumption)) (by rfl) ?_
      refine ew_aload_n (M := mX9_until) dX9_until_36 rfl (Or.inr (Or.inl ⟨_, rfl⟩)) ?_
      refine ew_get (M := mX9_until) dX9_until_37 fX9_19 (by repeat (first | with_reducible assumption | refine ex_eq ?_ | refine ex_ne ?_ (by omega) | exact ex_lt (by with_reducible assumption) | rw [List.length_set] | assumption)) (by rfl) ?_
      refine ew_get (M := mX9_until) dX9_until_40 fX9_86 (by repeat (first | with_reducible assumption | refine ex_eq ?_ | refine ex_ne ?_ (by omega) | exact ex_lt (by with_reducible assumption) | rw [List.length_set] | assumption)) (by rfl) ?_
      refine ew_callV (M := mX9_until) dX9_until_43 vX9_89 (by repeat (first | with_reducible assumption | refine ex_eq ?_ | refine ex_ne ?_ (by omega) | exact ex_lt (by with_reducible assumption) | rw [List.length_set] | assumption)) rfl (sp_remember a11 b4 (by omega)) rfl (Nat.le_of_ble_eq_true rfl) ⟨Nat.le_refl _, Nat.le_refl _⟩ rfl (fun H43 r43 q43 => ?_)
      obtain ⟨rfl, hc1, hh1⟩ := q43
      have hS1 : cl_is H43 (s_rem S) := cl_hist hS hc1 hh1
      have hq1 : ex_ch H H43 cL := hc1.sub (fun k hk => Or.inl (by rw [cL_mem]; rw [hiL_mem] at hk; omega))
      obtain ⟨e1, ⟨epl, e2⟩, e3, ⟨efa, e4, e5, e6⟩, e7, e8, ⟨efk, e9, e10⟩, e11, e12, ⟨ecw, e13⟩, e14, e15⟩ := id hS1
      obtain ⟨g1, g2, g3, g4, g5⟩ := id e3
      have g4 : pis H43 4 S.2.2.1.1 := g4
      obtain ⟨-, ggs, gms, ⟨gp1, gp2, gp3⟩, -⟩ := id g4
      obtain ⟨g51, g52, g53⟩ := id g5
      have e1 : H43[0]? = some (ob 9 [.ref 1, .ref 3, .ref 9, .ref 22, .ref 23, .ref 73, .ref 77, .ref 80, .ref 83, .int S.2.1]) := e1
      have g1 : H43[3]? = some (ob 6 [.ref 4, .ref 7, .int (nI S.2.2.1.2.2.1), .int (nI S.2.2.1.2.2.2)]) := g1
      refine ew_iconst (M := mX9_until) dX9_until_46 (v := nI 0) (by decide) ?_
      refine ew_istore (M := mX9_until) dX9_until_47 (by decide) rfl ?_
      have hav1 := hav.ch hc1 (by simp [hiL_mem] <;> omega)
      have key : ∀ (r c : Nat) (Q : PT) (H2 : ex_H), c + r = v → (unt (S.2.2.1.2.1.2 k) S.2.2.1.2.2.1 v S.2.2.1.1).1 = (unt (S.2.2.1.2.1.2 k) S.2.2.1.2.2.1 r Q).1 + c → (unt (S.2.2.1.2.1.2 k) S.2.2.1.2.2.1 v S.2.2.1.1).2 = (unt (S.2.2.1.2.1.2 k) S.2.2.1.2.2.1 r Q).2 → Q.1 ≤ 10 → Q.2.1 ≤ 8 → ex_ch H43 H2 [4, 5, 6, 77, 78, 79, 80, 81, 82] → (∃ c, wi_is H2 77 c) → pi_any H2 80 → pis H2 4 Q → ex_W mX9_until (d + 6) 0 0 (fun H' r => r = some (.int (nI (unt (S.2.2.1.2.1.2 k) S.2.2.1.2.2.1 v S.2.2.1.1).1)) ∧ ex_ch H H' cL ∧ cl_is H' (deed S (unt (S.2.2.1.2.1.2 k) S.2.2.1.2.2.1 v S.2.2.1.1).2)) H2 49 [(0, .ref 0), (2, .int (nI v)), (3, .ref a), (4, .int (nI c))] [] 0 0 := by
        intro r
        induction r with
        | zero =>
          intro c Q H2 hcv eu1 eu2 hQ1 hQ2 hc3 hw3 hsp3 hp3
          have eu1 : (unt (S.2.2.1.2.1.2 k) S.2.2.1.2.2.1 v S.2.2.1.1).1 = c := by rw [eu1]; show 0 + c = c; omega
          have eu2 : (unt (S.2.2.1.2.1.2 k) S.2.2.1.2.2.1 v S.2.2.1.1).2 = Q := eu2
          refine ew_iload (M := mX9_until) dX9_until_49 rfl ?_
          refine ew_iload_n (M := mX9_until) dX9_until_51 rfl ?_
          refine ew_icmp_ge (M := mX9_until) (tgt := 69) dX9_until_52 rfl (fun _ => ?_) (fun h => absurd (nI_le (by omega) (by omega)) h)
          refine ew_iload (M := mX9_until) dX9_until_69 rfl ?_
          refine ew_iret (M := mX9_until) dX9_until_71 rfl (by first | rfl | decide) (Nat.le_refl _) (Nat.le_refl _) ?_
          exact ⟨by rw [eu1], hq1.tr hc3 (fun k hk => Or.inl (by rw [cL_mem]; simp at hk; omega)), by rw [eu2]; exact cl_pic hS1 (hc3.sub (by simp)) hp3 hw3 hsp3 (e15.ch hc3 (by simp) (by simp) (by simp))⟩
        | succ r ih =>
          intro c Q H2 hcv eu1 eu2 hQ1 hQ2 hc3 hw3 hsp3 hp3
          obtain ⟨cw3, hw3⟩ := hw3
          have k1 := hc3.at e1 (by simp)
          have k2 := hc3.at g1 (by simp)
          have k6 := hav1.ch hc3 (by simp <;> omega)
          have hgl := gother_le Q.1 Q.2.1 Q.2.2.1 (apG Q (S.2.2.1.2.1.2 k) S.2.2.1.2.2.1)
          have h80 : Q.1 * Q.2.1 ≤ 80 := Nat.le_trans (Nat.mul_le_mul hQ1 hQ2) (by decide)
          have hun : unt (S.2.2.1.2.1.2 k) S.2.2.1.2.2.1 (r + 1) Q = if pm_gother Q.1 Q.2.1 Q.2.2.1 (apG Q (S.2.2.1.2.1.2 k) S.2.2.1.2.2.1) = 0 then (0, apP Q (S.2.2.1.2.1.2 k) S.2.2.1.2.2.1) else ((unt (S.2.2.1.2.1.2 k) S.2.2.1.2.2.1 r (apP Q (S.2.2.1.2.1.2 k) S.2.2.1.2.2.1)).1 + 1, (unt (S.2.2.1.2.1.2 k) S.2.2.1.2.2.1 r (apP Q (S.2.2.1.2.1.2 k) S.2.2.1.2.2.1)).2) := rfl
          rw [hun] at eu1 eu2
          refine ew_iload (M := mX9_until) dX9_until_49 rfl ?_
          refine ew_iload_n (M := mX9_until) dX9_until_51 rfl ?_
          refine ew_icmp_ge (M := mX9_until) (tgt := 69) dX9_until_52 rfl (fun h => absurd h (nI_ge (by omega) (by omega))) (fun _ => ?_)
          refine ew_aload_n (M := mX9_until) dX9_until_55 rfl (Or.inr (Or.inl ⟨_, rfl⟩)) ?_
          refine ew_aload_n (M := mX9_until) dX9_until_56 rfl (Or.inr (Or.inl ⟨_, rfl⟩)) ?_
          refine ew_callV (M := mX9_until) dX9_until_57 vX9_215 (by repeat (first | with_reducible assumption | refine ex_eq ?_ | refine ex_ne ?_ (by omega) | exact ex_lt (by with_reducible assumption) | rw [List.length_set] | assumption)) rfl (sp_apply (P := Q) k1 k2 g2 hp3 hw3 hsp3 ha98 k6) rfl (Nat.le_of_ble_eq_true rfl) ⟨Nat.le_refl _, Nat.le_refl _⟩ rfl (fun H57 r57 q57 => ?_)
          obtain ⟨rfl, hc4, hw4, hsp4, hp4⟩ := q57
          have hc5 := hc3.tr hc4 (by simp)
          refine ew_if_le (M := mX9_until) (tgt := 69) dX9_until_60 rfl (fun c60 => ?_) (fun c60 => ?_)
          · have cz : pm_gother Q.1 Q.2.1 Q.2.2.1 (apG Q (S.2.2.1.2.1.2 k) S.2.2.1.2.2.1) = 0 := by
              rcases Nat.eq_zero_or_pos (pm_gother Q.1 Q.2.1 Q.2.2.1 (apG Q (S.2.2.1.2.1.2 k) S.2.2.1.2.2.1)) with e | e
              · exact e
              · exact absurd c60 (nI_nle e (by omega))
            rw [if_pos cz] at eu1 eu2
            have eu1 : (unt (S.2.2.1.2.1.2 k) S.2.2.1.2.2.1 v S.2.2.1.1).1 = c := by rw [eu1]; show 0 + c = c; omega
            refine ew_iload (M := mX9_until) dX9_until_69 rfl ?_
            refine ew_iret (M := mX9_until) dX9_until_71 rfl (by first | rfl | decide) (Nat.le_refl _) (Nat.le_refl _) ?_
            exact ⟨by rw [eu1], hq1.tr hc5 (fun k hk => Or.inl (by rw [cL_mem]; simp at hk; omega)), by rw [eu2]; exact cl_pic hS1 (hc5.sub (by simp)) hp4 hw4 hsp4 (e15.ch hc5 (by simp) (by simp) (by simp))⟩
          · have cz : ¬ pm_gother Q.1 Q.2.1 Q.2.2.1 (apG Q (S.2.2.1.2.1.2 k) S.2.2.1.2.2.1) = 0 := fun e => c60 (by rw [e]; decide)
            rw [if_neg cz] at eu1 eu2
            refine ew_iinc (M := mX9_until) dX9_until_63 rfl (ex_inc c) (by decide) rfl ?_
            refine ew_goto (M := mX9_until) (tgt := 49) dX9_until_66 rfl ?_
            refine ew_ls _ ?_ (ih (c + 1) (apP Q (S.2.2.1.2.1.2 k) S.2.2.1.2.2.1) _ (by omega) ?_ eu2 hQ1 hQ2 hc5 hw4 hsp4 hp4)
            · exact ⟨rfl, rfl, rfl, rfl, trivial⟩
            · rw [eu1]
              dsimp only
              omega
      refine ew_ls _ ?_ (key v 0 S.2.2.1.1 H43 (by omega) rfl rfl (by omega) (by omega) ex_ch.rf ⟨ecw, e13⟩ e14 g4)
      exact ⟨rfl, rfl, rfl, rfl, trivial⟩
    · rw [cif_n hn]
      refine ew_aload_n (M := mX9_until) dX9_until_0 rfl (Or.inr (Or.inl ⟨_, rfl⟩)) ?_
      refine ew_get (M := mX9_until) dX9_until_1 fX9_19 (by repeat (first | with_reducible assumption | refine ex_eq ?_ | refine ex_ne ?_ (by omega) | exact ex_lt (by with_reducible assumption) | rw [List.length_set] | assumption)) (by rfl) ?_
      refine ew_get (M := mX9_until) dX9_until_4 fX9_120 (by repeat (first | with_reducible assumption | refine ex_eq ?_ | refine ex_ne ?_ (by omega) | exact ex_lt (by with_reducible assumption) | rw [List.length_set] | assumption)) (by rfl) ?_
      refine ew_iload_n (M := mX9_until) dX9_until_7 rfl ?_
      refine ew_callV (M := mX9_until) dX9_until_8 vX9_167 (by repeat (first | with_reducible assumption | refine ex_eq ?_ | refine ex_ne ?_ (by omega) | exact ex_lt (by with_reducible assumption) | rw [List.length_set] | assumption)) rfl (sp_numbered b5 hk) rfl (Nat.le_of_ble_eq_true rfl) ⟨Nat.le_refl _, Nat.le_refl _⟩ rfl (fun H8 r8 q8 => ?_)
      obtain ⟨a, rfl, rfl, ha98, hav⟩ := q8
      obtain ⟨v1, v2, v3, v4, v5, v6, v7⟩ := id hav
      refine ew_astore_n (M := mX9_until) dX9_until_11 (Or.inr ⟨_, rfl⟩) (by decide) rfl ?_
      refine ew_aload_n (M := mX9_until) dX9_until_12 rfl (Or.inr (Or.inl ⟨_, rfl⟩)) ?_
      refine ew_ifnonnull (v := some a) (M := mX9_until) (tgt := 19) dX9_until_13 rfl (fun _ _ => ?_) (fun h => by cases h)
      refine ew_iload_n (M := mX9_until) dX9_until_19 rfl ?_
      refine ew_iconst (M := mX9_until) dX9_until_20 (v := nI 1) (by decide) ?_
      refine ew_bipush (M := mX9_until) dX9_until_21 (v := nI 20) (by decide) ?_
      refine ew_callS (M := mX9_until) dX9_until_23 vX9_66 (sp_within_n hn) rfl (Nat.le_of_ble_eq_true rfl) ⟨Nat.le_refl _, Nat.le_refl _⟩ rfl (fun H23 r23 q23 => ?_)
      obtain ⟨rfl, rfl⟩ := q23
      refine ew_if_ne (M := mX9_until) (tgt := 32) dX9_until_26 rfl (fun h => absurd rfl h) (fun _ => ?_)
      refine ew_ldc (M := mX9_until) dX9_until_29 kX9_70 ?_
      refine ew_iret (M := mX9_until) dX9_until_31 rfl (by first | rfl | decide) (Nat.le_refl _) (Nat.le_refl _) ?_
      exact ⟨rfl, ex_ch.rf, hS⟩
  · rw [cif_n hx]
    refine ew_aload_n (M := mX9_until) dX9_until_0 rfl (Or.inr (Or.inl ⟨_, rfl⟩)) ?_
    refine ew_get (M := mX9_until) dX9_until_1 fX9_19 (by repeat (first | with_reducible assumption | refine ex_eq ?_ | refine ex_ne ?_ (by omega) | exact ex_lt (by with_reducible assumption) | rw [List.length_set] | assumption)) (by rfl) ?_
    refine ew_get (M := mX9_until) dX9_until_4 fX9_120 (by repeat (first | with_reducible assumption | refine ex_eq ?_ | refine ex_ne ?_ (by omega) | exact ex_lt (by with_reducible assumption) | rw [List.length_set] | assumption)) (by rfl) ?_
    refine ew_iload_n (M := mX9_until) dX9_until_7 rfl ?_
    refine ew_callV (M := mX9_until) dX9_until_8 vX9_167 (by repeat (first | with_reducible assumption | refine ex_eq ?_ | refine ex_ne ?_ (by omega) | exact ex_lt (by with_reducible assumption) | rw [List.length_set] | assumption)) rfl (sp_numbered_n b5 hx) rfl (Nat.le_of_ble_eq_true rfl) ⟨Nat.le_refl _, Nat.le_refl _⟩ rfl (fun H8 r8 q8 => ?_)
    obtain ⟨rfl, rfl⟩ := q8
    refine ew_astore_n (M := mX9_until) dX9_until_11 (Or.inl rfl) (by decide) rfl ?_
    refine ew_aload_n (M := mX9_until) dX9_until_12 rfl (Or.inl rfl) ?_
    refine ew_ifnonnull (v := none) (M := mX9_until) (tgt := 19) dX9_until_13 rfl (fun _ h => by cases h) (fun _ => ?_)
    refine ew_ldc (M := mX9_until) dX9_until_16 kX9_141 ?_
    refine ew_iret (M := mX9_until) dX9_until_18 rfl (by first | rfl | decide) (Nat.le_refl _) (Nat.le_refl _) ?_
    exact ⟨rfl, ex_ch.rf, hS⟩
noncomputable def nstep (S : SS) : SS := s_now (s_rem S) ((spk S.2.2.1.1 S.2.2.1.2.2.2).1, S.2.2.1.2.1, S.2.2.1.2.2.1, (spk S.2.2.1.1 S.2.2.1.2.2.2).2)
noncomputable def f_noise (S : SS) (n : Int32) : Int32 × SS := cif (nI 1 ≤ n ∧ n ≤ nI 12) (nI (fl (fun _ S => nstep S) n.toNatClampNeg S).2.2.1.2.2.2, fl (fun _ S => nstep S) n.toNatClampNeg S) (-1000000002, S)
theorem cs_noise {d : Nat} {H : ex_H} {S : SS} (hS : cl_is H S) (n : Int32) : ex_Met mX9_noise (d + 4) 0 0 H [.ref 0, .int n] (fun H' r => r = some (.int (f_noise S n).1) ∧ ex_ch H H' cL ∧ cl_is H' (f_noise S n).2) := by
  refine ex_meth [(0, .ref 0), (1, .int n)] rfl rfl rfl (fun b => Nat.le_of_ble_eq_true rfl) ?_
  unfold f_noise
  by_cases hx : nI 1 ≤ n ∧ n ≤ nI 12
  · rw [cif_y hx]
    obtain ⟨v, hv1, hv2, rfl⟩ := nI_of4 (by decide) hx
    rw [nI_clamp (show v < 2 ^ 31 by omega)]
    refine ew_iload_n (M := mX9_noise) dX9_noise_0 rfl ?_
    refine ew_iconst (M := mX9_noise) dX9_noise_1 (v := nI 1) (by decide) ?_
    refine ew_bipush (M := mX9_noise) dX9_noise_2 (v := nI 12) (by decide) ?_
    refine ew_callS (M := mX9_noise) dX9_noise_4 vX9_66 (sp_within_y hx.1 hx.2) rfl (Nat.le_of_ble_eq_true rfl) ⟨Nat.le_refl _, Nat.le_refl _⟩ rfl (fun H4 r4 q4 => ?_)
    obtain ⟨rfl, rfl⟩ := q4
    refine ew_if_ne (M := mX9_noise) (tgt := 13) dX9_noise_7 rfl (fun _ => ?_) (fun h => absurd h (by decide))
    refine ew_iconst (M := mX9_noise) dX9_noise_13 (v := nI 0) (by decide) ?_
    refine ew_istore_n (M := mX9_noise) dX9_noise_14 (by decide) rfl ?_
    refine ew_ls [(0, .ref 0), (1, .int (nI v)), (2, .int (nI 0))] ⟨rfl, rfl, rfl, trivial⟩ ?_
    refine fl_down (F := fun _ S => nstep S) (P := fun i S' => ∀ H2 : ex_H, ex_ch H H2 cL → cl_is H2 S' → ex_W mX9_noise (d + 4) 0 0 (fun H' r => r = some (.int (nI (fl (fun _ S => nstep S) v S).2.2.1.2.2.2)) ∧ ex_ch H H' cL ∧ cl_is H' (fl (fun _ S => nstep S) v S)) H2 15 [(0, .ref 0), (1, .int (nI v)), (2, .int (nI i))] [] 0 0) v S (fun i S' hi _ kk => ?_) ?_ H ex_ch.rf hS
    · intro H2 hc0 hS
      obtain ⟨a1, ⟨pl, a2⟩, a3, ⟨fa, a4, a5, a6⟩, a7, a8, ⟨fk, a9, a10⟩, a11, a12, ⟨cw, a13⟩, a14, a15⟩ := id hS
      obtain ⟨b1, b2, b3, b4, b5⟩ := id a3
      obtain ⟨⟨bz, bgm⟩, bgs, bms, ⟨bp1, bp2, bp3⟩, bct⟩ := id b4
      obtain ⟨bz1, bz2, bz3, bz4⟩ := id bz
      obtain ⟨-, -, -, old, -, a111, -⟩ := id a11
      refine ew_iload_n (M := mX9_noise) dX9_noise_15 rfl ?_
      refine ew_iload_n (M := mX9_noise) dX9_noise_16 rfl ?_
      refine ew_icmp_ge (M := mX9_noise) (tgt := 47) dX9_noise_17 rfl (fun h => absurd h (nI_ge hi (by omega))) (fun _ => ?_)
      refine ew_aload_n (M := mX9_noise) dX9_noise_20 rfl (Or.inr (Or.inl ⟨_, rfl⟩)) ?_
      refine ew_get (M := mX9_noise) dX9_noise_21 fX9_34 (by repeat (first | with_reducible assumption | refine ex_eq ?_ | refine ex_ne ?_ (by omega) | exact ex_lt (by with_reducible assumption) | rw [List.length_set] | assumption)) (by rfl) ?_
      refine ew_aload_n (M := mX9_noise) dX9_noise_24 rfl (Or.inr (Or.inl ⟨_, rfl⟩)) ?_
      refine ew_get (M := mX9_noise) dX9_noise_25 fX9_19 (by repeat (first | with_reducible assumption | refine ex_eq ?_ | refine ex_ne ?_ (by omega) | exact ex_lt (by with_reducible assumption) | rw [List.length_set] | assumption)) (by rfl) ?_
      refine ew_get (M := mX9_noise) dX9_noise_28 fX9_86 (by repeat (first | with_reducible assumption | refine ex_eq ?_ | refine ex_ne ?_ (by omega) | exact ex_lt (by with_reducible assumption) | rw [List.length_set] | assumption)) (by rfl) ?_
      refine ew_callV (M := mX9_noise) dX9_noise_31 vX9_89 (by repeat (first | with_reducible assumption | refine ex_eq ?_ | refine ex_ne ?_ (by omega) | exact ex_lt (by with_reducible assumption) | rw [List.length_set] | assumption)) rfl (sp_remember a11 b4 (by omega)) rfl (Nat.le_of_ble_eq_true rfl) ⟨Nat.le_refl _, Nat.le_refl _⟩ rfl (fun H31 r31 q31 => ?_)
      obtain ⟨rfl, hc1, hh1⟩ := q31
      have hS1 : cl_is H31 (s_rem S') := cl_hist hS hc1 hh1
      obtain ⟨e1, -, e3, -⟩ := id hS1
      obtain ⟨g1, -⟩ := id e3
      refine ew_aload_n (M := mX9_noise) dX9_noise_34 rfl (Or.inr (Or.inl ⟨_, rfl⟩)) ?_
      refine ew_get (M := mX9_noise) dX9_noise_35 fX9_19 (by repeat (first | with_reducible assumption | refine ex_eq ?_ | refine ex_ne ?_ (by omega) | exact ex_lt (by with_reducible assumption) | rw [List.length_set] | assumption)) (by rfl) ?_
      refine ew_callV (M := mX9_noise) dX9_noise_38 vX9_221 (by repeat (first | with_reducible assumption | refine ex_eq ?_ | refine ex_ne ?_ (by omega) | exact ex_lt (by with_reducible assumption) | rw [List.length_set] | assumption)) rfl (sp_speckle e3 (by omega)) rfl (Nat.le_of_ble_eq_true rfl) ⟨Nat.le_refl _, Nat.le_refl _⟩ rfl (fun H38 r38 q38 => ?_)
      obtain ⟨rfl, hc2, hs2⟩ := q38
      refine ew_iinc (M := mX9_noise) dX9_noise_41 rfl (ex_inc i) (by decide) rfl ?_
      refine ew_goto (M := mX9_noise) (tgt := 15) dX9_noise_44 rfl ?_
      refine ew_ls _ ?_ (kk _ ((hc0.tr hc1 (fun k hk => Or.inl (by rw [cL_mem]; rw [hiL_mem] at hk; omega))).tr hc2 (fun k hk => Or.inl (by rw [cL_mem]; simp at hk; omega))) (cl_now hS1 (hc2.sub (by simp)) hs2))
      exact ⟨rfl, rfl, rfl, trivial⟩
    · intro H2 hc0 hS
      obtain ⟨a1, ⟨pl, a2⟩, a3, ⟨fa, a4, a5, a6⟩, a7, a8, ⟨fk, a9, a10⟩, a11, a12, ⟨cw, a13⟩, a14, a15⟩ := id hS
      obtain ⟨b1, b2, b3, b4, b5⟩ := id a3
      obtain ⟨⟨bz, bgm⟩, bgs, bms, ⟨bp1, bp2, bp3⟩, bct⟩ := id b4
      obtain ⟨bz1, bz2, bz3, bz4⟩ := id bz
      obtain ⟨-, -, -, old, -, a111, -⟩ := id a11
      refine ew_iload_n (M := mX9_noise) dX9_noise_15 rfl ?_
      refine ew_iload_n (M := mX9_noise) dX9_noise_16 rfl ?_
      refine ew_icmp_ge (M := mX9_noise) (tgt := 47) dX9_noise_17 rfl (fun _ => ?_) (fun h => absurd (nI_le (Nat.le_refl _) (by omega)) h)
      refine ew_aload_n (M := mX9_noise) dX9_noise_47 rfl (Or.inr (Or.inl ⟨_, rfl⟩)) ?_
      refine ew_get (M := mX9_noise) dX9_noise_48 fX9_19 (by repeat (first | with_reducible assumption | refine ex_eq ?_ | refine ex_ne ?_ (by omega) | exact ex_lt (by with_reducible assumption) | rw [List.length_set] | assumption)) (by rfl) ?_
      refine ew_get (M := mX9_noise) dX9_noise_51 fX9_224 (by repeat (first | with_reducible assumption | refine ex_eq ?_ | refine ex_ne ?_ (by omega) | exact ex_lt (by with_reducible assumption) | rw [List.length_set] | assumption)) (by rfl) ?_
      refine ew_iret (M := mX9_noise) dX9_noise_54 rfl (by first | rfl | decide) (Nat.le_refl _) (Nat.le_refl _) ?_
      exact ⟨rfl, hc0, hS⟩
  · rw [cif_n hx]
    refine ew_iload_n (M := mX9_noise) dX9_noise_0 rfl ?_
    refine ew_iconst (M := mX9_noise) dX9_noise_1 (v := nI 1) (by decide) ?_
    refine ew_bipush (M := mX9_noise) dX9_noise_2 (v := nI 12) (by decide) ?_
    refine ew_callS (M := mX9_noise) dX9_noise_4 vX9_66 (sp_within_n hx) rfl (Nat.le_of_ble_eq_true rfl) ⟨Nat.le_refl _, Nat.le_refl _⟩ rfl (fun H4 r4 q4 => ?_)
    obtain ⟨rfl, rfl⟩ := q4
    refine ew_if_ne (M := mX9_noise) (tgt := 13) dX9_noise_7 rfl (fun h => absurd rfl h) (fun _ => ?_)
    refine ew_ldc (M := mX9_noise) dX9_noise_10 kX9_70 ?_
    refine ew_iret (M := mX9_noise) dX9_noise_12 rfl (by first | rfl | decide) (Nat.le_refl _) (Nat.le_refl _) ?_
    exact ⟨rfl, ex_ch.rf, hS⟩
def rdP (z : rd_S) : PT := (rd_W z.2.1 z.2.2.1 z.2.2.2.1, z.2.1 + 1, z.2.2.2.2.2.1, z.2.2.2.2.2.2)
def rdz (t : Nat → Nat) (n : Nat) : rd_S := match rd_st t n with
  | .inl _ => (0, 0, 0, 0, 0, fun _ => 0, fun _ => 0)
  | .inr z => z
noncomputable def f_picture (S : SS) : Int32 × SS := cif ((rd_fault S.1.2 S.1.1).1 = 0) (nI ((rdP (rdz S.1.2 S.1.1)).1 * (rdP (rdz S.1.2 S.1.1)).2.1), deed (s_fa (s_text S (0, S.1.2)) (-1)) (rdP (rdz S.1.2 S.1.1))) ((-10) - nI (rd_fault S.1.2 S.1.1).1, s_fa (s_text S (0, S.1.2)) (nI (rd_fault S.1.2 S.1.1).2))
theorem rd_fault_lt (t : Nat → Nat) (n : Nat) : (rd_fault t n).1 ≤ 3 := by
  unfold rd_fault
  have hb : ∀ z : rd_S, brks z ≤ 3 := fun z => by
    unfold brks brk
    repeat' split
    all_goals omega
  have hf : ∀ (z : rd_S) (x : Nat), rd_fs z x ≤ 3 := fun z x => by
    unfold rd_fs rd_f brk
    repeat' split
    all_goals omega
  have hs : ∀ i f, rd_st t i = .inl f → f.1 ≤ 3 := by
    intro i
    induction i with
    | zero => intro f h; cases h
    | succ i ih =>
      intro f h
      have h2 : (match rd_st t i with | .inl f => (.inl f : (Nat × Nat) ⊕ rd_S) | .inr z => if rd_fs z (t i) = 0 then .inr (rd_n z (t i)) else .inl (rd_fs z (t i), i)) = .inl f := h
      cases e : rd_st t i with
      | inl f0 => rw [e] at h2; cases h2; exact ih _ e
      | inr z0 =>
        rw [e] at h2
        dsimp only at h2
        by_cases q : rd_fs z0 (t i) = 0
        · rw [if_pos q] at h2; cases h2
        · rw [if_neg q] at h2; cases h2; exact hf _ _
  cases e : rd_st t n with
  | inl f => exact hs n f e
  | inr z => exact hb z
theorem cs_picture {d : Nat} {H : ex_H} {S : SS} (hS : cl_is H S) : ex_Met mX9_picture (d + 5) 1 6 H [.ref 0] (fun H' r => r = some (.int (f_picture S).1) ∧ ex_ch H H' cL ∧ cl_is H' (f_picture S).2) := by
  obtain ⟨a1, ⟨pl, a2⟩, a3, ⟨fa, a4, a5, a6⟩, a7, a8, ⟨fk, a9, a10⟩, a11, a12, ⟨cw, a13⟩, a14, a15⟩ := id hS
  obtain ⟨b1, b2, b3, b4, b5⟩ := id a3
  obtain ⟨⟨bz, bgm⟩, bgs, bms, ⟨bp1, bp2, bp3⟩, bct⟩ := id b4
  obtain ⟨bz1, bz2, bz3, bz4⟩ := id bz
  obtain ⟨-, -, -, old, -, a111, -⟩ := id a11
  have a20 := a2.2.2.1
  have hf3 := rd_fault_lt S.1.2 S.1.1
  obtain ⟨sw0, sh0, sgs, sms, esp⟩ := id a14
  obtain ⟨esp1, esp2, esp3⟩ := id esp
  refine ex_meth [(0, .ref 0)] rfl rfl rfl (fun b => Nat.le_of_ble_eq_true rfl) ?_
  unfold f_picture
  by_cases h0 : (rd_fault S.1.2 S.1.1).1 = 0
  · rw [cif_y h0]
    refine ew_aload_n (M := mX9_picture) dX9_picture_0 rfl (Or.inr (Or.inl ⟨_, rfl⟩)) ?_
    refine ew_get (M := mX9_picture) dX9_picture_1 fX9_10 (by repeat (first | with_reducible assumption | refine ex_eq ?_ | refine ex_ne ?_ (by omega) | exact ex_lt (by with_reducible assumption) | rw [List.length_set] | assumption)) (by rfl) ?_
    refine ew_aload_n (M := mX9_picture) dX9_picture_4 rfl (Or.inr (Or.inl ⟨_, rfl⟩)) ?_
    refine ew_get (M := mX9_picture) dX9_picture_5 fX9_55 (by repeat (first | with_reducible assumption | refine ex_eq ?_ | refine ex_ne ?_ (by omega) | exact ex_lt (by with_reducible assumption) | rw [List.length_set] | assumption)) (by rfl) ?_
    refine ew_callV (M := mX9_picture) dX9_picture_8 vX9_75 (by repeat (first | with_reducible assumption | refine ex_eq ?_ | refine ex_ne ?_ (by omega) | exact ex_lt (by with_reducible assumption) | rw [List.length_set] | assumption)) rfl (sp_readInto a2 a14 (by omega)) rfl (Nat.le_of_ble_eq_true rfl) ⟨by decide, by decide⟩ rfl (fun H8 r8 q8 => ?_)
    obtain ⟨rfl, hc1, ht1, hs1, hg1⟩ := q8
    have k1 := hc1.at a1 (by simp)
    have k20 := ht1.2.2.1
    refine ew_istore_n (M := mX9_picture) dX9_picture_11 (by decide) rfl ?_
    refine ew_aload_n (M := mX9_picture) dX9_picture_12 rfl (Or.inr (Or.inl ⟨_, rfl⟩)) ?_
    refine ew_iload_n (M := mX9_picture) dX9_picture_13 rfl ?_
    refine ew_if_ne (M := mX9_picture) (tgt := 21) dX9_picture_14 rfl (fun h => absurd (by rw [h0]; rfl) h) (fun _ => ?_)
    refine ew_iconst (M := mX9_picture) dX9_picture_17 (v := (-1)) (by decide) ?_
    refine ew_goto (M := mX9_picture) (tgt := 28) dX9_picture_18 rfl ?_
    refine ew_put (M := mX9_picture) dX9_picture_28 fX9_62 (by repeat (first | with_reducible assumption | refine ex_eq ?_ | refine ex_ne ?_ (by omega) | exact ex_lt (by with_reducible assumption) | rw [List.length_set] | assumption)) (by exact Nat.le_of_ble_eq_true rfl) ⟨rfl, rfl, fun _ h => by cases h⟩ ?_
    refine ew_aload_n (M := mX9_picture) dX9_picture_31 rfl (Or.inr (Or.inl ⟨_, rfl⟩)) ?_
    refine ew_get (M := mX9_picture) dX9_picture_32 fX9_10 (by repeat (first | with_reducible assumption | refine ex_eq ?_ | refine ex_ne ?_ (by omega) | exact ex_lt (by with_reducible assumption) | rw [List.length_set] | assumption)) (by rfl) ?_
    refine ew_callV (M := mX9_picture) dX9_picture_35 vX9_83 (by repeat (first | with_reducible assumption | refine ex_eq ?_ | refine ex_ne ?_ (by omega) | exact ex_lt (by with_reducible assumption) | rw [List.length_set] | assumption)) rfl (sp_clear (H := H8.set 0 (ob 9 [.ref 1, .ref 3, .ref 9, .ref 22, .ref 23, .ref 73, .ref 77, .ref 80, .ref 83, .int (-1)])) (n := S.1.1) (t := S.1.2) (pl := nI (rd_fault S.1.2 S.1.1).2) (ht1.ch (L := [0]) (ex_ch.rf.set (by simp)) (by simp) (by simp))) rfl (Nat.le_of_ble_eq_true rfl) ⟨by decide, by decide⟩ rfl (fun H35 r35 q35 => ?_)
    obtain ⟨rfl, hc2, ht2⟩ := q35
    have hcA : ex_ch H H35 [0, 1, 80, 81, 82] := ((hc1.sub (by simp)).set (by simp)).tr hc2 (by simp)
    have hS2 : cl_is H35 (s_fa (s_text S (0, S.1.2)) (-1)) := ⟨hc2.at (ex_eq (ex_lt k1)) (by simp), ⟨_, ht2⟩, a3.ch hcA (by simp [hiL_mem] <;> (intros; omega)) (by simp [hiL_mem] <;> (intros; omega)), ⟨fa, hcA.at a4 (by simp [hiL_mem] <;> omega), a5, a6⟩, a7.ch hcA (by simp [hiL_mem] <;> (intros; omega)) (by simp [hiL_mem] <;> (intros; omega)), a8.ch hcA (by simp [hiL_mem] <;> (intros; omega)) (by simp [hiL_mem] <;> (intros; omega)), ⟨fk, hcA.at a9 (by simp [hiL_mem] <;> omega), a10⟩, a11.ch hcA (by simp [hiL_mem] <;> (intros; omega)), a12.ch hcA (by simp [hiL_mem] <;> (intros; omega)), ⟨cw, a13.ch hcA (by simp [hiL_mem] <;> omega) (by simp [hiL_mem] <;> omega) (by simp [hiL_mem] <;> omega)⟩, (hs1.ch (L := [0]) (ex_ch.rf.set (by simp)) (by simp) (by simp) (by simp)).ch hc2 (by simp) (by simp) (by simp), a15.ch hcA (by simp [hiL_mem] <;> omega) (by simp [hiL_mem] <;> omega) (by simp [hiL_mem] <;> omega)⟩
    obtain ⟨z, hz, hp1⟩ := hg1 h0
    have ez : rdz S.1.2 S.1.1 = z := by unfold rdz; rw [hz]
    rw [ez]
    have hp2 : pis H35 80 (rdP z) := (pi_is.ch (L := [0]) (ex_ch.rf.set (by simp)) hp1 (by simp) (by simp) (by simp)).ch hc2 (by simp) (by simp) (by simp)
    have hqA : ex_ch H H35 cL := hcA.sub (fun k hk => Or.inl (by rw [cL_mem]; simp at hk; omega))
    obtain ⟨l1, -, l3, -, -, -, -, l11, -⟩ := id hS2
    obtain ⟨m1, m2, m3, m4, m5⟩ := id l3
    obtain ⟨-, -, -, lold, -, l111, -⟩ := id l11
    obtain ⟨-, mgs, mms, ⟨mp1, mp2, mp3⟩, -⟩ := id m4
    refine ew_iload_n (M := mX9_picture) dX9_picture_38 rfl ?_
    refine ew_if_eq (M := mX9_picture) (tgt := 47) dX9_picture_39 rfl (fun _ => ?_) (fun h => absurd (by rw [h0]; rfl) h)
    refine ew_aload_n (M := mX9_picture) dX9_picture_47 rfl (Or.inr (Or.inl ⟨_, rfl⟩)) ?_
    refine ew_get (M := mX9_picture) dX9_picture_48 fX9_34 (by repeat (first | with_reducible assumption | refine ex_eq ?_ | refine ex_ne ?_ (by omega) | exact ex_lt (by with_reducible assumption) | rw [List.length_set] | assumption)) (by rfl) ?_
    refine ew_aload_n (M := mX9_picture) dX9_picture_51 rfl (Or.inr (Or.inl ⟨_, rfl⟩)) ?_
    refine ew_get (M := mX9_picture) dX9_picture_52 fX9_19 (by repeat (first | with_reducible assumption | refine ex_eq ?_ | refine ex_ne ?_ (by omega) | exact ex_lt (by with_reducible assumption) | rw [List.length_set] | assumption)) (by rfl) ?_
    refine ew_get (M := mX9_picture) dX9_picture_55 fX9_86 (by repeat (first | with_reducible assumption | refine ex_eq ?_ | refine ex_ne ?_ (by omega) | exact ex_lt (by with_reducible assumption) | rw [List.length_set] | assumption)) (by rfl) ?_
    refine ew_callV (M := mX9_picture) dX9_picture_58 vX9_89 (by repeat (first | with_reducible assumption | refine ex_eq ?_ | refine ex_ne ?_ (by omega) | exact ex_lt (by with_reducible assumption) | rw [List.length_set] | assumption)) rfl (sp_remember l11 m4 (by omega)) rfl (Nat.le_of_ble_eq_true rfl) ⟨by decide, by decide⟩ rfl (fun H58 r58 q58 => ?_)
    obtain ⟨rfl, hc3, hh3⟩ := q58
    have hS3 : cl_is H58 (s_rem (s_fa (s_text S (0, S.1.2)) (-1))) := cl_hist hS2 hc3 hh3
    have hp3 : pis H58 80 (rdP z) := hp2.ch hc3 (by simp [hiL_mem] <;> omega) (by simp [hiL_mem] <;> omega) (by simp [hiL_mem] <;> omega)
    obtain ⟨n1, -, n3, -, -, -, -, -, -, ⟨ncw, n13⟩, n14, n15⟩ := id hS3
    obtain ⟨o1, o2, o3, o4, o5⟩ := id n3
    obtain ⟨-, ogs, oms, ⟨op1, op2, op3⟩, -⟩ := id o4
    refine ew_aload_n (M := mX9_picture) dX9_picture_61 rfl (Or.inr (Or.inl ⟨_, rfl⟩)) ?_
    refine ew_get (M := mX9_picture) dX9_picture_62 fX9_19 (by repeat (first | with_reducible assumption | refine ex_eq ?_ | refine ex_ne ?_ (by omega) | exact ex_lt (by with_reducible assumption) | rw [List.length_set] | assumption)) (by rfl) ?_
    refine ew_get (M := mX9_picture) dX9_picture_65 fX9_86 (by repeat (first | with_reducible assumption | refine ex_eq ?_ | refine ex_ne ?_ (by omega) | exact ex_lt (by with_reducible assumption) | rw [List.length_set] | assumption)) (by rfl) ?_
    refine ew_aload_n (M := mX9_picture) dX9_picture_68 rfl (Or.inr (Or.inl ⟨_, rfl⟩)) ?_
    refine ew_get (M := mX9_picture) dX9_picture_69 fX9_55 (by repeat (first | with_reducible assumption | refine ex_eq ?_ | refine ex_ne ?_ (by omega) | exact ex_lt (by with_reducible assumption) | rw [List.length_set] | assumption)) (by rfl) ?_
    refine ew_callV (M := mX9_picture) dX9_picture_72 vX9_93 (by repeat (first | with_reducible assumption | refine ex_eq ?_ | refine ex_ne ?_ (by omega) | exact ex_lt (by with_reducible assumption) | rw [List.length_set] | assumption)) rfl (sp_become ⟨op1, op2, op3⟩ hp3 (by omega)) rfl (Nat.le_of_ble_eq_true rfl) ⟨by decide, by decide⟩ rfl (fun H72 r72 q72 => ?_)
    obtain ⟨rfl, hc4, hp4⟩ := q72
    have r1 := hc4.at n1 (by simp)
    have r2 := hc4.at o1 (by simp)
    obtain ⟨-, rgs, rms, ⟨rp1, rp2, rp3⟩, -⟩ := id hp4
    refine ew_aload_n (M := mX9_picture) dX9_picture_75 rfl (Or.inr (Or.inl ⟨_, rfl⟩)) ?_
    refine ew_get (M := mX9_picture) dX9_picture_76 fX9_19 (by repeat (first | with_reducible assumption | refine ex_eq ?_ | refine ex_ne ?_ (by omega) | exact ex_lt (by with_reducible assumption) | rw [List.length_set] | assumption)) (by rfl) ?_
    refine ew_get (M := mX9_picture) dX9_picture_79 fX9_86 (by repeat (first | with_reducible assumption | refine ex_eq ?_ | refine ex_ne ?_ (by omega) | exact ex_lt (by with_reducible assumption) | rw [List.length_set] | assumption)) (by rfl) ?_
    refine ew_callV (M := mX9_picture) dX9_picture_82 vX9_96 (by repeat (first | with_reducible assumption | refine ex_eq ?_ | refine ex_ne ?_ (by omega) | exact ex_lt (by with_reducible assumption) | rw [List.length_set] | assumption)) rfl (sp_dots hp4) rfl (Nat.le_of_ble_eq_true rfl) ⟨by decide, by decide⟩ rfl (fun H82 r82 q82 => ?_)
    obtain ⟨rfl, rfl⟩ := q82
    refine ew_iret (M := mX9_picture) dX9_picture_85 rfl (by first | rfl | decide) (by decide) (by decide) ?_
    exact ⟨rfl, (hqA.tr hc3 (fun k hk => Or.inl (by rw [cL_mem]; rw [hiL_mem] at hk; omega))).tr hc4 (fun k hk => Or.inl (by rw [cL_mem]; simp at hk; omega)), cl_pic1 hS3 hc4 hp4⟩
  · rw [cif_n h0]
    refine ew_aload_n (M := mX9_picture) dX9_picture_0 rfl (Or.inr (Or.inl ⟨_, rfl⟩)) ?_
    refine ew_get (M := mX9_picture) dX9_picture_1 fX9_10 (by repeat (first | with_reducible assumption | refine ex_eq ?_ | refine ex_ne ?_ (by omega) | exact ex_lt (by with_reducible assumption) | rw [List.length_set] | assumption)) (by rfl) ?_
    refine ew_aload_n (M := mX9_picture) dX9_picture_4 rfl (Or.inr (Or.inl ⟨_, rfl⟩)) ?_
    refine ew_get (M := mX9_picture) dX9_picture_5 fX9_55 (by repeat (first | with_reducible assumption | refine ex_eq ?_ | refine ex_ne ?_ (by omega) | exact ex_lt (by with_reducible assumption) | rw [List.length_set] | assumption)) (by rfl) ?_
    refine ew_callV (M := mX9_picture) dX9_picture_8 vX9_75 (by repeat (first | with_reducible assumption | refine ex_eq ?_ | refine ex_ne ?_ (by omega) | exact ex_lt (by with_reducible assumption) | rw [List.length_set] | assumption)) rfl (sp_readInto a2 a14 (by omega)) rfl (Nat.le_of_ble_eq_true rfl) ⟨by decide, by decide⟩ rfl (fun H8 r8 q8 => ?_)
    obtain ⟨rfl, hc1, ht1, hs1, hg1⟩ := q8
    have k1 := hc1.at a1 (by simp)
    have k20 := ht1.2.2.1
    refine ew_istore_n (M := mX9_picture) dX9_picture_11 (by decide) rfl ?_
    refine ew_aload_n (M := mX9_picture) dX9_picture_12 rfl (Or.inr (Or.inl ⟨_, rfl⟩)) ?_
    refine ew_iload_n (M := mX9_picture) dX9_picture_13 rfl ?_
    refine ew_if_ne (M := mX9_picture) (tgt := 21) dX9_picture_14 rfl (fun _ => ?_) (fun h => absurd h (nI_n0 (by omega) (by omega)))
    refine ew_aload_n (M := mX9_picture) dX9_picture_21 rfl (Or.inr (Or.inl ⟨_, rfl⟩)) ?_
    refine ew_get (M := mX9_picture) dX9_picture_22 fX9_10 (by repeat (first | with_reducible assumption | refine ex_eq ?_ | refine ex_ne ?_ (by omega) | exact ex_lt (by with_reducible assumption) | rw [List.length_set] | assumption)) (by rfl) ?_
    refine ew_callV (M := mX9_picture) dX9_picture_25 vX9_79 (by repeat (first | with_reducible assumption | refine ex_eq ?_ | refine ex_ne ?_ (by omega) | exact ex_lt (by with_reducible assumption) | rw [List.length_set] | assumption)) rfl (sp_placeRead ht1) rfl (Nat.le_of_ble_eq_true rfl) ⟨by decide, by decide⟩ rfl (fun H25 r25 q25 => ?_)
    obtain ⟨rfl, rfl⟩ := q25
    refine ew_put (M := mX9_picture) dX9_picture_28 fX9_62 (by repeat (first | with_reducible assumption | refine ex_eq ?_ | refine ex_ne ?_ (by omega) | exact ex_lt (by with_reducible assumption) | rw [List.length_set] | assumption)) (by exact Nat.le_of_ble_eq_true rfl) ⟨rfl, rfl, fun _ h => by cases h⟩ ?_
    refine ew_aload_n (M := mX9_picture) dX9_picture_31 rfl (Or.inr (Or.inl ⟨_, rfl⟩)) ?_
    refine ew_get (M := mX9_picture) dX9_picture_32 fX9_10 (by repeat (first | with_reducible assumption | refine ex_eq ?_ | refine ex_ne ?_ (by omega) | exact ex_lt (by with_reducible assumption) | rw [List.length_set] | assumption)) (by rfl) ?_
    refine ew_callV (M := mX9_picture) dX9_picture_35 vX9_83 (by repeat (first | with_reducible assumption | refine ex_eq ?_ | refine ex_ne ?_ (by omega) | exact ex_lt (by with_reducible assumption) | rw [List.length_set] | assumption)) rfl (sp_clear (H := H8.set 0 (ob 9 [.ref 1, .ref 3, .ref 9, .ref 22, .ref 23, .ref 73, .ref 77, .ref 80, .ref 83, .int (nI (rd_fault S.1.2 S.1.1).2)])) (n := S.1.1) (t := S.1.2) (pl := nI (rd_fault S.1.2 S.1.1).2) (ht1.ch (L := [0]) (ex_ch.rf.set (by simp)) (by simp) (by simp))) rfl (Nat.le_of_ble_eq_true rfl) ⟨by decide, by decide⟩ rfl (fun H35 r35 q35 => ?_)
    obtain ⟨rfl, hc2, ht2⟩ := q35
    have hcA : ex_ch H H35 [0, 1, 80, 81, 82] := ((hc1.sub (by simp)).set (by simp)).tr hc2 (by simp)
    have hS2 : cl_is H35 (s_fa (s_text S (0, S.1.2)) (nI (rd_fault S.1.2 S.1.1).2)) := ⟨hc2.at (ex_eq (ex_lt k1)) (by simp), ⟨_, ht2⟩, a3.ch hcA (by simp [hiL_mem] <;> (intros; omega)) (by simp [hiL_mem] <;> (intros; omega)), ⟨fa, hcA.at a4 (by simp [hiL_mem] <;> omega), a5, a6⟩, a7.ch hcA (by simp [hiL_mem] <;> (intros; omega)) (by simp [hiL_mem] <;> (intros; omega)), a8.ch hcA (by simp [hiL_mem] <;> (intros; omega)) (by simp [hiL_mem] <;> (intros; omega)), ⟨fk, hcA.at a9 (by simp [hiL_mem] <;> omega), a10⟩, a11.ch hcA (by simp [hiL_mem] <;> (intros; omega)), a12.ch hcA (by simp [hiL_mem] <;> (intros; omega)), ⟨cw, a13.ch hcA (by simp [hiL_mem] <;> omega) (by simp [hiL_mem] <;> omega) (by simp [hiL_mem] <;> omega)⟩, (hs1.ch (L := [0]) (ex_ch.rf.set (by simp)) (by simp) (by simp) (by simp)).ch hc2 (by simp) (by simp) (by simp), a15.ch hcA (by simp [hiL_mem] <;> omega) (by simp [hiL_mem] <;> omega) (by simp [hiL_mem] <;> omega)⟩
    refine ew_iload_n (M := mX9_picture) dX9_picture_38 rfl ?_
    refine ew_if_eq (M := mX9_picture) (tgt := 47) dX9_picture_39 rfl (fun h => absurd h (nI_n0 (by omega) (by omega))) (fun _ => ?_)
    refine ew_bipush (M := mX9_picture) dX9_picture_42 (v := (-10)) (by decide) ?_
    refine ew_iload_n (M := mX9_picture) dX9_picture_44 rfl ?_
    refine ew_isub (M := mX9_picture) dX9_picture_45 ?_
    refine ew_iret (M := mX9_picture) dX9_picture_46 rfl (by first | rfl | decide) (by decide) (by decide) ?_
    exact ⟨rfl, hcA.sub (fun k hk => Or.inl (by rw [cL_mem]; simp at hk; omega)), hS2⟩
