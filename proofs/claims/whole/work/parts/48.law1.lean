abbrev mL_law (nm : String) (L : Nat) (xs : Nat → Int32) : ex_M := (⟨RL, nm, "([I)Z"⟩, cL_law, 4, some .boolean, some (L, xs))
theorem lw_feed {nm : String} {L : Nat} {xs : Nat → Int32} {post : ex_H → Option Value → Prop} {t : Nat} (ht : 6 * t + 6 ≤ L) (hL : L ≤ 3072) {H : ex_H} {S : SS} (hc : cl_is H S) (hm : mo_is H S) (hl : 98 ≤ H.length) (k : ∀ (H' : ex_H) (S' : SS), cl_is H' S' → mo_is H' S' → 98 ≤ H'.length → ex_W (mL_law nm L xs) 10 600000 7302250 post H' 936 [(0, .retAddr 0), (1, .ref 0), (2, .ref 86), (3, .int (nI (6 * t)))] [] (99 + t) (6137 + 6 * t)) : ex_W (mL_law nm L xs) 10 600000 7302250 post H 152 [(0, .retAddr 0), (1, .ref 0), (2, .ref 86), (3, .int (nI (6 * t)))] [] (98 + t) (6131 + 6 * t) := by
  have a0 := hc.1
  refine ew_aload_n (M := mL_law nm L xs) dL_law_152 rfl (Or.inr (Or.inl ⟨_, rfl⟩)) ?_
  refine ew_aload_n (M := mL_law nm L xs) dL_law_153 rfl (Or.inr (Or.inr ⟨_, rfl⟩)) ?_
  refine ew_iload_n (M := mL_law nm L xs) dL_law_154 rfl ?_
  refine ew_iconst (M := mL_law nm L xs) dL_law_155 (v := nI 1) (by decide) ?_
  refine ew_iadd (M := mL_law nm L xs) dL_law_156 ?_
  refine ew_sld (M := mL_law nm L xs) (6 * t + 1) dL_law_157 rfl ⟨by rw [nI_add], by omega, by omega⟩ ?_
  refine ew_callV (M := mL_law nm L xs) dL_law_158 vL_13 (by repeat (first | with_reducible assumption | refine ex_eq ?_ | refine ex_ne ?_ (by omega) | exact ex_lt (by with_reducible assumption) | rw [List.length_set] | assumption)) rfl (cs_feed hc (xs (6 * t + 1))) rfl (Nat.le_of_ble_eq_true rfl) ⟨by omega, by omega⟩ rfl (fun H158 r158 q158 => ?_)
  obtain ⟨rfl, x1, hc1⟩ := q158
  have hm1 := hm.ch x1 (fun k hk => Or.inl ((cL_mem k).mp hk))
  have hl1 := Nat.le_trans hl x1.1
  obtain ⟨R1, n1, C1, N1, hmA⟩ := id hm1
  have b86 := hmA.1
  refine ew_aload_n (M := mL_law nm L xs) dL_law_161 rfl (Or.inr (Or.inl ⟨_, rfl⟩)) ?_
  refine ew_aload_n (M := mL_law nm L xs) dL_law_162 rfl (Or.inr (Or.inr ⟨_, rfl⟩)) ?_
  refine ew_iload_n (M := mL_law nm L xs) dL_law_163 rfl ?_
  refine ew_iconst (M := mL_law nm L xs) dL_law_164 (v := nI 1) (by decide) ?_
  refine ew_iadd (M := mL_law nm L xs) dL_law_165 ?_
  refine ew_sld (M := mL_law nm L xs) (6 * t + 1) dL_law_166 rfl ⟨by rw [nI_add], by omega, by omega⟩ ?_
  refine ew_callV (M := mL_law nm L xs) dL_law_167 vL_17 (by repeat (first | with_reducible assumption | refine ex_eq ?_ | refine ex_ne ?_ (by omega) | exact ex_lt (by with_reducible assumption) | rw [List.length_set] | assumption)) rfl (ms_feed hm1 (xs (6 * t + 1))) rfl (Nat.le_of_ble_eq_true rfl) ⟨by omega, by omega⟩ rfl (fun H167 r167 q167 => ?_)
  obtain ⟨rfl, x2, hm2⟩ := q167
  have hc2 := cl_far hc1 x2 (by decide)
  have hl2 := Nat.le_trans hl1 x2.1
  refine ew_icmp_eq (M := mL_law nm L xs) (tgt := 936) dL_law_170 rfl (fun _ => ?_) (fun h => absurd rfl h)
  exact ew_cs (by omega) (by omega) (k _ _ hc2 hm2 hl2)
theorem lw_picture {nm : String} {L : Nat} {xs : Nat → Int32} {post : ex_H → Option Value → Prop} {t : Nat} (ht : 6 * t + 6 ≤ L) (hL : L ≤ 3072) {H : ex_H} {S : SS} (hc : cl_is H S) (hm : mo_is H S) (hl : 98 ≤ H.length) (k : ∀ (H' : ex_H) (S' : SS), cl_is H' S' → mo_is H' S' → 98 ≤ H'.length → ex_W (mL_law nm L xs) 10 600000 7302250 post H' 936 [(0, .retAddr 0), (1, .ref 0), (2, .ref 86), (3, .int (nI (6 * t)))] [] (99 + t) (6137 + 6 * t)) : ex_W (mL_law nm L xs) 10 600000 7302250 post H 175 [(0, .retAddr 0), (1, .ref 0), (2, .ref 86), (3, .int (nI (6 * t)))] [] (98 + t) (6131 + 6 * t) := by
  have a0 := hc.1
  refine ew_aload_n (M := mL_law nm L xs) dL_law_175 rfl (Or.inr (Or.inl ⟨_, rfl⟩)) ?_
  refine ew_callV (M := mL_law nm L xs) dL_law_176 vL_18 (by repeat (first | with_reducible assumption | refine ex_eq ?_ | refine ex_ne ?_ (by omega) | exact ex_lt (by with_reducible assumption) | rw [List.length_set] | assumption)) rfl (cs_picture hc) rfl (Nat.le_of_ble_eq_true rfl) ⟨by omega, by omega⟩ rfl (fun H176 r176 q176 => ?_)
  obtain ⟨rfl, x1, hc1⟩ := q176
  have hm1 := hm.ch x1 (fun k hk => Or.inl ((cL_mem k).mp hk))
  have hl1 := Nat.le_trans hl x1.1
  obtain ⟨R1, n1, C1, N1, hmA⟩ := id hm1
  have b86 := hmA.1
  refine ew_aload_n (M := mL_law nm L xs) dL_law_179 rfl (Or.inr (Or.inl ⟨_, rfl⟩)) ?_
  refine ew_callV (M := mL_law nm L xs) dL_law_180 vL_22 (by repeat (first | with_reducible assumption | refine ex_eq ?_ | refine ex_ne ?_ (by omega) | exact ex_lt (by with_reducible assumption) | rw [List.length_set] | assumption)) rfl (ms_picture hm1) rfl (Nat.le_of_ble_eq_true rfl) ⟨by omega, by omega⟩ rfl (fun H180 r180 q180 => ?_)
  obtain ⟨rfl, x2, hm2⟩ := q180
  have hc2 := cl_far hc1 x2 (by decide)
  have hl2 := Nat.le_trans hl1 x2.1
  refine ew_icmp_eq (M := mL_law nm L xs) (tgt := 936) dL_law_183 rfl (fun _ => ?_) (fun h => absurd rfl h)
  exact ew_cs (by omega) (by omega) (k _ _ hc2 hm2 hl2)
theorem lw_fault {nm : String} {L : Nat} {xs : Nat → Int32} {post : ex_H → Option Value → Prop} {t : Nat} (ht : 6 * t + 6 ≤ L) (hL : L ≤ 3072) {H : ex_H} {S : SS} (hc : cl_is H S) (hm : mo_is H S) (hl : 98 ≤ H.length) (k : ∀ (H' : ex_H) (S' : SS), cl_is H' S' → mo_is H' S' → 98 ≤ H'.length → ex_W (mL_law nm L xs) 10 600000 7302250 post H' 936 [(0, .retAddr 0), (1, .ref 0), (2, .ref 86), (3, .int (nI (6 * t)))] [] (99 + t) (6137 + 6 * t)) : ex_W (mL_law nm L xs) 10 600000 7302250 post H 188 [(0, .retAddr 0), (1, .ref 0), (2, .ref 86), (3, .int (nI (6 * t)))] [] (98 + t) (6131 + 6 * t) := by
  have a0 := hc.1
  refine ew_aload_n (M := mL_law nm L xs) dL_law_188 rfl (Or.inr (Or.inl ⟨_, rfl⟩)) ?_
  refine ew_callV (M := mL_law nm L xs) dL_law_189 vL_23 (by repeat (first | with_reducible assumption | refine ex_eq ?_ | refine ex_ne ?_ (by omega) | exact ex_lt (by with_reducible assumption) | rw [List.length_set] | assumption)) rfl (cs_fault hc) rfl (Nat.le_of_ble_eq_true rfl) ⟨by omega, by omega⟩ rfl (fun H189 r189 q189 => ?_)
  obtain ⟨rfl, x1, hc1⟩ := q189
  have hm1 := hm.ch x1 (fun k hk => Or.inl ((cL_mem k).mp hk))
  have hl1 := Nat.le_trans hl x1.1
  obtain ⟨R1, n1, C1, N1, hmA⟩ := id hm1
  have b86 := hmA.1
  refine ew_aload_n (M := mL_law nm L xs) dL_law_192 rfl (Or.inr (Or.inl ⟨_, rfl⟩)) ?_
  refine ew_callV (M := mL_law nm L xs) dL_law_193 vL_26 (by repeat (first | with_reducible assumption | refine ex_eq ?_ | refine ex_ne ?_ (by omega) | exact ex_lt (by with_reducible assumption) | rw [List.length_set] | assumption)) rfl (ms_fault hm1) rfl (Nat.le_of_ble_eq_true rfl) ⟨by omega, by omega⟩ rfl (fun H193 r193 q193 => ?_)
  obtain ⟨rfl, x2, hm2⟩ := q193
  have hc2 := cl_far hc1 x2 (by decide)
  have hl2 := Nat.le_trans hl1 x2.1
  refine ew_icmp_eq (M := mL_law nm L xs) (tgt := 936) dL_law_196 rfl (fun _ => ?_) (fun h => absurd rfl h)
  exact ew_cs (by omega) (by omega) (k _ _ hc2 hm2 hl2)
theorem lw_told {nm : String} {L : Nat} {xs : Nat → Int32} {post : ex_H → Option Value → Prop} {t : Nat} (ht : 6 * t + 6 ≤ L) (hL : L ≤ 3072) {H : ex_H} {S : SS} (hc : cl_is H S) (hm : mo_is H S) (hl : 98 ≤ H.length) (k : ∀ (H' : ex_H) (S' : SS), cl_is H' S' → mo_is H' S' → 98 ≤ H'.length → ex_W (mL_law nm L xs) 10 600000 7302250 post H' 936 [(0, .retAddr 0), (1, .ref 0), (2, .ref 86), (3, .int (nI (6 * t)))] [] (99 + t) (6137 + 6 * t)) : ex_W (mL_law nm L xs) 10 600000 7302250 post H 201 [(0, .retAddr 0), (1, .ref 0), (2, .ref 86), (3, .int (nI (6 * t)))] [] (98 + t) (6131 + 6 * t) := by
  have a0 := hc.1
  refine ew_aload_n (M := mL_law nm L xs) dL_law_201 rfl (Or.inr (Or.inl ⟨_, rfl⟩)) ?_
  refine ew_aload_n (M := mL_law nm L xs) dL_law_202 rfl (Or.inr (Or.inr ⟨_, rfl⟩)) ?_
  refine ew_iload_n (M := mL_law nm L xs) dL_law_203 rfl ?_
  refine ew_iconst (M := mL_law nm L xs) dL_law_204 (v := nI 1) (by decide) ?_
  refine ew_iadd (M := mL_law nm L xs) dL_law_205 ?_
  refine ew_sld (M := mL_law nm L xs) (6 * t + 1) dL_law_206 rfl ⟨by rw [nI_add], by omega, by omega⟩ ?_
  refine ew_callV (M := mL_law nm L xs) dL_law_207 vL_27 (by repeat (first | with_reducible assumption | refine ex_eq ?_ | refine ex_ne ?_ (by omega) | exact ex_lt (by with_reducible assumption) | rw [List.length_set] | assumption)) rfl (cs_told hc (xs (6 * t + 1))) rfl (Nat.le_of_ble_eq_true rfl) ⟨by omega, by omega⟩ rfl (fun H207 r207 q207 => ?_)
  obtain ⟨rfl, x1, hc1⟩ := q207
  have hm1 := hm.ch x1 (fun k hk => Or.inl ((cL_mem k).mp hk))
  have hl1 := Nat.le_trans hl x1.1
  obtain ⟨R1, n1, C1, N1, hmA⟩ := id hm1
  have b86 := hmA.1
  refine ew_aload_n (M := mL_law nm L xs) dL_law_210 rfl (Or.inr (Or.inl ⟨_, rfl⟩)) ?_
  refine ew_aload_n (M := mL_law nm L xs) dL_law_211 rfl (Or.inr (Or.inr ⟨_, rfl⟩)) ?_
  refine ew_iload_n (M := mL_law nm L xs) dL_law_212 rfl ?_
  refine ew_iconst (M := mL_law nm L xs) dL_law_213 (v := nI 1) (by decide) ?_
  refine ew_iadd (M := mL_law nm L xs) dL_law_214 ?_
  refine ew_sld (M := mL_law nm L xs) (6 * t + 1) dL_law_215 rfl ⟨by rw [nI_add], by omega, by omega⟩ ?_
  refine ew_callV (M := mL_law nm L xs) dL_law_216 vL_30 (by repeat (first | with_reducible assumption | refine ex_eq ?_ | refine ex_ne ?_ (by omega) | exact ex_lt (by with_reducible assumption) | rw [List.length_set] | assumption)) rfl (ms_told hm1 (xs (6 * t + 1))) rfl (Nat.le_of_ble_eq_true rfl) ⟨by omega, by omega⟩ rfl (fun H216 r216 q216 => ?_)
  obtain ⟨rfl, x2, hm2⟩ := q216
  have hc2 := cl_far hc1 x2 (by decide)
  have hl2 := Nat.le_trans hl1 x2.1
  refine ew_icmp_eq (M := mL_law nm L xs) (tgt := 936) dL_law_219 rfl (fun _ => ?_) (fun h => absurd rfl h)
  exact ew_cs (by omega) (by omega) (k _ _ hc2 hm2 hl2)
theorem lw_at {nm : String} {L : Nat} {xs : Nat → Int32} {post : ex_H → Option Value → Prop} {t : Nat} (ht : 6 * t + 6 ≤ L) (hL : L ≤ 3072) {H : ex_H} {S : SS} (hc : cl_is H S) (hm : mo_is H S) (hl : 98 ≤ H.length) (k : ∀ (H' : ex_H) (S' : SS), cl_is H' S' → mo_is H' S' → 98 ≤ H'.length → ex_W (mL_law nm L xs) 10 600000 7302250 post H' 936 [(0, .retAddr 0), (1, .ref 0), (2, .ref 86), (3, .int (nI (6 * t)))] [] (99 + t) (6137 + 6 * t)) : ex_W (mL_law nm L xs) 10 600000 7302250 post H 224 [(0, .retAddr 0), (1, .ref 0), (2, .ref 86), (3, .int (nI (6 * t)))] [] (98 + t) (6131 + 6 * t) := by
  have a0 := hc.1
  refine ew_aload_n (M := mL_law nm L xs) dL_law_224 rfl (Or.inr (Or.inl ⟨_, rfl⟩)) ?_
  refine ew_aload_n (M := mL_law nm L xs) dL_law_225 rfl (Or.inr (Or.inr ⟨_, rfl⟩)) ?_
  refine ew_iload_n (M := mL_law nm L xs) dL_law_226 rfl ?_
  refine ew_iconst (M := mL_law nm L xs) dL_law_227 (v := nI 1) (by decide) ?_
  refine ew_iadd (M := mL_law nm L xs) dL_law_228 ?_
  refine ew_sld (M := mL_law nm L xs) (6 * t + 1) dL_law_229 rfl ⟨by rw [nI_add], by omega, by omega⟩ ?_
  refine ew_aload_n (M := mL_law nm L xs) dL_law_230 rfl (Or.inr (Or.inr ⟨_, rfl⟩)) ?_
  refine ew_iload_n (M := mL_law nm L xs) dL_law_231 rfl ?_
  refine ew_iconst (M := mL_law nm L xs) dL_law_232 (v := nI 2) (by decide) ?_
  refine ew_iadd (M := mL_law nm L xs) dL_law_233 ?_
  refine ew_sld (M := mL_law nm L xs) (6 * t + 2) dL_law_234 rfl ⟨by rw [nI_add], by omega, by omega⟩ ?_
  refine ew_aload_n (M := mL_law nm L xs) dL_law_235 rfl (Or.inr (Or.inr ⟨_, rfl⟩)) ?_
  refine ew_iload_n (M := mL_law nm L xs) dL_law_236 rfl ?_
  refine ew_iconst (M := mL_law nm L xs) dL_law_237 (v := nI 3) (by decide) ?_
  refine ew_iadd (M := mL_law nm L xs) dL_law_238 ?_
  refine ew_sld (M := mL_law nm L xs) (6 * t + 3) dL_law_239 rfl ⟨by rw [nI_add], by omega, by omega⟩ ?_
  refine ew_callV (M := mL_law nm L xs) dL_law_240 vL_31 (by repeat (first | with_reducible assumption | refine ex_eq ?_ | refine ex_ne ?_ (by omega) | exact ex_lt (by with_reducible assumption) | rw [List.length_set] | assumption)) rfl (cs_at hc (xs (6 * t + 1)) (xs (6 * t + 2)) (xs (6 * t + 3))) rfl (Nat.le_of_ble_eq_true rfl) ⟨by omega, by omega⟩ rfl (fun H240 r240 q240 => ?_)
  obtain ⟨rfl, x1, hc1⟩ := q240
  have hm1 := hm.ch x1 (fun k hk => Or.inl ((cL_mem k).mp hk))
  have hl1 := Nat.le_trans hl x1.1
  obtain ⟨R1, n1, C1, N1, hmA⟩ := id hm1
  have b86 := hmA.1
  refine ew_aload_n (M := mL_law nm L xs) dL_law_243 rfl (Or.inr (Or.inl ⟨_, rfl⟩)) ?_
  refine ew_aload_n (M := mL_law nm L xs) dL_law_244 rfl (Or.inr (Or.inr ⟨_, rfl⟩)) ?_
  refine ew_iload_n (M := mL_law nm L xs) dL_law_245 rfl ?_
  refine ew_iconst (M := mL_law nm L xs) dL_law_246 (v := nI 1) (by decide) ?_
  refine ew_iadd (M := mL_law nm L xs) dL_law_247 ?_
  refine ew_sld (M := mL_law nm L xs) (6 * t + 1) dL_law_248 rfl ⟨by rw [nI_add], by omega, by omega⟩ ?_
  refine ew_aload_n (M := mL_law nm L xs) dL_law_249 rfl (Or.inr (Or.inr ⟨_, rfl⟩)) ?_
  refine ew_iload_n (M := mL_law nm L xs) dL_law_250 rfl ?_
  refine ew_iconst (M := mL_law nm L xs) dL_law_251 (v := nI 2) (by decide) ?_
  refine ew_iadd (M := mL_law nm L xs) dL_law_252 ?_
  refine ew_sld (M := mL_law nm L xs) (6 * t + 2) dL_law_253 rfl ⟨by rw [nI_add], by omega, by omega⟩ ?_
  refine ew_aload_n (M := mL_law nm L xs) dL_law_254 rfl (Or.inr (Or.inr ⟨_, rfl⟩)) ?_
  refine ew_iload_n (M := mL_law nm L xs) dL_law_255 rfl ?_
  refine ew_iconst (M := mL_law nm L xs) dL_law_256 (v := nI 3) (by decide) ?_
  refine ew_iadd (M := mL_law nm L xs) dL_law_257 ?_
  refine ew_sld (M := mL_law nm L xs) (6 * t + 3) dL_law_258 rfl ⟨by rw [nI_add], by omega, by omega⟩ ?_
  refine ew_callV (M := mL_law nm L xs) dL_law_259 vL_35 (by repeat (first | with_reducible assumption | refine ex_eq ?_ | refine ex_ne ?_ (by omega) | exact ex_lt (by with_reducible assumption) | rw [List.length_set] | assumption)) rfl (ms_at hm1 (xs (6 * t + 1)) (xs (6 * t + 2)) (xs (6 * t + 3))) rfl (Nat.le_of_ble_eq_true rfl) ⟨by omega, by omega⟩ rfl (fun H259 r259 q259 => ?_)
  obtain ⟨rfl, x2, hm2⟩ := q259
  have hc2 := cl_far hc1 x2 (by decide)
  have hl2 := Nat.le_trans hl1 x2.1
  refine ew_icmp_eq (M := mL_law nm L xs) (tgt := 936) dL_law_262 rfl (fun _ => ?_) (fun h => absurd rfl h)
  exact ew_cs (by omega) (by omega) (k _ _ hc2 hm2 hl2)
theorem lw_tally {nm : String} {L : Nat} {xs : Nat → Int32} {post : ex_H → Option Value → Prop} {t : Nat} (ht : 6 * t + 6 ≤ L) (hL : L ≤ 3072) {H : ex_H} {S : SS} (hc : cl_is H S) (hm : mo_is H S) (hl : 98 ≤ H.length) (k : ∀ (H' : ex_H) (S' : SS), cl_is H' S' → mo_is H' S' → 98 ≤ H'.length → ex_W (mL_law nm L xs) 10 600000 7302250 post H' 936 [(0, .retAddr 0), (1, .ref 0), (2, .ref 86), (3, .int (nI (6 * t)))] [] (99 + t) (6137 + 6 * t)) : ex_W (mL_law nm L xs) 10 600000 7302250 post H 267 [(0, .retAddr 0), (1, .ref 0), (2, .ref 86), (3, .int (nI (6 * t)))] [] (98 + t) (6131 + 6 * t) := by
  have a0 := hc.1
  refine ew_aload_n (M := mL_law nm L xs) dL_law_267 rfl (Or.inr (Or.inl ⟨_, rfl⟩)) ?_
  refine ew_aload_n (M := mL_law nm L xs) dL_law_268 rfl (Or.inr (Or.inr ⟨_, rfl⟩)) ?_
  refine ew_iload_n (M := mL_law nm L xs) dL_law_269 rfl ?_
  refine ew_iconst (M := mL_law nm L xs) dL_law_270 (v := nI 1) (by decide) ?_
  refine ew_iadd (M := mL_law nm L xs) dL_law_271 ?_
  refine ew_sld (M := mL_law nm L xs) (6 * t + 1) dL_law_272 rfl ⟨by rw [nI_add], by omega, by omega⟩ ?_
  refine ew_aload_n (M := mL_law nm L xs) dL_law_273 rfl (Or.inr (Or.inr ⟨_, rfl⟩)) ?_
  refine ew_iload_n (M := mL_law nm L xs) dL_law_274 rfl ?_
  refine ew_iconst (M := mL_law nm L xs) dL_law_275 (v := nI 2) (by decide) ?_
  refine ew_iadd (M := mL_law nm L xs) dL_law_276 ?_
  refine ew_sld (M := mL_law nm L xs) (6 * t + 2) dL_law_277 rfl ⟨by rw [nI_add], by omega, by omega⟩ ?_
  refine ew_aload_n (M := mL_law nm L xs) dL_law_278 rfl (Or.inr (Or.inr ⟨_, rfl⟩)) ?_
  refine ew_iload_n (M := mL_law nm L xs) dL_law_279 rfl ?_
  refine ew_iconst (M := mL_law nm L xs) dL_law_280 (v := nI 3) (by decide) ?_
  refine ew_iadd (M := mL_law nm L xs) dL_law_281 ?_
  refine ew_sld (M := mL_law nm L xs) (6 * t + 3) dL_law_282 rfl ⟨by rw [nI_add], by omega, by omega⟩ ?_
  refine ew_aload_n (M := mL_law nm L xs) dL_law_283 rfl (Or.inr (Or.inr ⟨_, rfl⟩)) ?_
  refine ew_iload_n (M := mL_law nm L xs) dL_law_284 rfl ?_
  refine ew_iconst (M := mL_law nm L xs) dL_law_285 (v := nI 4) (by decide) ?_
  refine ew_iadd (M := mL_law nm L xs) dL_law_286 ?_
  refine ew_sld (M := mL_law nm L xs) (6 * t + 4) dL_law_287 rfl ⟨by rw [nI_add], by omega, by omega⟩ ?_
  refine ew_aload_n (M := mL_law nm L xs) dL_law_288 rfl (Or.inr (Or.inr ⟨_, rfl⟩)) ?_
  refine ew_iload_n (M := mL_law nm L xs) dL_law_289 rfl ?_
  refine ew_iconst (M := mL_law nm L xs) dL_law_290 (v := nI 5) (by decide) ?_
  refine ew_iadd (M := mL_law nm L xs) dL_law_291 ?_
  refine ew_sld (M := mL_law nm L xs) (6 * t + 5) dL_law_292 rfl ⟨by rw [nI_add], by omega, by omega⟩ ?_
  refine ew_callV (M := mL_law nm L xs) dL_law_293 vL_36 (by repeat (first | with_reducible assumption | refine ex_eq ?_ | refine ex_ne ?_ (by omega) | exact ex_lt (by with_reducible assumption) | rw [List.length_set] | assumption)) rfl (cs_tally hc (xs (6 * t + 1)) (xs (6 * t + 2)) (xs (6 * t + 3)) (xs (6 * t + 4)) (xs (6 * t + 5))) rfl (Nat.le_of_ble_eq_true rfl) ⟨by omega, by omega⟩ rfl (fun H293 r293 q293 => ?_)
  obtain ⟨rfl, x1, hc1⟩ := q293
  have hm1 := hm.ch x1 (fun k hk => Or.inl ((cL_mem k).mp hk))
  have hl1 := Nat.le_trans hl x1.1
  obtain ⟨R1, n1, C1, N1, hmA⟩ := id hm1
  have b86 := hmA.1
  refine ew_aload_n (M := mL_law nm L xs) dL_law_296 rfl (Or.inr (Or.inl ⟨_, rfl⟩)) ?_
  refine ew_aload_n (M := mL_law nm L xs) dL_law_297 rfl (Or.inr (Or.inr ⟨_, rfl⟩)) ?_
  refine ew_iload_n (M := mL_law nm L xs) dL_law_298 rfl ?_
  refine ew_iconst (M := mL_law nm L xs) dL_law_299 (v := nI 1) (by decide) ?_
  refine ew_iadd (M := mL_law nm L xs) dL_law_300 ?_
  refine ew_sld (M := mL_law nm L xs) (6 * t + 1) dL_law_301 rfl ⟨by rw [nI_add], by omega, by omega⟩ ?_
  refine ew_aload_n (M := mL_law nm L xs) dL_law_302 rfl (Or.inr (Or.inr ⟨_, rfl⟩)) ?_
  refine ew_iload_n (M := mL_law nm L xs) dL_law_303 rfl ?_
  refine ew_iconst (M := mL_law nm L xs) dL_law_304 (v := nI 2) (by decide) ?_
  refine ew_iadd (M := mL_law nm L xs) dL_law_305 ?_
  refine ew_sld (M := mL_law nm L xs) (6 * t + 2) dL_law_306 rfl ⟨by rw [nI_add], by omega, by omega⟩ ?_
  refine ew_aload_n (M := mL_law nm L xs) dL_law_307 rfl (Or.inr (Or.inr ⟨_, rfl⟩)) ?_
  refine ew_iload_n (M := mL_law nm L xs) dL_law_308 rfl ?_
  refine ew_iconst (M := mL_law nm L xs) dL_law_309 (v := nI 3) (by decide) ?_
  refine ew_iadd (M := mL_law nm L xs) dL_law_310 ?_
  refine ew_sld (M := mL_law nm L xs) (6 * t + 3) dL_law_311 rfl ⟨by rw [nI_add], by omega, by omega⟩ ?_
  refine ew_aload_n (M := mL_law nm L xs) dL_law_312 rfl (Or.inr (Or.inr ⟨_, rfl⟩)) ?_
  refine ew_iload_n (M := mL_law nm L xs) dL_law_313 rfl ?_
  refine ew_iconst (M := mL_law nm L xs) dL_law_314 (v := nI 4) (by decide) ?_
  refine ew_iadd (M := mL_law nm L xs) dL_law_315 ?_
  refine ew_sld (M := mL_law nm L xs) (6 * t + 4) dL_law_316 rfl ⟨by rw [nI_add], by omega, by omega⟩ ?_
  refine ew_aload_n (M := mL_law nm L xs) dL_law_317 rfl (Or.inr (Or.inr ⟨_, rfl⟩)) ?_
  refine ew_iload_n (M := mL_law nm L xs) dL_law_318 rfl ?_
  refine ew_iconst (M := mL_law nm L xs) dL_law_319 (v := nI 5) (by decide) ?_
  refine ew_iadd (M := mL_law nm L xs) dL_law_320 ?_
  refine ew_sld (M := mL_law nm L xs) (6 * t + 5) dL_law_321 rfl ⟨by rw [nI_add], by omega, by omega⟩ ?_
  refine ew_callV (M := mL_law nm L xs) dL_law_322 vL_40 (by repeat (first | with_reducible assumption | refine ex_eq ?_ | refine ex_ne ?_ (by omega) | exact ex_lt (by with_reducible assumption) | rw [List.length_set] | assumption)) rfl (ms_tally hm1 (xs (6 * t + 1)) (xs (6 * t + 2)) (xs (6 * t + 3)) (xs (6 * t + 4)) (xs (6 * t + 5))) rfl (Nat.le_of_ble_eq_true rfl) ⟨by omega, by omega⟩ rfl (fun H322 r322 q322 => ?_)
  obtain ⟨rfl, x2, hm2⟩ := q322
  have hc2 := cl_far hc1 x2 (by decide)
  have hl2 := Nat.le_trans hl1 x2.1
  refine ew_icmp_eq (M := mL_law nm L xs) (tgt := 936) dL_law_325 rfl (fun _ => ?_) (fun h => absurd rfl h)
  exact ew_cs (by omega) (by omega) (k _ _ hc2 hm2 hl2)
theorem lw_filter {nm : String} {L : Nat} {xs : Nat → Int32} {post : ex_H → Option Value → Prop} {t : Nat} (ht : 6 * t + 6 ≤ L) (hL : L ≤ 3072) {H : ex_H} {S : SS} (hc : cl_is H S) (hm : mo_is H S) (hl : 98 ≤ H.length) (k : ∀ (H' : ex_H) (S' : SS), cl_is H' S' → mo_is H' S' → 98 ≤ H'.length → ex_W (mL_law nm L xs) 10 600000 7302250 post H' 936 [(0, .retAddr 0), (1, .ref 0), (2, .ref 86), (3, .int (nI (6 * t)))] [] (99 + t) (6137 + 6 * t)) : ex_W (mL_law nm L xs) 10 600000 7302250 post H 330 [(0, .retAddr 0), (1, .ref 0), (2, .ref 86), (3, .int (nI (6 * t)))] [] (98 + t) (6131 + 6 * t) := by
  have a0 := hc.1
  refine ew_aload_n (M := mL_law nm L xs) dL_law_330 rfl (Or.inr (Or.inl ⟨_, rfl⟩)) ?_
  refine ew_aload_n (M := mL_law nm L xs) dL_law_331 rfl (Or.inr (Or.inr ⟨_, rfl⟩)) ?_
  refine ew_iload_n (M := mL_law nm L xs) dL_law_332 rfl ?_
  refine ew_iconst (M := mL_law nm L xs) dL_law_333 (v := nI 1) (by decide) ?_
  refine ew_iadd (M := mL_law nm L xs) dL_law_334 ?_
  refine ew_sld (M := mL_law nm L xs) (6 * t + 1) dL_law_335 rfl ⟨by rw [nI_add], by omega, by omega⟩ ?_
  refine ew_aload_n (M := mL_law nm L xs) dL_law_336 rfl (Or.inr (Or.inr ⟨_, rfl⟩)) ?_
  refine ew_iload_n (M := mL_law nm L xs) dL_law_337 rfl ?_
  refine ew_iconst (M := mL_law nm L xs) dL_law_338 (v := nI 2) (by decide) ?_
  refine ew_iadd (M := mL_law nm L xs) dL_law_339 ?_
  refine ew_sld (M := mL_law nm L xs) (6 * t + 2) dL_law_340 rfl ⟨by rw [nI_add], by omega, by omega⟩ ?_
  refine ew_aload_n (M := mL_law nm L xs) dL_law_341 rfl (Or.inr (Or.inr ⟨_, rfl⟩)) ?_
  refine ew_iload_n (M := mL_law nm L xs) dL_law_342 rfl ?_
  refine ew_iconst (M := mL_law nm L xs) dL_law_343 (v := nI 3) (by decide) ?_
  refine ew_iadd (M := mL_law nm L xs) dL_law_344 ?_
  refine ew_sld (M := mL_law nm L xs) (6 * t + 3) dL_law_345 rfl ⟨by rw [nI_add], by omega, by omega⟩ ?_
  refine ew_aload_n (M := mL_law nm L xs) dL_law_346 rfl (Or.inr (Or.inr ⟨_, rfl⟩)) ?_
  refine ew_iload_n (M := mL_law nm L xs) dL_law_347 rfl ?_
  refine ew_iconst (M := mL_law nm L xs) dL_law_348 (v := nI 4) (by decide) ?_
  refine ew_iadd (M := mL_law nm L xs) dL_law_349 ?_
  refine ew_sld (M := mL_law nm L xs) (6 * t + 4) dL_law_350 rfl ⟨by rw [nI_add], by omega, by omega⟩ ?_
  refine ew_aload_n (M := mL_law nm L xs) dL_law_351 rfl (Or.inr (Or.inr ⟨_, rfl⟩)) ?_
  refine ew_iload_n (M := mL_law nm L xs) dL_law_352 rfl ?_
  refine ew_iconst (M := mL_law nm L xs) dL_law_353 (v := nI 5) (by decide) ?_
  refine ew_iadd (M := mL_law nm L xs) dL_law_354 ?_
  refine ew_sld (M := mL_law nm L xs) (6 * t + 5) dL_law_355 rfl ⟨by rw [nI_add], by omega, by omega⟩ ?_
  refine ew_callV (M := mL_law nm L xs) dL_law_356 vL_41 (by repeat (first | with_reducible assumption | refine ex_eq ?_ | refine ex_ne ?_ (by omega) | exact ex_lt (by with_reducible assumption) | rw [List.length_set] | assumption)) rfl (cs_filter hc hl (xs (6 * t + 1)) (xs (6 * t + 2)) (xs (6 * t + 3)) (xs (6 * t + 4)) (xs (6 * t + 5))) rfl (Nat.le_of_ble_eq_true rfl) ⟨by omega, by omega⟩ rfl (fun H356 r356 q356 => ?_)
  obtain ⟨rfl, x1, hc1⟩ := q356
  have hm1 := hm.ch x1 (fun k hk => Or.inl ((cL_mem k).mp hk))
  have hl1 := Nat.le_trans hl x1.1
  obtain ⟨R1, n1, C1, N1, hmA⟩ := id hm1
  have b86 := hmA.1
  refine ew_aload_n (M := mL_law nm L xs) dL_law_359 rfl (Or.inr (Or.inl ⟨_, rfl⟩)) ?_
  refine ew_aload_n (M := mL_law nm L xs) dL_law_360 rfl (Or.inr (Or.inr ⟨_, rfl⟩)) ?_
  refine ew_iload_n (M := mL_law nm L xs) dL_law_361 rfl ?_
  refine ew_iconst (M := mL_law nm L xs) dL_law_362 (v := nI 1) (by decide) ?_
  refine ew_iadd (M := mL_law nm L xs) dL_law_363 ?_
  refine ew_sld (M := mL_law nm L xs) (6 * t + 1) dL_law_364 rfl ⟨by rw [nI_add], by omega, by omega⟩ ?_
  refine ew_aload_n (M := mL_law nm L xs) dL_law_365 rfl (Or.inr (Or.inr ⟨_, rfl⟩)) ?_
  refine ew_iload_n (M := mL_law nm L xs) dL_law_366 rfl ?_
  refine ew_iconst (M := mL_law nm L xs) dL_law_367 (v := nI 2) (by decide) ?_
  refine ew_iadd (M := mL_law nm L xs) dL_law_368 ?_
  refine ew_sld (M := mL_law nm L xs) (6 * t + 2) dL_law_369 rfl ⟨by rw [nI_add], by omega, by omega⟩ ?_
  refine ew_aload_n (M := mL_law nm L xs) dL_law_370 rfl (Or.inr (Or.inr ⟨_, rfl⟩)) ?_
  refine ew_iload_n (M := mL_law nm L xs) dL_law_371 rfl ?_
  refine ew_iconst (M := mL_law nm L xs) dL_law_372 (v := nI 3) (by decide) ?_
  refine ew_iadd (M := mL_law nm L xs) dL_law_373 ?_
  refine ew_sld (M := mL_law nm L xs) (6 * t + 3) dL_law_374 rfl ⟨by rw [nI_add], by omega, by omega⟩ ?_
  refine ew_aload_n (M := mL_law nm L xs) dL_law_375 rfl (Or.inr (Or.inr ⟨_, rfl⟩)) ?_
  refine ew_iload_n (M := mL_law nm L xs) dL_law_376 rfl ?_
  refine ew_iconst (M := mL_law nm L xs) dL_law_377 (v := nI 4) (by decide) ?_
  refine ew_iadd (M := mL_law nm L xs) dL_law_378 ?_
  refine ew_sld (M := mL_law nm L xs) (6 * t + 4) dL_law_379 rfl ⟨by rw [nI_add], by omega, by omega⟩ ?_
  refine ew_aload_n (M := mL_law nm L xs) dL_law_380 rfl (Or.inr (Or.inr ⟨_, rfl⟩)) ?_
  refine ew_iload_n (M := mL_law nm L xs) dL_law_381 rfl ?_
  refine ew_iconst (M := mL_law nm L xs) dL_law_382 (v := nI 5) (by decide) ?_
  refine ew_iadd (M := mL_law nm L xs) dL_law_383 ?_
  refine ew_sld (M := mL_law nm L xs) (6 * t + 5) dL_law_384 rfl ⟨by rw [nI_add], by omega, by omega⟩ ?_
  refine ew_callV (M := mL_law nm L xs) dL_law_385 vL_44 (by repeat (first | with_reducible assumption | refine ex_eq ?_ | refine ex_ne ?_ (by omega) | exact ex_lt (by with_reducible assumption) | rw [List.length_set] | assumption)) rfl (ms_filter hm1 (xs (6 * t + 1)) (xs (6 * t + 2)) (xs (6 * t + 3)) (xs (6 * t + 4)) (xs (6 * t + 5))) rfl (Nat.le_of_ble_eq_true rfl) ⟨by omega, by omega⟩ rfl (fun H385 r385 q385 => ?_)
  obtain ⟨rfl, x2, hm2⟩ := q385
  have hc2 := cl_far hc1 x2 (by decide)
  have hl2 := Nat.le_trans hl1 x2.1
  refine ew_icmp_eq (M := mL_law nm L xs) (tgt := 936) dL_law_388 rfl (fun _ => ?_) (fun h => absurd rfl h)
  exact ew_cs (by omega) (by omega) (k _ _ hc2 hm2 hl2)
theorem lw_drop {nm : String} {L : Nat} {xs : Nat → Int32} {post : ex_H → Option Value → Prop} {t : Nat} (ht : 6 * t + 6 ≤ L) (hL : L ≤ 3072) {H : ex_H} {S : SS} (hc : cl_is H S) (hm : mo_is H S) (hl : 98 ≤ H.length) (k : ∀ (H' : ex_H) (S' : SS), cl_is H' S' → mo_is H' S' → 98 ≤ H'.length → ex_W (mL_law nm L xs) 10 600000 7302250 post H' 936 [(0, .retAddr 0), (1, .ref 0), (2, .ref 86), (3, .int (nI (6 * t)))] [] (99 + t) (6137 + 6 * t)) : ex_W (mL_law nm L xs) 10 600000 7302250 post H 393 [(0, .retAddr 0), (1, .ref 0), (2, .ref 86), (3, .int (nI (6 * t)))] [] (98 + t) (6131 + 6 * t) := by
  have a0 := hc.1
  refine ew_aload_n (M := mL_law nm L xs) dL_law_393 rfl (Or.inr (Or.inl ⟨_, rfl⟩)) ?_
  refine ew_aload_n (M := mL_law nm L xs) dL_law_394 rfl (Or.inr (Or.inr ⟨_, rfl⟩)) ?_
  refine ew_iload_n (M := mL_law nm L xs) dL_law_395 rfl ?_
  refine ew_iconst (M := mL_law nm L xs) dL_law_396 (v := nI 1) (by decide) ?_
  refine ew_iadd (M := mL_law nm L xs) dL_law_397 ?_
  refine ew_sld (M := mL_law nm L xs) (6 * t + 1) dL_law_398 rfl ⟨by rw [nI_add], by omega, by omega⟩ ?_
  refine ew_callV (M := mL_law nm L xs) dL_law_399 vL_45 (by repeat (first | with_reducible assumption | refine ex_eq ?_ | refine ex_ne ?_ (by omega) | exact ex_lt (by with_reducible assumption) | rw [List.length_set] | assumption)) rfl (cs_drop hc (xs (6 * t + 1))) rfl (Nat.le_of_ble_eq_true rfl) ⟨by omega, by omega⟩ rfl (fun H399 r399 q399 => ?_)
  obtain ⟨rfl, x1, hc1⟩ := q399
  have hm1 := hm.ch x1 (fun k hk => Or.inl ((cL_mem k).mp hk))
  have hl1 := Nat.le_trans hl x1.1
  obtain ⟨R1, n1, C1, N1, hmA⟩ := id hm1
  have b86 := hmA.1
  refine ew_aload_n (M := mL_law nm L xs) dL_law_402 rfl (Or.inr (Or.inl ⟨_, rfl⟩)) ?_
  refine ew_aload_n (M := mL_law nm L xs) dL_law_403 rfl (Or.inr (Or.inr ⟨_, rfl⟩)) ?_
  refine ew_iload_n (M := mL_law nm L xs) dL_law_404 rfl ?_
  refine ew_iconst (M := mL_law nm L xs) dL_law_405 (v := nI 1) (by decide) ?_
  refine ew_iadd (M := mL_law nm L xs) dL_law_406 ?_
  refine ew_sld (M := mL_law nm L xs) (6 * t + 1) dL_law_407 rfl ⟨by rw [nI_add], by omega, by omega⟩ ?_
  refine ew_callV (M := mL_law nm L xs) dL_law_408 vL_48 (by repeat (first | with_reducible assumption | refine ex_eq ?_ | refine ex_ne ?_ (by omega) | exact ex_lt (by with_reducible assumption) | rw [List.length_set] | assumption)) rfl (ms_drop hm1 (xs (6 * t + 1))) rfl (Nat.le_of_ble_eq_true rfl) ⟨by omega, by omega⟩ rfl (fun H408 r408 q408 => ?_)
  obtain ⟨rfl, x2, hm2⟩ := q408
  have hc2 := cl_far hc1 x2 (by decide)
  have hl2 := Nat.le_trans hl1 x2.1
  refine ew_icmp_eq (M := mL_law nm L xs) (tgt := 936) dL_law_411 rfl (fun _ => ?_) (fun h => absurd rfl h)
  exact ew_cs (by omega) (by omega) (k _ _ hc2 hm2 hl2)
theorem lw_fill {nm : String} {L : Nat} {xs : Nat → Int32} {post : ex_H → Option Value → Prop} {t : Nat} (ht : 6 * t + 6 ≤ L) (hL : L ≤ 3072) {H : ex_H} {S : SS} (hc : cl_is H S) (hm : mo_is H S) (hl : 98 ≤ H.length) (k : ∀ (H' : ex_H) (S' : SS), cl_is H' S' → mo_is H' S' → 98 ≤ H'.length → ex_W (mL_law nm L xs) 10 600000 7302250 post H' 936 [(0, .retAddr 0), (1, .ref 0), (2, .ref 86), (3, .int (nI (6 * t)))] [] (99 + t) (6137 + 6 * t)) : ex_W (mL_law nm L xs) 10 600000 7302250 post H 416 [(0, .retAddr 0), (1, .ref 0), (2, .ref 86), (3, .int (nI (6 * t)))] [] (98 + t) (6131 + 6 * t) := by
  have a0 := hc.1
  refine ew_aload_n (M := mL_law nm L xs) dL_law_416 rfl (Or.inr (Or.inl ⟨_, rfl⟩)) ?_
  refine ew_aload_n (M := mL_law nm L xs) dL_law_417 rfl (Or.inr (Or.inr ⟨_, rfl⟩)) ?_
  refine ew_iload_n (M := mL_law nm L xs) dL_law_418 rfl ?_
  refine ew_iconst (M := mL_law nm L xs) dL_law_419 (v := nI 1) (by decide) ?_
  refine ew_iadd (M := mL_law nm L xs) dL_law_420 ?_
  refine ew_sld (M := mL_law nm L xs) (6 * t + 1) dL_law_421 rfl ⟨by rw [nI_add], by omega, by omega⟩ ?_
  refine ew_callV (M := mL_law nm L xs) dL_law_422 vL_49 (by repeat (first | with_reducible assumption | refine ex_eq ?_ | refine ex_ne ?_ (by omega) | exact ex_lt (by with_reducible assumption) | rw [List.length_set] | assumption)) rfl (cs_fill hc (xs (6 * t + 1))) rfl (Nat.le_of_ble_eq_true rfl) ⟨by omega, by omega⟩ rfl (fun H422 r422 q422 => ?_)
  obtain ⟨rfl, x1, hc1⟩ := q422
  have hm1 := hm.ch x1 (fun k hk => Or.inl ((cL_mem k).mp hk))
  have hl1 := Nat.le_trans hl x1.1
  obtain ⟨R1, n1, C1, N1, hmA⟩ := id hm1
  have b86 := hmA.1
  refine ew_aload_n (M := mL_law nm L xs) dL_law_425 rfl (Or.inr (Or.inl ⟨_, rfl⟩)) ?_
  refine ew_aload_n (M := mL_law nm L xs) dL_law_426 rfl (Or.inr (Or.inr ⟨_, rfl⟩)) ?_
  refine ew_iload_n (M := mL_law nm L xs) dL_law_427 rfl ?_
  refine ew_iconst (M := mL_law nm L xs) dL_law_428 (v := nI 1) (by decide) ?_
  refine ew_iadd (M := mL_law nm L xs) dL_law_429 ?_
  refine ew_sld (M := mL_law nm L xs) (6 * t + 1) dL_law_430 rfl ⟨by rw [nI_add], by omega, by omega⟩ ?_
  refine ew_callV (M := mL_law nm L xs) dL_law_431 vL_52 (by repeat (first | with_reducible assumption | refine ex_eq ?_ | refine ex_ne ?_ (by omega) | exact ex_lt (by with_reducible assumption) | rw [List.length_set] | assumption)) rfl (ms_fill hm1 (xs (6 * t + 1))) rfl (Nat.le_of_ble_eq_true rfl) ⟨by omega, by omega⟩ rfl (fun H431 r431 q431 => ?_)
  obtain ⟨rfl, x2, hm2⟩ := q431
  have hc2 := cl_far hc1 x2 (by decide)
  have hl2 := Nat.le_trans hl1 x2.1
  refine ew_icmp_eq (M := mL_law nm L xs) (tgt := 936) dL_law_434 rfl (fun _ => ?_) (fun h => absurd rfl h)
  exact ew_cs (by omega) (by omega) (k _ _ hc2 hm2 hl2)
theorem lw_would {nm : String} {L : Nat} {xs : Nat → Int32} {post : ex_H → Option Value → Prop} {t : Nat} (ht : 6 * t + 6 ≤ L) (hL : L ≤ 3072) {H : ex_H} {S : SS} (hc : cl_is H S) (hm : mo_is H S) (hl : 98 ≤ H.length) (k : ∀ (H' : ex_H) (S' : SS), cl_is H' S' → mo_is H' S' → 98 ≤ H'.length → ex_W (mL_law nm L xs) 10 600000 7302250 post H' 936 [(0, .retAddr 0), (1, .ref 0), (2, .ref 86), (3, .int (nI (6 * t)))] [] (99 + t) (6137 + 6 * t)) : ex_W (mL_law nm L xs) 10 600000 7302250 post H 439 [(0, .retAddr 0), (1, .ref 0), (2, .ref 86), (3, .int (nI (6 * t)))] [] (98 + t) (6131 + 6 * t) := by
  have a0 := hc.1
  refine ew_aload_n (M := mL_law nm L xs) dL_law_439 rfl (Or.inr (Or.inl ⟨_, rfl⟩)) ?_
  refine ew_aload_n (M := mL_law nm L xs) dL_law_440 rfl (Or.inr (Or.inr ⟨_, rfl⟩)) ?_
  refine ew_iload_n (M := mL_law nm L xs) dL_law_441 rfl ?_
  refine ew_iconst (M := mL_law nm L xs) dL_law_442 (v := nI 1) (by decide) ?_
  refine ew_iadd (M := mL_law nm L xs) dL_law_443 ?_
  refine ew_sld (M := mL_law nm L xs) (6 * t + 1) dL_law_444 rfl ⟨by rw [nI_add], by omega, by omega⟩ ?_
  refine ew_aload_n (M := mL_law nm L xs) dL_law_445 rfl (Or.inr (Or.inr ⟨_, rfl⟩)) ?_
  refine ew_iload_n (M := mL_law nm L xs) dL_law_446 rfl ?_
  refine ew_iconst (M := mL_law nm L xs) dL_law_447 (v := nI 2) (by decide) ?_
  refine ew_iadd (M := mL_law nm L xs) dL_law_448 ?_
  refine ew_sld (M := mL_law nm L xs) (6 * t + 2) dL_law_449 rfl ⟨by rw [nI_add], by omega, by omega⟩ ?_
  refine ew_aload_n (M := mL_law nm L xs) dL_law_450 rfl (Or.inr (Or.inr ⟨_, rfl⟩)) ?_
  refine ew_iload_n (M := mL_law nm L xs) dL_law_451 rfl ?_
  refine ew_iconst (M := mL_law nm L xs) dL_law_452 (v := nI 3) (by decide) ?_
  refine ew_iadd (M := mL_law nm L xs) dL_law_453 ?_
  refine ew_sld (M := mL_law nm L xs) (6 * t + 3) dL_law_454 rfl ⟨by rw [nI_add], by omega, by omega⟩ ?_
  refine ew_aload_n (M := mL_law nm L xs) dL_law_455 rfl (Or.inr (Or.inr ⟨_, rfl⟩)) ?_
  refine ew_iload_n (M := mL_law nm L xs) dL_law_456 rfl ?_
  refine ew_iconst (M := mL_law nm L xs) dL_law_457 (v := nI 4) (by decide) ?_
  refine ew_iadd (M := mL_law nm L xs) dL_law_458 ?_
  refine ew_sld (M := mL_law nm L xs) (6 * t + 4) dL_law_459 rfl ⟨by rw [nI_add], by omega, by omega⟩ ?_
  refine ew_callV (M := mL_law nm L xs) dL_law_460 vL_53 (by repeat (first | with_reducible assumption | refine ex_eq ?_ | refine ex_ne ?_ (by omega) | exact ex_lt (by with_reducible assumption) | rw [List.length_set] | assumption)) rfl (cs_would hc (xs (6 * t + 1)) (xs (6 * t + 2)) (xs (6 * t + 3)) (xs (6 * t + 4))) rfl (Nat.le_of_ble_eq_true rfl) ⟨by omega, by omega⟩ rfl (fun H460 r460 q460 => ?_)
  obtain ⟨rfl, x1, hc1⟩ := q460
  have hm1 := hm.ch x1 (fun k hk => Or.inl ((cL_mem k).mp hk))
  have hl1 := Nat.le_trans hl x1.1
  obtain ⟨R1, n1, C1, N1, hmA⟩ := id hm1
  have b86 := hmA.1
  refine ew_aload_n (M := mL_law nm L xs) dL_law_463 rfl (Or.inr (Or.inl ⟨_, rfl⟩)) ?_
  refine ew_aload_n (M := mL_law nm L xs) dL_law_464 rfl (Or.inr (Or.inr ⟨_, rfl⟩)) ?_
  refine ew_iload_n (M := mL_law nm L xs) dL_law_465 rfl ?_
  refine ew_iconst (M := mL_law nm L xs) dL_law_466 (v := nI 1) (by decide) ?_
  refine ew_iadd (M := mL_law nm L xs) dL_law_467 ?_
  refine ew_sld (M := mL_law nm L xs) (6 * t + 1) dL_law_468 rfl ⟨by rw [nI_add], by omega, by omega⟩ ?_
  refine ew_aload_n (M := mL_law nm L xs) dL_law_469 rfl (Or.inr (Or.inr ⟨_, rfl⟩)) ?_
  refine ew_iload_n (M := mL_law nm L xs) dL_law_470 rfl ?_
  refine ew_iconst (M := mL_law nm L xs) dL_law_471 (v := nI 2) (by decide) ?_
  refine ew_iadd (M := mL_law nm L xs) dL_law_472 ?_
  refine ew_sld (M := mL_law nm L xs) (6 * t + 2) dL_law_473 rfl ⟨by rw [nI_add], by omega, by omega⟩ ?_
  refine ew_aload_n (M := mL_law nm L xs) dL_law_474 rfl (Or.inr (Or.inr ⟨_, rfl⟩)) ?_
  refine ew_iload_n (M := mL_law nm L xs) dL_law_475 rfl ?_
  refine ew_iconst (M := mL_law nm L xs) dL_law_476 (v := nI 3) (by decide) ?_
  refine ew_iadd (M := mL_law nm L xs) dL_law_477 ?_
  refine ew_sld (M := mL_law nm L xs) (6 * t + 3) dL_law_478 rfl ⟨by rw [nI_add], by omega, by omega⟩ ?_
  refine ew_aload_n (M := mL_law nm L xs) dL_law_479 rfl (Or.inr (Or.inr ⟨_, rfl⟩)) ?_
  refine ew_iload_n (M := mL_law nm L xs) dL_law_480 rfl ?_
  refine ew_iconst (M := mL_law nm L xs) dL_law_481 (v := nI 4) (by decide) ?_
  refine ew_iadd (M := mL_law nm L xs) dL_law_482 ?_
  refine ew_sld (M := mL_law nm L xs) (6 * t + 4) dL_law_483 rfl ⟨by rw [nI_add], by omega, by omega⟩ ?_
  refine ew_callV (M := mL_law nm L xs) dL_law_484 vL_57 (by repeat (first | with_reducible assumption | refine ex_eq ?_ | refine ex_ne ?_ (by omega) | exact ex_lt (by with_reducible assumption) | rw [List.length_set] | assumption)) rfl (ms_would hm1 (xs (6 * t + 1)) (xs (6 * t + 2)) (xs (6 * t + 3)) (xs (6 * t + 4))) rfl (Nat.le_of_ble_eq_true rfl) ⟨by omega, by omega⟩ rfl (fun H484 r484 q484 => ?_)
  obtain ⟨rfl, x2, hm2⟩ := q484
  have hc2 := cl_far hc1 x2 (by decide)
  have hl2 := Nat.le_trans hl1 x2.1
  refine ew_icmp_eq (M := mL_law nm L xs) (tgt := 936) dL_law_487 rfl (fun _ => ?_) (fun h => absurd rfl h)
  exact ew_cs (by omega) (by omega) (k _ _ hc2 hm2 hl2)
theorem lw_bins {nm : String} {L : Nat} {xs : Nat → Int32} {post : ex_H → Option Value → Prop} {t : Nat} (ht : 6 * t + 6 ≤ L) (hL : L ≤ 3072) {H : ex_H} {S : SS} (hc : cl_is H S) (hm : mo_is H S) (hl : 98 ≤ H.length) (k : ∀ (H' : ex_H) (S' : SS), cl_is H' S' → mo_is H' S' → 98 ≤ H'.length → ex_W (mL_law nm L xs) 10 600000 7302250 post H' 936 [(0, .retAddr 0), (1, .ref 0), (2, .ref 86), (3, .int (nI (6 * t)))] [] (99 + t) (6137 + 6 * t)) : ex_W (mL_law nm L xs) 10 600000 7302250 post H 492 [(0, .retAddr 0), (1, .ref 0), (2, .ref 86), (3, .int (nI (6 * t)))] [] (98 + t) (6131 + 6 * t) := by
  have a0 := hc.1
  refine ew_aload_n (M := mL_law nm L xs) dL_law_492 rfl (Or.inr (Or.inl ⟨_, rfl⟩)) ?_
  refine ew_aload_n (M := mL_law nm L xs) dL_law_493 rfl (Or.inr (Or.inr ⟨_, rfl⟩)) ?_
  refine ew_iload_n (M := mL_law nm L xs) dL_law_494 rfl ?_
  refine ew_iconst (M := mL_law nm L xs) dL_law_495 (v := nI 1) (by decide) ?_
  refine ew_iadd (M := mL_law nm L xs) dL_law_496 ?_
  refine ew_sld (M := mL_law nm L xs) (6 * t + 1) dL_law_497 rfl ⟨by rw [nI_add], by omega, by omega⟩ ?_
  refine ew_callV (M := mL_law nm L xs) dL_law_498 vL_58 (by repeat (first | with_reducible assumption | refine ex_eq ?_ | refine ex_ne ?_ (by omega) | exact ex_lt (by with_reducible assumption) | rw [List.length_set] | assumption)) rfl (cs_bins hc (xs (6 * t + 1))) rfl (Nat.le_of_ble_eq_true rfl) ⟨by omega, by omega⟩ rfl (fun H498 r498 q498 => ?_)
  obtain ⟨rfl, x1, hc1⟩ := q498
  have hm1 := hm.ch x1 (fun k hk => Or.inl ((cL_mem k).mp hk))
  have hl1 := Nat.le_trans hl x1.1
  obtain ⟨R1, n1, C1, N1, hmA⟩ := id hm1
  have b86 := hmA.1
  refine ew_aload_n (M := mL_law nm L xs) dL_law_501 rfl (Or.inr (Or.inl ⟨_, rfl⟩)) ?_
  refine ew_aload_n (M := mL_law nm L xs) dL_law_502 rfl (Or.inr (Or.inr ⟨_, rfl⟩)) ?_
  refine ew_iload_n (M := mL_law nm L xs) dL_law_503 rfl ?_
  refine ew_iconst (M := mL_law nm L xs) dL_law_504 (v := nI 1) (by decide) ?_
  refine ew_iadd (M := mL_law nm L xs) dL_law_505 ?_
  refine ew_sld (M := mL_law nm L xs) (6 * t + 1) dL_law_506 rfl ⟨by rw [nI_add], by omega, by omega⟩ ?_
  refine ew_callV (M := mL_law nm L xs) dL_law_507 vL_61 (by repeat (first | with_reducible assumption | refine ex_eq ?_ | refine ex_ne ?_ (by omega) | exact ex_lt (by with_reducible assumption) | rw [List.length_set] | assumption)) rfl (ms_bins hm1 (xs (6 * t + 1))) rfl (Nat.le_of_ble_eq_true rfl) ⟨by omega, by omega⟩ rfl (fun H507 r507 q507 => ?_)
  obtain ⟨rfl, x2, hm2⟩ := q507
  have hc2 := cl_far hc1 x2 (by decide)
  have hl2 := Nat.le_trans hl1 x2.1
  refine ew_icmp_eq (M := mL_law nm L xs) (tgt := 936) dL_law_510 rfl (fun _ => ?_) (fun h => absurd rfl h)
  exact ew_cs (by omega) (by omega) (k _ _ hc2 hm2 hl2)
theorem lw_spikes {nm : String} {L : Nat} {xs : Nat → Int32} {post : ex_H → Option Value → Prop} {t : Nat} (ht : 6 * t + 6 ≤ L) (hL : L ≤ 3072) {H : ex_H} {S : SS} (hc : cl_is H S) (hm : mo_is H S) (hl : 98 ≤ H.length) (k : ∀ (H' : ex_H) (S' : SS), cl_is H' S' → mo_is H' S' → 98 ≤ H'.length → ex_W (mL_law nm L xs) 10 600000 7302250 post H' 936 [(0, .retAddr 0), (1, .ref 0), (2, .ref 86), (3, .int (nI (6 * t)))] [] (99 + t) (6137 + 6 * t)) : ex_W (mL_law nm L xs) 10 600000 7302250 post H 515 [(0, .retAddr 0), (1, .ref 0), (2, .ref 86), (3, .int (nI (6 * t)))] [] (98 + t) (6131 + 6 * t) := by
  have a0 := hc.1
  refine ew_aload_n (M := mL_law nm L xs) dL_law_515 rfl (Or.inr (Or.inl ⟨_, rfl⟩)) ?_
  refine ew_aload_n (M := mL_law nm L xs) dL_law_516 rfl (Or.inr (Or.inr ⟨_, rfl⟩)) ?_
  refine ew_iload_n (M := mL_law nm L xs) dL_law_517 rfl ?_
  refine ew_iconst (M := mL_law nm L xs) dL_law_518 (v := nI 1) (by decide) ?_
  refine ew_iadd (M := mL_law nm L xs) dL_law_519 ?_
  refine ew_sld (M := mL_law nm L xs) (6 * t + 1) dL_law_520 rfl ⟨by rw [nI_add], by omega, by omega⟩ ?_
  refine ew_aload_n (M := mL_law nm L xs) dL_law_521 rfl (Or.inr (Or.inr ⟨_, rfl⟩)) ?_
  refine ew_iload_n (M := mL_law nm L xs) dL_law_522 rfl ?_
  refine ew_iconst (M := mL_law nm L xs) dL_law_523 (v := nI 2) (by decide) ?_
  refine ew_iadd (M := mL_law nm L xs) dL_law_524 ?_
  refine ew_sld (M := mL_law nm L xs) (6 * t + 2) dL_law_525 rfl ⟨by rw [nI_add], by omega, by omega⟩ ?_
  refine ew_callV (M := mL_law nm L xs) dL_law_526 vL_62 (by repeat (first | with_reducible assumption | refine ex_eq ?_ | refine ex_ne ?_ (by omega) | exact ex_lt (by with_reducible assumption) | rw [List.length_set] | assumption)) rfl (cs_spikes hc (xs (6 * t + 1)) (xs (6 * t + 2))) rfl (Nat.le_of_ble_eq_true rfl) ⟨by omega, by omega⟩ rfl (fun H526 r526 q526 => ?_)
  obtain ⟨rfl, x1, hc1⟩ := q526
  have hm1 := hm.ch x1 (fun k hk => Or.inl ((cL_mem k).mp hk))
  have hl1 := Nat.le_trans hl x1.1
  obtain ⟨R1, n1, C1, N1, hmA⟩ := id hm1
  have b86 := hmA.1
  refine ew_aload_n (M := mL_law nm L xs) dL_law_529 rfl (Or.inr (Or.inl ⟨_, rfl⟩)) ?_
  refine ew_aload_n (M := mL_law nm L xs) dL_law_530 rfl (Or.inr (Or.inr ⟨_, rfl⟩)) ?_
  refine ew_iload_n (M := mL_law nm L xs) dL_law_531 rfl ?_
  refine ew_iconst (M := mL_law nm L xs) dL_law_532 (v := nI 1) (by decide) ?_
  refine ew_iadd (M := mL_law nm L xs) dL_law_533 ?_
  refine ew_sld (M := mL_law nm L xs) (6 * t + 1) dL_law_534 rfl ⟨by rw [nI_add], by omega, by omega⟩ ?_
  refine ew_aload_n (M := mL_law nm L xs) dL_law_535 rfl (Or.inr (Or.inr ⟨_, rfl⟩)) ?_
  refine ew_iload_n (M := mL_law nm L xs) dL_law_536 rfl ?_
  refine ew_iconst (M := mL_law nm L xs) dL_law_537 (v := nI 2) (by decide) ?_
  refine ew_iadd (M := mL_law nm L xs) dL_law_538 ?_
  refine ew_sld (M := mL_law nm L xs) (6 * t + 2) dL_law_539 rfl ⟨by rw [nI_add], by omega, by omega⟩ ?_
  refine ew_callV (M := mL_law nm L xs) dL_law_540 vL_66 (by repeat (first | with_reducible assumption | refine ex_eq ?_ | refine ex_ne ?_ (by omega) | exact ex_lt (by with_reducible assumption) | rw [List.length_set] | assumption)) rfl (ms_spikes hm1 (xs (6 * t + 1)) (xs (6 * t + 2))) rfl (Nat.le_of_ble_eq_true rfl) ⟨by omega, by omega⟩ rfl (fun H540 r540 q540 => ?_)
  obtain ⟨rfl, x2, hm2⟩ := q540
  have hc2 := cl_far hc1 x2 (by decide)
  have hl2 := Nat.le_trans hl1 x2.1
  refine ew_icmp_eq (M := mL_law nm L xs) (tgt := 936) dL_law_543 rfl (fun _ => ?_) (fun h => absurd rfl h)
  exact ew_cs (by omega) (by omega) (k _ _ hc2 hm2 hl2)
theorem lw_dot {nm : String} {L : Nat} {xs : Nat → Int32} {post : ex_H → Option Value → Prop} {t : Nat} (ht : 6 * t + 6 ≤ L) (hL : L ≤ 3072) {H : ex_H} {S : SS} (hc : cl_is H S) (hm : mo_is H S) (hl : 98 ≤ H.length) (k : ∀ (H' : ex_H) (S' : SS), cl_is H' S' → mo_is H' S' → 98 ≤ H'.length → ex_W (mL_law nm L xs) 10 600000 7302250 post H' 936 [(0, .retAddr 0), (1, .ref 0), (2, .ref 86), (3, .int (nI (6 * t)))] [] (99 + t) (6137 + 6 * t)) : ex_W (mL_law nm L xs) 10 600000 7302250 post H 548 [(0, .retAddr 0), (1, .ref 0), (2, .ref 86), (3, .int (nI (6 * t)))] [] (98 + t) (6131 + 6 * t) := by
  have a0 := hc.1
  refine ew_aload_n (M := mL_law nm L xs) dL_law_548 rfl (Or.inr (Or.inl ⟨_, rfl⟩)) ?_
  refine ew_aload_n (M := mL_law nm L xs) dL_law_549 rfl (Or.inr (Or.inr ⟨_, rfl⟩)) ?_
  refine ew_iload_n (M := mL_law nm L xs) dL_law_550 rfl ?_
  refine ew_iconst (M := mL_law nm L xs) dL_law_551 (v := nI 1) (by decide) ?_
  refine ew_iadd (M := mL_law nm L xs) dL_law_552 ?_
  refine ew_sld (M := mL_law nm L xs) (6 * t + 1) dL_law_553 rfl ⟨by rw [nI_add], by omega, by omega⟩ ?_
  refine ew_aload_n (M := mL_law nm L xs) dL_law_554 rfl (Or.inr (Or.inr ⟨_, rfl⟩)) ?_
  refine ew_iload_n (M := mL_law nm L xs) dL_law_555 rfl ?_
  refine ew_iconst (M := mL_law nm L xs) dL_law_556 (v := nI 2) (by decide) ?_
  refine ew_iadd (M := mL_law nm L xs) dL_law_557 ?_
  refine ew_sld (M := mL_law nm L xs) (6 * t + 2) dL_law_558 rfl ⟨by rw [nI_add], by omega, by omega⟩ ?_
  refine ew_aload_n (M := mL_law nm L xs) dL_law_559 rfl (Or.inr (Or.inr ⟨_, rfl⟩)) ?_
  refine ew_iload_n (M := mL_law nm L xs) dL_law_560 rfl ?_
  refine ew_iconst (M := mL_law nm L xs) dL_law_561 (v := nI 3) (by decide) ?_
  refine ew_iadd (M := mL_law nm L xs) dL_law_562 ?_
  refine ew_sld (M := mL_law nm L xs) (6 * t + 3) dL_law_563 rfl ⟨by rw [nI_add], by omega, by omega⟩ ?_
  refine ew_callV (M := mL_law nm L xs) dL_law_564 vL_67 (by repeat (first | with_reducible assumption | refine ex_eq ?_ | refine ex_ne ?_ (by omega) | exact ex_lt (by with_reducible assumption) | rw [List.length_set] | assumption)) rfl (cs_dot hc (xs (6 * t + 1)) (xs (6 * t + 2)) (xs (6 * t + 3))) rfl (Nat.le_of_ble_eq_true rfl) ⟨by omega, by omega⟩ rfl (fun H564 r564 q564 => ?_)
  obtain ⟨rfl, x1, hc1⟩ := q564
  have hm1 := hm.ch x1 (fun k hk => Or.inl ((cL_mem k).mp hk))
  have hl1 := Nat.le_trans hl x1.1
  obtain ⟨R1, n1, C1, N1, hmA⟩ := id hm1
  have b86 := hmA.1
  refine ew_aload_n (M := mL_law nm L xs) dL_law_567 rfl (Or.inr (Or.inl ⟨_, rfl⟩)) ?_
  refine ew_aload_n (M := mL_law nm L xs) dL_law_568 rfl (Or.inr (Or.inr ⟨_, rfl⟩)) ?_
  refine ew_iload_n (M := mL_law nm L xs) dL_law_569 rfl ?_
  refine ew_iconst (M := mL_law nm L xs) dL_law_570 (v := nI 1) (by decide) ?_
  refine ew_iadd (M := mL_law nm L xs) dL_law_571 ?_
  refine ew_sld (M := mL_law nm L xs) (6 * t + 1) dL_law_572 rfl ⟨by rw [nI_add], by omega, by omega⟩ ?_
  refine ew_aload_n (M := mL_law nm L xs) dL_law_573 rfl (Or.inr (Or.inr ⟨_, rfl⟩)) ?_
  refine ew_iload_n (M := mL_law nm L xs) dL_law_574 rfl ?_
  refine ew_iconst (M := mL_law nm L xs) dL_law_575 (v := nI 2) (by decide) ?_
  refine ew_iadd (M := mL_law nm L xs) dL_law_576 ?_
  refine ew_sld (M := mL_law nm L xs) (6 * t + 2) dL_law_577 rfl ⟨by rw [nI_add], by omega, by omega⟩ ?_
  refine ew_aload_n (M := mL_law nm L xs) dL_law_578 rfl (Or.inr (Or.inr ⟨_, rfl⟩)) ?_
  refine ew_iload_n (M := mL_law nm L xs) dL_law_579 rfl ?_
  refine ew_iconst (M := mL_law nm L xs) dL_law_580 (v := nI 3) (by decide) ?_
  refine ew_iadd (M := mL_law nm L xs) dL_law_581 ?_
  refine ew_sld (M := mL_law nm L xs) (6 * t + 3) dL_law_582 rfl ⟨by rw [nI_add], by omega, by omega⟩ ?_
  refine ew_callV (M := mL_law nm L xs) dL_law_583 vL_70 (by repeat (first | with_reducible assumption | refine ex_eq ?_ | refine ex_ne ?_ (by omega) | exact ex_lt (by with_reducible assumption) | rw [List.length_set] | assumption)) rfl (ms_dot hm1 (xs (6 * t + 1)) (xs (6 * t + 2)) (xs (6 * t + 3))) rfl (Nat.le_of_ble_eq_true rfl) ⟨by omega, by omega⟩ rfl (fun H583 r583 q583 => ?_)
  obtain ⟨rfl, x2, hm2⟩ := q583
  have hc2 := cl_far hc1 x2 (by decide)
  have hl2 := Nat.le_trans hl1 x2.1
  refine ew_icmp_eq (M := mL_law nm L xs) (tgt := 936) dL_law_586 rfl (fun _ => ?_) (fun h => absurd rfl h)
  exact ew_cs (by omega) (by omega) (k _ _ hc2 hm2 hl2)
theorem lw_mask {nm : String} {L : Nat} {xs : Nat → Int32} {post : ex_H → Option Value → Prop} {t : Nat} (ht : 6 * t + 6 ≤ L) (hL : L ≤ 3072) {H : ex_H} {S : SS} (hc : cl_is H S) (hm : mo_is H S) (hl : 98 ≤ H.length) (k : ∀ (H' : ex_H) (S' : SS), cl_is H' S' → mo_is H' S' → 98 ≤ H'.length → ex_W (mL_law nm L xs) 10 600000 7302250 post H' 936 [(0, .retAddr 0), (1, .ref 0), (2, .ref 86), (3, .int (nI (6 * t)))] [] (99 + t) (6137 + 6 * t)) : ex_W (mL_law nm L xs) 10 600000 7302250 post H 591 [(0, .retAddr 0), (1, .ref 0), (2, .ref 86), (3, .int (nI (6 * t)))] [] (98 + t) (6131 + 6 * t) := by
  have a0 := hc.1
  by_cases hz : xs (6 * t + 3) = 0
  · refine ew_aload_n (M := mL_law nm L xs) dL_law_591 rfl (Or.inr (Or.inl ⟨_, rfl⟩)) ?_
    refine ew_aload_n (M := mL_law nm L xs) dL_law_592 rfl (Or.inr (Or.inr ⟨_, rfl⟩)) ?_
    refine ew_iload_n (M := mL_law nm L xs) dL_law_593 rfl ?_
    refine ew_iconst (M := mL_law nm L xs) dL_law_594 (v := nI 1) (by decide) ?_
    refine ew_iadd (M := mL_law nm L xs) dL_law_595 ?_
    refine ew_sld (M := mL_law nm L xs) (6 * t + 1) dL_law_596 rfl ⟨by rw [nI_add], by omega, by omega⟩ ?_
    refine ew_aload_n (M := mL_law nm L xs) dL_law_597 rfl (Or.inr (Or.inr ⟨_, rfl⟩)) ?_
    refine ew_iload_n (M := mL_law nm L xs) dL_law_598 rfl ?_
    refine ew_iconst (M := mL_law nm L xs) dL_law_599 (v := nI 2) (by decide) ?_
    refine ew_iadd (M := mL_law nm L xs) dL_law_600 ?_
    refine ew_sld (M := mL_law nm L xs) (6 * t + 2) dL_law_601 rfl ⟨by rw [nI_add], by omega, by omega⟩ ?_
    refine ew_aload_n (M := mL_law nm L xs) dL_law_602 rfl (Or.inr (Or.inr ⟨_, rfl⟩)) ?_
    refine ew_iload_n (M := mL_law nm L xs) dL_law_603 rfl ?_
    refine ew_iconst (M := mL_law nm L xs) dL_law_604 (v := nI 3) (by decide) ?_
    refine ew_iadd (M := mL_law nm L xs) dL_law_605 ?_
    refine ew_sld (M := mL_law nm L xs) (6 * t + 3) dL_law_606 rfl ⟨by rw [nI_add], by omega, by omega⟩ ?_
    refine ew_if_eq (M := mL_law nm L xs) (tgt := 614) dL_law_607 rfl (fun _ => ?_) (fun h => absurd hz h)
    refine ew_iconst (M := mL_law nm L xs) dL_law_614 (v := nI 0) (by decide) ?_
    refine ew_callV (M := mL_law nm L xs) dL_law_615 vL_71 (by repeat (first | with_reducible assumption | refine ex_eq ?_ | refine ex_ne ?_ (by omega) | exact ex_lt (by with_reducible assumption) | rw [List.length_set] | assumption)) rfl (cs_mask hc (xs (6 * t + 1)) (xs (6 * t + 2)) (b := 0) (by decide)) rfl (Nat.le_of_ble_eq_true rfl) ⟨by omega, by omega⟩ rfl (fun H615 r615 q615 => ?_)
    obtain ⟨rfl, x1, hc1⟩ := q615
    have hm1 := hm.ch x1 (fun k hk => Or.inl ((cL_mem k).mp hk))
    have hl1 := Nat.le_trans hl x1.1
    obtain ⟨R1, n1, C1, N1, hmA⟩ := id hm1
    have b86 := hmA.1
    refine ew_aload_n (M := mL_law nm L xs) dL_law_618 rfl (Or.inr (Or.inl ⟨_, rfl⟩)) ?_
    refine ew_aload_n (M := mL_law nm L xs) dL_law_619 rfl (Or.inr (Or.inr ⟨_, rfl⟩)) ?_
    refine ew_iload_n (M := mL_law nm L xs) dL_law_620 rfl ?_
    refine ew_iconst (M := mL_law nm L xs) dL_law_621 (v := nI 1) (by decide) ?_
    refine ew_iadd (M := mL_law nm L xs) dL_law_622 ?_
    refine ew_sld (M := mL_law nm L xs) (6 * t + 1) dL_law_623 rfl ⟨by rw [nI_add], by omega, by omega⟩ ?_
    refine ew_aload_n (M := mL_law nm L xs) dL_law_624 rfl (Or.inr (Or.inr ⟨_, rfl⟩)) ?_
    refine ew_iload_n (M := mL_law nm L xs) dL_law_625 rfl ?_
    refine ew_iconst (M := mL_law nm L xs) dL_law_626 (v := nI 2) (by decide) ?_
    refine ew_iadd (M := mL_law nm L xs) dL_law_627 ?_
    refine ew_sld (M := mL_law nm L xs) (6 * t + 2) dL_law_628 rfl ⟨by rw [nI_add], by omega, by omega⟩ ?_
    refine ew_aload_n (M := mL_law nm L xs) dL_law_629 rfl (Or.inr (Or.inr ⟨_, rfl⟩)) ?_
    refine ew_iload_n (M := mL_law nm L xs) dL_law_630 rfl ?_
    refine ew_iconst (M := mL_law nm L xs) dL_law_631 (v := nI 3) (by decide) ?_
    refine ew_iadd (M := mL_law nm L xs) dL_law_632 ?_
    refine ew_sld (M := mL_law nm L xs) (6 * t + 3) dL_law_633 rfl ⟨by rw [nI_add], by omega, by omega⟩ ?_
    refine ew_if_eq (M := mL_law nm L xs) (tgt := 641) dL_law_634 rfl (fun _ => ?_) (fun h => absurd hz h)
    refine ew_iconst (M := mL_law nm L xs) dL_law_641 (v := nI 0) (by decide) ?_
    refine ew_callV (M := mL_law nm L xs) dL_law_642 vL_75 (by repeat (first | with_reducible assumption | refine ex_eq ?_ | refine ex_ne ?_ (by omega) | exact ex_lt (by with_reducible assumption) | rw [List.length_set] | assumption)) rfl (ms_mask hm1 (xs (6 * t + 1)) (xs (6 * t + 2)) (b := 0) (by decide)) rfl (Nat.le_of_ble_eq_true rfl) ⟨by omega, by omega⟩ rfl (fun H642 r642 q642 => ?_)
    obtain ⟨rfl, x2, hm2⟩ := q642
    have hc2 := cl_far hc1 x2 (by decide)
    have hl2 := Nat.le_trans hl1 x2.1
    refine ew_icmp_eq (M := mL_law nm L xs) (tgt := 936) dL_law_645 rfl (fun _ => ?_) (fun h => absurd rfl h)
    exact ew_cs (by omega) (by omega) (k _ _ hc2 hm2 hl2)
  · refine ew_aload_n (M := mL_law nm L xs) dL_law_591 rfl (Or.inr (Or.inl ⟨_, rfl⟩)) ?_
    refine ew_aload_n (M := mL_law nm L xs) dL_law_592 rfl (Or.inr (Or.inr ⟨_, rfl⟩)) ?_
    refine ew_iload_n (M := mL_law nm L xs) dL_law_593 rfl ?_
    refine ew_iconst (M := mL_law nm L xs) dL_law_594 (v := nI 1) (by decide) ?_
    refine ew_iadd (M := mL_law nm L xs) dL_law_595 ?_
    refine ew_sld (M := mL_law nm L xs) (6 * t + 1) dL_law_596 rfl ⟨by rw [nI_add], by omega, by omega⟩ ?_
    refine ew_aload_n (M := mL_law nm L xs) dL_law_597 rfl (Or.inr (Or.inr ⟨_, rfl⟩)) ?_
    refine ew_iload_n (M := mL_law nm L xs) dL_law_598 rfl ?_
    refine ew_iconst (M := mL_law nm L xs) dL_law_599 (v := nI 2) (by decide) ?_
    refine ew_iadd (M := mL_law nm L xs) dL_law_600 ?_
    refine ew_sld (M := mL_law nm L xs) (6 * t + 2) dL_law_601 rfl ⟨by rw [nI_add], by omega, by omega⟩ ?_
    refine ew_aload_n (M := mL_law nm L xs) dL_law_602 rfl (Or.inr (Or.inr ⟨_, rfl⟩)) ?_
    refine ew_iload_n (M := mL_law nm L xs) dL_law_603 rfl ?_
    refine ew_iconst (M := mL_law nm L xs) dL_law_604 (v := nI 3) (by decide) ?_
    refine ew_iadd (M := mL_law nm L xs) dL_law_605 ?_
    refine ew_sld (M := mL_law nm L xs) (6 * t + 3) dL_law_606 rfl ⟨by rw [nI_add], by omega, by omega⟩ ?_
    refine ew_if_eq (M := mL_law nm L xs) (tgt := 614) dL_law_607 rfl (fun h => absurd h hz) (fun _ => ?_)
    refine ew_iconst (M := mL_law nm L xs) dL_law_610 (v := nI 1) (by decide) ?_
    refine ew_goto (M := mL_law nm L xs) (tgt := 615) dL_law_611 rfl ?_
    refine ew_callV (M := mL_law nm L xs) dL_law_615 vL_71 (by repeat (first | with_reducible assumption | refine ex_eq ?_ | refine ex_ne ?_ (by omega) | exact ex_lt (by with_reducible assumption) | rw [List.length_set] | assumption)) rfl (cs_mask hc (xs (6 * t + 1)) (xs (6 * t + 2)) (b := 1) (by decide)) rfl (Nat.le_of_ble_eq_true rfl) ⟨by omega, by omega⟩ rfl (fun H615 r615 q615 => ?_)
    obtain ⟨rfl, x1, hc1⟩ := q615
    have hm1 := hm.ch x1 (fun k hk => Or.inl ((cL_mem k).mp hk))
    have hl1 := Nat.le_trans hl x1.1
    obtain ⟨R1, n1, C1, N1, hmA⟩ := id hm1
    have b86 := hmA.1
    refine ew_aload_n (M := mL_law nm L xs) dL_law_618 rfl (Or.inr (Or.inl ⟨_, rfl⟩)) ?_
    refine ew_aload_n (M := mL_law nm L xs) dL_law_619 rfl (Or.inr (Or.inr ⟨_, rfl⟩)) ?_
    refine ew_iload_n (M := mL_law nm L xs) dL_law_620 rfl ?_
    refine ew_iconst (M := mL_law nm L xs) dL_law_621 (v := nI 1) (by decide) ?_
    refine ew_iadd (M := mL_law nm L xs) dL_law_622 ?_
    refine ew_sld (M := mL_law nm L xs) (6 * t + 1) dL_law_623 rfl ⟨by rw [nI_add], by omega, by omega⟩ ?_
    refine ew_aload_n (M := mL_law nm L xs) dL_law_624 rfl (Or.inr (Or.inr ⟨_, rfl⟩)) ?_
    refine ew_iload_n (M := mL_law nm L xs) dL_law_625 rfl ?_
    refine ew_iconst (M := mL_law nm L xs) dL_law_626 (v := nI 2) (by decide) ?_
    refine ew_iadd (M := mL_law nm L xs) dL_law_627 ?_
    refine ew_sld (M := mL_law nm L xs) (6 * t + 2) dL_law_628 rfl ⟨by rw [nI_add], by omega, by omega⟩ ?_
    refine ew_aload_n (M := mL_law nm L xs) dL_law_629 rfl (Or.inr (Or.inr ⟨_, rfl⟩)) ?_
    refine ew_iload_n (M := mL_law nm L xs) dL_law_630 rfl ?_
    refine ew_iconst (M := mL_law nm L xs) dL_law_631 (v := nI 3) (by decide) ?_
    refine ew_iadd (M := mL_law nm L xs) dL_law_632 ?_
    refine ew_sld (M := mL_law nm L xs) (6 * t + 3) dL_law_633 rfl ⟨by rw [nI_add], by omega, by omega⟩ ?_
    refine ew_if_eq (M := mL_law nm L xs) (tgt := 641) dL_law_634 rfl (fun h => absurd h hz) (fun _ => ?_)
    refine ew_iconst (M := mL_law nm L xs) dL_law_637 (v := nI 1) (by decide) ?_
    refine ew_goto (M := mL_law nm L xs) (tgt := 642) dL_law_638 rfl ?_
    refine ew_callV (M := mL_law nm L xs) dL_law_642 vL_75 (by repeat (first | with_reducible assumption | refine ex_eq ?_ | refine ex_ne ?_ (by omega) | exact ex_lt (by with_reducible assumption) | rw [List.length_set] | assumption)) rfl (ms_mask hm1 (xs (6 * t + 1)) (xs (6 * t + 2)) (b := 1) (by decide)) rfl (Nat.le_of_ble_eq_true rfl) ⟨by omega, by omega⟩ rfl (fun H642 r642 q642 => ?_)
    obtain ⟨rfl, x2, hm2⟩ := q642
    have hc2 := cl_far hc1 x2 (by decide)
    have hl2 := Nat.le_trans hl1 x2.1
    refine ew_icmp_eq (M := mL_law nm L xs) (tgt := 936) dL_law_645 rfl (fun _ => ?_) (fun h => absurd rfl h)
    exact ew_cs (by omega) (by omega) (k _ _ hc2 hm2 hl2)
theorem lw_turn {nm : String} {L : Nat} {xs : Nat → Int32} {post : ex_H → Option Value → Prop} {t : Nat} (ht : 6 * t + 6 ≤ L) (hL : L ≤ 3072) {H : ex_H} {S : SS} (hc : cl_is H S) (hm : mo_is H S) (hl : 98 ≤ H.length) (k : ∀ (H' : ex_H) (S' : SS), cl_is H' S' → mo_is H' S' → 98 ≤ H'.length → ex_W (mL_law nm L xs) 10 600000 7302250 post H' 936 [(0, .retAddr 0), (1, .ref 0), (2, .ref 86), (3, .int (nI (6 * t)))] [] (99 + t) (6137 + 6 * t)) : ex_W (mL_law nm L xs) 10 600000 7302250 post H 650 [(0, .retAddr 0), (1, .ref 0), (2, .ref 86), (3, .int (nI (6 * t)))] [] (98 + t) (6131 + 6 * t) := by
  have a0 := hc.1
  refine ew_aload_n (M := mL_law nm L xs) dL_law_650 rfl (Or.inr (Or.inl ⟨_, rfl⟩)) ?_
  refine ew_aload_n (M := mL_law nm L xs) dL_law_651 rfl (Or.inr (Or.inr ⟨_, rfl⟩)) ?_
  refine ew_iload_n (M := mL_law nm L xs) dL_law_652 rfl ?_
  refine ew_iconst (M := mL_law nm L xs) dL_law_653 (v := nI 1) (by decide) ?_
  refine ew_iadd (M := mL_law nm L xs) dL_law_654 ?_
  refine ew_sld (M := mL_law nm L xs) (6 * t + 1) dL_law_655 rfl ⟨by rw [nI_add], by omega, by omega⟩ ?_
  refine ew_callV (M := mL_law nm L xs) dL_law_656 vL_76 (by repeat (first | with_reducible assumption | refine ex_eq ?_ | refine ex_ne ?_ (by omega) | exact ex_lt (by with_reducible assumption) | rw [List.length_set] | assumption)) rfl (cs_turn hc (xs (6 * t + 1))) rfl (Nat.le_of_ble_eq_true rfl) ⟨by omega, by omega⟩ rfl (fun H656 r656 q656 => ?_)
  obtain ⟨rfl, x1, hc1⟩ := q656
  have hm1 := hm.ch x1 (fun k hk => Or.inl ((cL_mem k).mp hk))
  have hl1 := Nat.le_trans hl x1.1
  obtain ⟨R1, n1, C1, N1, hmA⟩ := id hm1
  have b86 := hmA.1
  refine ew_aload_n (M := mL_law nm L xs) dL_law_659 rfl (Or.inr (Or.inl ⟨_, rfl⟩)) ?_
  refine ew_aload_n (M := mL_law nm L xs) dL_law_660 rfl (Or.inr (Or.inr ⟨_, rfl⟩)) ?_
  refine ew_iload_n (M := mL_law nm L xs) dL_law_661 rfl ?_
  refine ew_iconst (M := mL_law nm L xs) dL_law_662 (v := nI 1) (by decide) ?_
  refine ew_iadd (M := mL_law nm L xs) dL_law_663 ?_
  refine ew_sld (M := mL_law nm L xs) (6 * t + 1) dL_law_664 rfl ⟨by rw [nI_add], by omega, by omega⟩ ?_
  refine ew_callV (M := mL_law nm L xs) dL_law_665 vL_79 (by repeat (first | with_reducible assumption | refine ex_eq ?_ | refine ex_ne ?_ (by omega) | exact ex_lt (by with_reducible assumption) | rw [List.length_set] | assumption)) rfl (ms_turn hm1 (xs (6 * t + 1))) rfl (Nat.le_of_ble_eq_true rfl) ⟨by omega, by omega⟩ rfl (fun H665 r665 q665 => ?_)
  obtain ⟨rfl, x2, hm2⟩ := q665
  have hc2 := cl_far hc1 x2 (by decide)
  have hl2 := Nat.le_trans hl1 x2.1
  refine ew_icmp_eq (M := mL_law nm L xs) (tgt := 936) dL_law_668 rfl (fun _ => ?_) (fun h => absurd rfl h)
  exact ew_cs (by omega) (by omega) (k _ _ hc2 hm2 hl2)
theorem lw_filtered {nm : String} {L : Nat} {xs : Nat → Int32} {post : ex_H → Option Value → Prop} {t : Nat} (ht : 6 * t + 6 ≤ L) (hL : L ≤ 3072) {H : ex_H} {S : SS} (hc : cl_is H S) (hm : mo_is H S) (hl : 98 ≤ H.length) (k : ∀ (H' : ex_H) (S' : SS), cl_is H' S' → mo_is H' S' → 98 ≤ H'.length → ex_W (mL_law nm L xs) 10 600000 7302250 post H' 936 [(0, .retAddr 0), (1, .ref 0), (2, .ref 86), (3, .int (nI (6 * t)))] [] (99 + t) (6137 + 6 * t)) : ex_W (mL_law nm L xs) 10 600000 7302250 post H 673 [(0, .retAddr 0), (1, .ref 0), (2, .ref 86), (3, .int (nI (6 * t)))] [] (98 + t) (6131 + 6 * t) := by
  have a0 := hc.1
  refine ew_aload_n (M := mL_law nm L xs) dL_law_673 rfl (Or.inr (Or.inl ⟨_, rfl⟩)) ?_
  refine ew_aload_n (M := mL_law nm L xs) dL_law_674 rfl (Or.inr (Or.inr ⟨_, rfl⟩)) ?_
  refine ew_iload_n (M := mL_law nm L xs) dL_law_675 rfl ?_
  refine ew_iconst (M := mL_law nm L xs) dL_law_676 (v := nI 1) (by decide) ?_
  refine ew_iadd (M := mL_law nm L xs) dL_law_677 ?_
  refine ew_sld (M := mL_law nm L xs) (6 * t + 1) dL_law_678 rfl ⟨by rw [nI_add], by omega, by omega⟩ ?_
  refine ew_callV (M := mL_law nm L xs) dL_law_679 vL_80 (by repeat (first | with_reducible assumption | refine ex_eq ?_ | refine ex_ne ?_ (by omega) | exact ex_lt (by with_reducible assumption) | rw [List.length_set] | assumption)) rfl (cs_filtered hc (xs (6 * t + 1))) rfl (Nat.le_of_ble_eq_true rfl) ⟨by omega, by omega⟩ rfl (fun H679 r679 q679 => ?_)
  obtain ⟨rfl, x1, hc1⟩ := q679
  have hm1 := hm.ch x1 (fun k hk => Or.inl ((cL_mem k).mp hk))
  have hl1 := Nat.le_trans hl x1.1
  obtain ⟨R1, n1, C1, N1, hmA⟩ := id hm1
  have b86 := hmA.1
  refine ew_aload_n (M := mL_law nm L xs) dL_law_682 rfl (Or.inr (Or.inl ⟨_, rfl⟩)) ?_
  refine ew_aload_n (M := mL_law nm L xs) dL_law_683 rfl (Or.inr (Or.inr ⟨_, rfl⟩)) ?_
  refine ew_iload_n (M := mL_law nm L xs) dL_law_684 rfl ?_
  refine ew_iconst (M := mL_law nm L xs) dL_law_685 (v := nI 1) (by decide) ?_
  refine ew_iadd (M := mL_law nm L xs) dL_law_686 ?_
  refine ew_sld (M := mL_law nm L xs) (6 * t + 1) dL_law_687 rfl ⟨by rw [nI_add], by omega, by omega⟩ ?_
  refine ew_callV (M := mL_law nm L xs) dL_law_688 vL_83 (by repeat (first | with_reducible assumption | refine ex_eq ?_ | refine ex_ne ?_ (by omega) | exact ex_lt (by with_reducible assumption) | rw [List.length_set] | assumption)) rfl (ms_filtered hm1 (xs (6 * t + 1))) rfl (Nat.le_of_ble_eq_true rfl) ⟨by omega, by omega⟩ rfl (fun H688 r688 q688 => ?_)
  obtain ⟨rfl, x2, hm2⟩ := q688
  have hc2 := cl_far hc1 x2 (by decide)
  have hl2 := Nat.le_trans hl1 x2.1
  refine ew_icmp_eq (M := mL_law nm L xs) (tgt := 936) dL_law_691 rfl (fun _ => ?_) (fun h => absurd rfl h)
  exact ew_cs (by omega) (by omega) (k _ _ hc2 hm2 hl2)
theorem lw_all {nm : String} {L : Nat} {xs : Nat → Int32} {post : ex_H → Option Value → Prop} {t : Nat} (ht : 6 * t + 6 ≤ L) (hL : L ≤ 3072) {H : ex_H} {S : SS} (hc : cl_is H S) (hm : mo_is H S) (hl : 98 ≤ H.length) (k : ∀ (H' : ex_H) (S' : SS), cl_is H' S' → mo_is H' S' → 98 ≤ H'.length → ex_W (mL_law nm L xs) 10 600000 7302250 post H' 936 [(0, .retAddr 0), (1, .ref 0), (2, .ref 86), (3, .int (nI (6 * t)))] [] (99 + t) (6137 + 6 * t)) : ex_W (mL_law nm L xs) 10 600000 7302250 post H 696 [(0, .retAddr 0), (1, .ref 0), (2, .ref 86), (3, .int (nI (6 * t)))] [] (98 + t) (6131 + 6 * t) := by
  have a0 := hc.1
  refine ew_aload_n (M := mL_law nm L xs) dL_law_696 rfl (Or.inr (Or.inl ⟨_, rfl⟩)) ?_
  refine ew_callV (M := mL_law nm L xs) dL_law_697 vL_84 (by repeat (first | with_reducible assumption | refine ex_eq ?_ | refine ex_ne ?_ (by omega) | exact ex_lt (by with_reducible assumption) | rw [List.length_set] | assumption)) rfl (cs_all hc) rfl (Nat.le_of_ble_eq_true rfl) ⟨by omega, by omega⟩ rfl (fun H697 r697 q697 => ?_)
  obtain ⟨rfl, x1, hc1⟩ := q697
  have hm1 := hm.ch x1 (fun k hk => Or.inl ((cL_mem k).mp hk))
  have hl1 := Nat.le_trans hl x1.1
  obtain ⟨R1, n1, C1, N1, hmA⟩ := id hm1
  have b86 := hmA.1
  refine ew_aload_n (M := mL_law nm L xs) dL_law_700 rfl (Or.inr (Or.inl ⟨_, rfl⟩)) ?_
  refine ew_callV (M := mL_law nm L xs) dL_law_701 vL_87 (by repeat (first | with_reducible assumption | refine ex_eq ?_ | refine ex_ne ?_ (by omega) | exact ex_lt (by with_reducible assumption) | rw [List.length_set] | assumption)) rfl (ms_all hm1) rfl (Nat.le_of_ble_eq_true rfl) ⟨by omega, by omega⟩ rfl (fun H701 r701 q701 => ?_)
  obtain ⟨rfl, x2, hm2⟩ := q701
  have hc2 := cl_far hc1 x2 (by decide)
  have hl2 := Nat.le_trans hl1 x2.1
  refine ew_icmp_eq (M := mL_law nm L xs) (tgt := 936) dL_law_704 rfl (fun _ => ?_) (fun h => absurd rfl h)
  exact ew_cs (by omega) (by omega) (k _ _ hc2 hm2 hl2)
theorem lw_until {nm : String} {L : Nat} {xs : Nat → Int32} {post : ex_H → Option Value → Prop} {t : Nat} (ht : 6 * t + 6 ≤ L) (hL : L ≤ 3072) {H : ex_H} {S : SS} (hc : cl_is H S) (hm : mo_is H S) (hl : 98 ≤ H.length) (k : ∀ (H' : ex_H) (S' : SS), cl_is H' S' → mo_is H' S' → 98 ≤ H'.length → ex_W (mL_law nm L xs) 10 600000 7302250 post H' 936 [(0, .retAddr 0), (1, .ref 0), (2, .ref 86), (3, .int (nI (6 * t)))] [] (99 + t) (6137 + 6 * t)) : ex_W (mL_law nm L xs) 10 600000 7302250 post H 709 [(0, .retAddr 0), (1, .ref 0), (2, .ref 86), (3, .int (nI (6 * t)))] [] (98 + t) (6131 + 6 * t) := by
  have a0 := hc.1
  refine ew_aload_n (M := mL_law nm L xs) dL_law_709 rfl (Or.inr (Or.inl ⟨_, rfl⟩)) ?_
  refine ew_aload_n (M := mL_law nm L xs) dL_law_710 rfl (Or.inr (Or.inr ⟨_, rfl⟩)) ?_
  refine ew_iload_n (M := mL_law nm L xs) dL_law_711 rfl ?_
  refine ew_iconst (M := mL_law nm L xs) dL_law_712 (v := nI 1) (by decide) ?_
  refine ew_iadd (M := mL_law nm L xs) dL_law_713 ?_
  refine ew_sld (M := mL_law nm L xs) (6 * t + 1) dL_law_714 rfl ⟨by rw [nI_add], by omega, by omega⟩ ?_
  refine ew_aload_n (M := mL_law nm L xs) dL_law_715 rfl (Or.inr (Or.inr ⟨_, rfl⟩)) ?_
  refine ew_iload_n (M := mL_law nm L xs) dL_law_716 rfl ?_
  refine ew_iconst (M := mL_law nm L xs) dL_law_717 (v := nI 2) (by decide) ?_
  refine ew_iadd (M := mL_law nm L xs) dL_law_718 ?_
  refine ew_sld (M := mL_law nm L xs) (6 * t + 2) dL_law_719 rfl ⟨by rw [nI_add], by omega, by omega⟩ ?_
  refine ew_callV (M := mL_law nm L xs) dL_law_720 vL_88 (by repeat (first | with_reducible assumption | refine ex_eq ?_ | refine ex_ne ?_ (by omega) | exact ex_lt (by with_reducible assumption) | rw [List.length_set] | assumption)) rfl (cs_until hc (xs (6 * t + 1)) (xs (6 * t + 2))) rfl (Nat.le_of_ble_eq_true rfl) ⟨by omega, by omega⟩ rfl (fun H720 r720 q720 => ?_)
  obtain ⟨rfl, x1, hc1⟩ := q720
  have hm1 := hm.ch x1 (fun k hk => Or.inl ((cL_mem k).mp hk))
  have hl1 := Nat.le_trans hl x1.1
  obtain ⟨R1, n1, C1, N1, hmA⟩ := id hm1
  have b86 := hmA.1
  refine ew_aload_n (M := mL_law nm L xs) dL_law_723 rfl (Or.inr (Or.inl ⟨_, rfl⟩)) ?_
  refine ew_aload_n (M := mL_law nm L xs) dL_law_724 rfl (Or.inr (Or.inr ⟨_, rfl⟩)) ?_
  refine ew_iload_n (M := mL_law nm L xs) dL_law_725 rfl ?_
  refine ew_iconst (M := mL_law nm L xs) dL_law_726 (v := nI 1) (by decide) ?_
  refine ew_iadd (M := mL_law nm L xs) dL_law_727 ?_
  refine ew_sld (M := mL_law nm L xs) (6 * t + 1) dL_law_728 rfl ⟨by rw [nI_add], by omega, by omega⟩ ?_
  refine ew_aload_n (M := mL_law nm L xs) dL_law_729 rfl (Or.inr (Or.inr ⟨_, rfl⟩)) ?_
  refine ew_iload_n (M := mL_law nm L xs) dL_law_730 rfl ?_
  refine ew_iconst (M := mL_law nm L xs) dL_law_731 (v := nI 2) (by decide) ?_
  refine ew_iadd (M := mL_law nm L xs) dL_law_732 ?_
  refine ew_sld (M := mL_law nm L xs) (6 * t + 2) dL_law_733 rfl ⟨by rw [nI_add], by omega, by omega⟩ ?_
  refine ew_callV (M := mL_law nm L xs) dL_law_734 vL_91 (by repeat (first | with_reducible assumption | refine ex_eq ?_ | refine ex_ne ?_ (by omega) | exact ex_lt (by with_reducible assumption) | rw [List.length_set] | assumption)) rfl (ms_until hm1 (xs (6 * t + 1)) (xs (6 * t + 2))) rfl (Nat.le_of_ble_eq_true rfl) ⟨by omega, by omega⟩ rfl (fun H734 r734 q734 => ?_)
  obtain ⟨rfl, x2, hm2⟩ := q734
  have hc2 := cl_far hc1 x2 (by decide)
  have hl2 := Nat.le_trans hl1 x2.1
  refine ew_icmp_eq (M := mL_law nm L xs) (tgt := 936) dL_law_737 rfl (fun _ => ?_) (fun h => absurd rfl h)
  exact ew_cs (by omega) (by omega) (k _ _ hc2 hm2 hl2)
theorem lw_noise {nm : String} {L : Nat} {xs : Nat → Int32} {post : ex_H → Option Value → Prop} {t : Nat} (ht : 6 * t + 6 ≤ L) (hL : L ≤ 3072) {H : ex_H} {S : SS} (hc : cl_is H S) (hm : mo_is H S) (hl : 98 ≤ H.length) (k : ∀ (H' : ex_H) (S' : SS), cl_is H' S' → mo_is H' S' → 98 ≤ H'.length → ex_W (mL_law nm L xs) 10 600000 7302250 post H' 936 [(0, .retAddr 0), (1, .ref 0), (2, .ref 86), (3, .int (nI (6 * t)))] [] (99 + t) (6137 + 6 * t)) : ex_W (mL_law nm L xs) 10 600000 7302250 post H 742 [(0, .retAddr 0), (1, .ref 0), (2, .ref 86), (3, .int (nI (6 * t)))] [] (98 + t) (6131 + 6 * t) := by
  have a0 := hc.1
  refine ew_aload_n (M := mL_law nm L xs) dL_law_742 rfl (Or.inr (Or.inl ⟨_, rfl⟩)) ?_
  refine ew_aload_n (M := mL_law nm L xs) dL_law_743 rfl (Or.inr (Or.inr ⟨_, rfl⟩)) ?_
  refine ew_iload_n (M := mL_law nm L xs) dL_law_744 rfl ?_
  refine ew_iconst (M := mL_law nm L xs) dL_law_745 (v := nI 1) (by decide) ?_
  refine ew_iadd (M := mL_law nm L xs) dL_law_746 ?_
  refine ew_sld (M := mL_law nm L xs) (6 * t + 1) dL_law_747 rfl ⟨by rw [nI_add], by omega, by omega⟩ ?_
  refine ew_callV (M := mL_law nm L xs) dL_law_748 vL_92 (by repeat (first | with_reducible assumption | refine ex_eq ?_ | refine ex_ne ?_ (by omega) | exact ex_lt (by with_reducible assumption) | rw [List.length_set] | assumption)) rfl (cs_noise hc (xs (6 * t + 1))) rfl (Nat.le_of_ble_eq_true rfl) ⟨by omega, by omega⟩ rfl (fun H748 r748 q748 => ?_)
  obtain ⟨rfl, x1, hc1⟩ := q748
  have hm1 := hm.ch x1 (fun k hk => Or.inl ((cL_mem k).mp hk))
  have hl1 := Nat.le_trans hl x1.1
  obtain ⟨R1, n1, C1, N1, hmA⟩ := id hm1
  have b86 := hmA.1
  refine ew_aload_n (M := mL_law nm L xs) dL_law_751 rfl (Or.inr (Or.inl ⟨_, rfl⟩)) ?_
  refine ew_aload_n (M := mL_law nm L xs) dL_law_752 rfl (Or.inr (Or.inr ⟨_, rfl⟩)) ?_
  refine ew_iload_n (M := mL_law nm L xs) dL_law_753 rfl ?_
  refine ew_iconst (M := mL_law nm L xs) dL_law_754 (v := nI 1) (by decide) ?_
  refine ew_iadd (M := mL_law nm L xs) dL_law_755 ?_
  refine ew_sld (M := mL_law nm L xs) (6 * t + 1) dL_law_756 rfl ⟨by rw [nI_add], by omega, by omega⟩ ?_
  refine ew_callV (M := mL_law nm L xs) dL_law_757 vL_95 (by repeat (first | with_reducible assumption | refine ex_eq ?_ | refine ex_ne ?_ (by omega) | exact ex_lt (by with_reducible assumption) | rw [List.length_set] | assumption)) rfl (ms_noise hm1 (xs (6 * t + 1))) rfl (Nat.le_of_ble_eq_true rfl) ⟨by omega, by omega⟩ rfl (fun H757 r757 q757 => ?_)
  obtain ⟨rfl, x2, hm2⟩ := q757
  have hc2 := cl_far hc1 x2 (by decide)
  have hl2 := Nat.le_trans hl1 x2.1
  refine ew_icmp_eq (M := mL_law nm L xs) (tgt := 936) dL_law_760 rfl (fun _ => ?_) (fun h => absurd rfl h)
  exact ew_cs (by omega) (by omega) (k _ _ hc2 hm2 hl2)
theorem lw_undo {nm : String} {L : Nat} {xs : Nat → Int32} {post : ex_H → Option Value → Prop} {t : Nat} (ht : 6 * t + 6 ≤ L) (hL : L ≤ 3072) {H : ex_H} {S : SS} (hc : cl_is H S) (hm : mo_is H S) (hl : 98 ≤ H.length) (k : ∀ (H' : ex_H) (S' : SS), cl_is H' S' → mo_is H' S' → 98 ≤ H'.length → ex_W (mL_law nm L xs) 10 600000 7302250 post H' 936 [(0, .retAddr 0), (1, .ref 0), (2, .ref 86), (3, .int (nI (6 * t)))] [] (99 + t) (6137 + 6 * t)) : ex_W (mL_law nm L xs) 10 600000 7302250 post H 765 [(0, .retAddr 0), (1, .ref 0), (2, .ref 86), (3, .int (nI (6 * t)))] [] (98 + t) (6131 + 6 * t) := by
  have a0 := hc.1
  refine ew_aload_n (M := mL_law nm L xs) dL_law_765 rfl (Or.inr (Or.inl ⟨_, rfl⟩)) ?_
  refine ew_aload_n (M := mL_law nm L xs) dL_law_766 rfl (Or.inr (Or.inr ⟨_, rfl⟩)) ?_
  refine ew_iload_n (M := mL_law nm L xs) dL_law_767 rfl ?_
  refine ew_iconst (M := mL_law nm L xs) dL_law_768 (v := nI 1) (by decide) ?_
  refine ew_iadd (M := mL_law nm L xs) dL_law_769 ?_
  refine ew_sld (M := mL_law nm L xs) (6 * t + 1) dL_law_770 rfl ⟨by rw [nI_add], by omega, by omega⟩ ?_
  refine ew_callV (M := mL_law nm L xs) dL_law_771 vL_96 (by repeat (first | with_reducible assumption | refine ex_eq ?_ | refine ex_ne ?_ (by omega) | exact ex_lt (by with_reducible assumption) | rw [List.length_set] | assumption)) rfl (cs_undo hc (xs (6 * t + 1))) rfl (Nat.le_of_ble_eq_true rfl) ⟨by omega, by omega⟩ rfl (fun H771 r771 q771 => ?_)
  obtain ⟨rfl, x1, hc1⟩ := q771
  have hm1 := hm.ch x1 (fun k hk => Or.inl ((cL_mem k).mp hk))
  have hl1 := Nat.le_trans hl x1.1
  obtain ⟨R1, n1, C1, N1, hmA⟩ := id hm1
  have b86 := hmA.1
  refine ew_aload_n (M := mL_law nm L xs) dL_law_774 rfl (Or.inr (Or.inl ⟨_, rfl⟩)) ?_
  refine ew_aload_n (M := mL_law nm L xs) dL_law_775 rfl (Or.inr (Or.inr ⟨_, rfl⟩)) ?_
  refine ew_iload_n (M := mL_law nm L xs) dL_law_776 rfl ?_
  refine ew_iconst (M := mL_law nm L xs) dL_law_777 (v := nI 1) (by decide) ?_
  refine ew_iadd (M := mL_law nm L xs) dL_law_778 ?_
  refine ew_sld (M := mL_law nm L xs) (6 * t + 1) dL_law_779 rfl ⟨by rw [nI_add], by omega, by omega⟩ ?_
  refine ew_callV (M := mL_law nm L xs) dL_law_780 vL_99 (by repeat (first | with_reducible assumption | refine ex_eq ?_ | refine ex_ne ?_ (by omega) | exact ex_lt (by with_reducible assumption) | rw [List.length_set] | assumption)) rfl (ms_undo hm1 (xs (6 * t + 1))) rfl (Nat.le_of_ble_eq_true rfl) ⟨by omega, by omega⟩ rfl (fun H780 r780 q780 => ?_)
  obtain ⟨rfl, x2, hm2⟩ := q780
  have hc2 := cl_far hc1 x2 (by decide)
  have hl2 := Nat.le_trans hl1 x2.1
  refine ew_icmp_eq (M := mL_law nm L xs) (tgt := 936) dL_law_783 rfl (fun _ => ?_) (fun h => absurd rfl h)
  exact ew_cs (by omega) (by omega) (k _ _ hc2 hm2 hl2)
theorem lw_write {nm : String} {L : Nat} {xs : Nat → Int32} {post : ex_H → Option Value → Prop} {t : Nat} (ht : 6 * t + 6 ≤ L) (hL : L ≤ 3072) {H : ex_H} {S : SS} (hc : cl_is H S) (hm : mo_is H S) (hl : 98 ≤ H.length) (k : ∀ (H' : ex_H) (S' : SS), cl_is H' S' → mo_is H' S' → 98 ≤ H'.length → ex_W (mL_law nm L xs) 10 600000 7302250 post H' 936 [(0, .retAddr 0), (1, .ref 0), (2, .ref 86), (3, .int (nI (6 * t)))] [] (99 + t) (6137 + 6 * t)) : ex_W (mL_law nm L xs) 10 600000 7302250 post H 788 [(0, .retAddr 0), (1, .ref 0), (2, .ref 86), (3, .int (nI (6 * t)))] [] (98 + t) (6131 + 6 * t) := by
  have a0 := hc.1
  refine ew_aload_n (M := mL_law nm L xs) dL_law_788 rfl (Or.inr (Or.inl ⟨_, rfl⟩)) ?_
  refine ew_aload_n (M := mL_law nm L xs) dL_law_789 rfl (Or.inr (Or.inr ⟨_, rfl⟩)) ?_
  refine ew_iload_n (M := mL_law nm L xs) dL_law_790 rfl ?_
  refine ew_iconst (M := mL_law nm L xs) dL_law_791 (v := nI 1) (by decide) ?_
  refine ew_iadd (M := mL_law nm L xs) dL_law_792 ?_
  refine ew_sld (M := mL_law nm L xs) (6 * t + 1) dL_law_793 rfl ⟨by rw [nI_add], by omega, by omega⟩ ?_
  refine ew_aload_n (M := mL_law nm L xs) dL_law_794 rfl (Or.inr (Or.inr ⟨_, rfl⟩)) ?_
  refine ew_iload_n (M := mL_law nm L xs) dL_law_795 rfl ?_
  refine ew_iconst (M := mL_law nm L xs) dL_law_796 (v := nI 2) (by decide) ?_
  refine ew_iadd (M := mL_law nm L xs) dL_law_797 ?_
  refine ew_sld (M := mL_law nm L xs) (6 * t + 2) dL_law_798 rfl ⟨by rw [nI_add], by omega, by omega⟩ ?_
  refine ew_aload_n (M := mL_law nm L xs) dL_law_799 rfl (Or.inr (Or.inr ⟨_, rfl⟩)) ?_
  refine ew_iload_n (M := mL_law nm L xs) dL_law_800 rfl ?_
  refine ew_iconst (M := mL_law nm L xs) dL_law_801 (v := nI 3) (by decide) ?_
  refine ew_iadd (M := mL_law nm L xs) dL_law_802 ?_
  refine ew_sld (M := mL_law nm L xs) (6 * t + 3) dL_law_803 rfl ⟨by rw [nI_add], by omega, by omega⟩ ?_
  refine ew_callV (M := mL_law nm L xs) dL_law_804 vL_100 (by repeat (first | with_reducible assumption | refine ex_eq ?_ | refine ex_ne ?_ (by omega) | exact ex_lt (by with_reducible assumption) | rw [List.length_set] | assumption)) rfl (cs_write hc (xs (6 * t + 1)) (xs (6 * t + 2)) (xs (6 * t + 3))) rfl (Nat.le_of_ble_eq_true rfl) ⟨by omega, by omega⟩ rfl (fun H804 r804 q804 => ?_)
  obtain ⟨rfl, x1, hc1⟩ := q804
  have hm1 := hm.ch x1 (fun k hk => Or.inl ((cL_mem k).mp hk))
  have hl1 := Nat.le_trans hl x1.1
  obtain ⟨R1, n1, C1, N1, hmA⟩ := id hm1
  have b86 := hmA.1
  refine ew_aload_n (M := mL_law nm L xs) dL_law_807 rfl (Or.inr (Or.inl ⟨_, rfl⟩)) ?_
  refine ew_aload_n (M := mL_law nm L xs) dL_law_808 rfl (Or.inr (Or.inr ⟨_, rfl⟩)) ?_
  refine ew_iload_n (M := mL_law nm L xs) dL_law_809 rfl ?_
  refine ew_iconst (M := mL_law nm L xs) dL_law_810 (v := nI 1) (by decide) ?_
  refine ew_iadd (M := mL_law nm L xs) dL_law_811 ?_
  refine ew_sld (M := mL_law nm L xs) (6 * t + 1) dL_law_812 rfl ⟨by rw [nI_add], by omega, by omega⟩ ?_
  refine ew_aload_n (M := mL_law nm L xs) dL_law_813 rfl (Or.inr (Or.inr ⟨_, rfl⟩)) ?_
  refine ew_iload_n (M := mL_law nm L xs) dL_law_814 rfl ?_
  refine ew_iconst (M := mL_law nm L xs) dL_law_815 (v := nI 2) (by decide) ?_
  refine ew_iadd (M := mL_law nm L xs) dL_law_816 ?_
  refine ew_sld (M := mL_law nm L xs) (6 * t + 2) dL_law_817 rfl ⟨by rw [nI_add], by omega, by omega⟩ ?_
  refine ew_aload_n (M := mL_law nm L xs) dL_law_818 rfl (Or.inr (Or.inr ⟨_, rfl⟩)) ?_
  refine ew_iload_n (M := mL_law nm L xs) dL_law_819 rfl ?_
  refine ew_iconst (M := mL_law nm L xs) dL_law_820 (v := nI 3) (by decide) ?_
  refine ew_iadd (M := mL_law nm L xs) dL_law_821 ?_
  refine ew_sld (M := mL_law nm L xs) (6 * t + 3) dL_law_822 rfl ⟨by rw [nI_add], by omega, by omega⟩ ?_
  refine ew_callV (M := mL_law nm L xs) dL_law_823 vL_103 (by repeat (first | with_reducible assumption | refine ex_eq ?_ | refine ex_ne ?_ (by omega) | exact ex_lt (by with_reducible assumption) | rw [List.length_set] | assumption)) rfl (ms_write hm1 (xs (6 * t + 1)) (xs (6 * t + 2)) (xs (6 * t + 3))) rfl (Nat.le_of_ble_eq_true rfl) ⟨by omega, by omega⟩ rfl (fun H823 r823 q823 => ?_)
  obtain ⟨rfl, x2, hm2⟩ := q823
  have hc2 := cl_far hc1 x2 (by decide)
  have hl2 := Nat.le_trans hl1 x2.1
  refine ew_icmp_eq (M := mL_law nm L xs) (tgt := 936) dL_law_826 rfl (fun _ => ?_) (fun h => absurd rfl h)
  exact ew_cs (by omega) (by omega) (k _ _ hc2 hm2 hl2)
theorem lw_tear {nm : String} {L : Nat} {xs : Nat → Int32} {post : ex_H → Option Value → Prop} {t : Nat} (ht : 6 * t + 6 ≤ L) (hL : L ≤ 3072) {H : ex_H} {S : SS} (hc : cl_is H S) (hm : mo_is H S) (hl : 98 ≤ H.length) (k : ∀ (H' : ex_H) (S' : SS), cl_is H' S' → mo_is H' S' → 98 ≤ H'.length → ex_W (mL_law nm L xs) 10 600000 7302250 post H' 936 [(0, .retAddr 0), (1, .ref 0), (2, .ref 86), (3, .int (nI (6 * t)))] [] (99 + t) (6137 + 6 * t)) : ex_W (mL_law nm L xs) 10 600000 7302250 post H 831 [(0, .retAddr 0), (1, .ref 0), (2, .ref 86), (3, .int (nI (6 * t)))] [] (98 + t) (6131 + 6 * t) := by
  have a0 := hc.1
  refine ew_aload_n (M := mL_law nm L xs) dL_law_831 rfl (Or.inr (Or.inl ⟨_, rfl⟩)) ?_
  refine ew_callV (M := mL_law nm L xs) dL_law_832 vL_104 (by repeat (first | with_reducible assumption | refine ex_eq ?_ | refine ex_ne ?_ (by omega) | exact ex_lt (by with_reducible assumption) | rw [List.length_set] | assumption)) rfl (cs_tear hc) rfl (Nat.le_of_ble_eq_true rfl) ⟨by omega, by omega⟩ rfl (fun H832 r832 q832 => ?_)
  obtain ⟨rfl, x1, hc1⟩ := q832
  have hm1 := hm.ch x1 (fun k hk => Or.inl ((cL_mem k).mp hk))
  have hl1 := Nat.le_trans hl x1.1
  obtain ⟨R1, n1, C1, N1, hmA⟩ := id hm1
  have b86 := hmA.1
  refine ew_aload_n (M := mL_law nm L xs) dL_law_835 rfl (Or.inr (Or.inl ⟨_, rfl⟩)) ?_
  refine ew_callV (M := mL_law nm L xs) dL_law_836 vL_107 (by repeat (first | with_reducible assumption | refine ex_eq ?_ | refine ex_ne ?_ (by omega) | exact ex_lt (by with_reducible assumption) | rw [List.length_set] | assumption)) rfl (ms_tear hm1) rfl (Nat.le_of_ble_eq_true rfl) ⟨by omega, by omega⟩ rfl (fun H836 r836 q836 => ?_)
  obtain ⟨rfl, x2, hm2⟩ := q836
  have hc2 := cl_far hc1 x2 (by decide)
  have hl2 := Nat.le_trans hl1 x2.1
  refine ew_icmp_eq (M := mL_law nm L xs) (tgt := 936) dL_law_839 rfl (fun _ => ?_) (fun h => absurd rfl h)
  exact ew_cs (by omega) (by omega) (k _ _ hc2 hm2 hl2)
theorem lw_seed {nm : String} {L : Nat} {xs : Nat → Int32} {post : ex_H → Option Value → Prop} {t : Nat} (ht : 6 * t + 6 ≤ L) (hL : L ≤ 3072) {H : ex_H} {S : SS} (hc : cl_is H S) (hm : mo_is H S) (hl : 98 ≤ H.length) (k : ∀ (H' : ex_H) (S' : SS), cl_is H' S' → mo_is H' S' → 98 ≤ H'.length → ex_W (mL_law nm L xs) 10 600000 7302250 post H' 936 [(0, .retAddr 0), (1, .ref 0), (2, .ref 86), (3, .int (nI (6 * t)))] [] (99 + t) (6137 + 6 * t)) : ex_W (mL_law nm L xs) 10 600000 7302250 post H 844 [(0, .retAddr 0), (1, .ref 0), (2, .ref 86), (3, .int (nI (6 * t)))] [] (98 + t) (6131 + 6 * t) := by
  have a0 := hc.1
  refine ew_aload_n (M := mL_law nm L xs) dL_law_844 rfl (Or.inr (Or.inl ⟨_, rfl⟩)) ?_
  refine ew_aload_n (M := mL_law nm L xs) dL_law_845 rfl (Or.inr (Or.inr ⟨_, rfl⟩)) ?_
  refine ew_iload_n (M := mL_law nm L xs) dL_law_846 rfl ?_
  refine ew_iconst (M := mL_law nm L xs) dL_law_847 (v := nI 1) (by decide) ?_
  refine ew_iadd (M := mL_law nm L xs) dL_law_848 ?_
  refine ew_sld (M := mL_law nm L xs) (6 * t + 1) dL_law_849 rfl ⟨by rw [nI_add], by omega, by omega⟩ ?_
  refine ew_callV (M := mL_law nm L xs) dL_law_850 vL_108 (by repeat (first | with_reducible assumption | refine ex_eq ?_ | refine ex_ne ?_ (by omega) | exact ex_lt (by with_reducible assumption) | rw [List.length_set] | assumption)) rfl (cs_seed hc (xs (6 * t + 1))) rfl (Nat.le_of_ble_eq_true rfl) ⟨by omega, by omega⟩ rfl (fun H850 r850 q850 => ?_)
  obtain ⟨rfl, x1, hc1⟩ := q850
  have hm1 := hm.ch x1 (fun k hk => Or.inl ((cL_mem k).mp hk))
  have hl1 := Nat.le_trans hl x1.1
  obtain ⟨R1, n1, C1, N1, hmA⟩ := id hm1
  have b86 := hmA.1
  refine ew_aload_n (M := mL_law nm L xs) dL_law_853 rfl (Or.inr (Or.inl ⟨_, rfl⟩)) ?_
  refine ew_aload_n (M := mL_law nm L xs) dL_law_854 rfl (Or.inr (Or.inr ⟨_, rfl⟩)) ?_
  refine ew_iload_n (M := mL_law nm L xs) dL_law_855 rfl ?_
  refine ew_iconst (M := mL_law nm L xs) dL_law_856 (v := nI 1) (by decide) ?_
  refine ew_iadd (M := mL_law nm L xs) dL_law_857 ?_
  refine ew_sld (M := mL_law nm L xs) (6 * t + 1) dL_law_858 rfl ⟨by rw [nI_add], by omega, by omega⟩ ?_
  refine ew_callV (M := mL_law nm L xs) dL_law_859 vL_111 (by repeat (first | with_reducible assumption | refine ex_eq ?_ | refine ex_ne ?_ (by omega) | exact ex_lt (by with_reducible assumption) | rw [List.length_set] | assumption)) rfl (ms_seed hm1 (xs (6 * t + 1))) rfl (Nat.le_of_ble_eq_true rfl) ⟨by omega, by omega⟩ rfl (fun H859 r859 q859 => ?_)
  obtain ⟨rfl, x2, hm2⟩ := q859
  have hc2 := cl_far hc1 x2 (by decide)
  have hl2 := Nat.le_trans hl1 x2.1
  refine ew_icmp_eq (M := mL_law nm L xs) (tgt := 936) dL_law_862 rfl (fun _ => ?_) (fun h => absurd rfl h)
  exact ew_cs (by omega) (by omega) (k _ _ hc2 hm2 hl2)
theorem lw_keep {nm : String} {L : Nat} {xs : Nat → Int32} {post : ex_H → Option Value → Prop} {t : Nat} (ht : 6 * t + 6 ≤ L) (hL : L ≤ 3072) {H : ex_H} {S : SS} (hc : cl_is H S) (hm : mo_is H S) (hl : 98 ≤ H.length) (k : ∀ (H' : ex_H) (S' : SS), cl_is H' S' → mo_is H' S' → 98 ≤ H'.length → ex_W (mL_law nm L xs) 10 600000 7302250 post H' 936 [(0, .retAddr 0), (1, .ref 0), (2, .ref 86), (3, .int (nI (6 * t)))] [] (99 + t) (6137 + 6 * t)) : ex_W (mL_law nm L xs) 10 600000 7302250 post H 867 [(0, .retAddr 0), (1, .ref 0), (2, .ref 86), (3, .int (nI (6 * t)))] [] (98 + t) (6131 + 6 * t) := by
  have a0 := hc.1
  refine ew_aload_n (M := mL_law nm L xs) dL_law_867 rfl (Or.inr (Or.inl ⟨_, rfl⟩)) ?_
  refine ew_aload_n (M := mL_law nm L xs) dL_law_868 rfl (Or.inr (Or.inr ⟨_, rfl⟩)) ?_
  refine ew_iload_n (M := mL_law nm L xs) dL_law_869 rfl ?_
  refine ew_iconst (M := mL_law nm L xs) dL_law_870 (v := nI 1) (by decide) ?_
  refine ew_iadd (M := mL_law nm L xs) dL_law_871 ?_
  refine ew_sld (M := mL_law nm L xs) (6 * t + 1) dL_law_872 rfl ⟨by rw [nI_add], by omega, by omega⟩ ?_
  refine ew_callV (M := mL_law nm L xs) dL_law_873 vL_112 (by repeat (first | with_reducible assumption | refine ex_eq ?_ | refine ex_ne ?_ (by omega) | exact ex_lt (by with_reducible assumption) | rw [List.length_set] | assumption)) rfl (cs_keep hc (xs (6 * t + 1))) rfl (Nat.le_of_ble_eq_true rfl) ⟨by omega, by omega⟩ rfl (fun H873 r873 q873 => ?_)
  obtain ⟨rfl, x1, hc1⟩ := q873
  have hm1 := hm.ch x1 (fun k hk => Or.inl ((cL_mem k).mp hk))
  have hl1 := Nat.le_trans hl x1.1
  obtain ⟨R1, n1, C1, N1, hmA⟩ := id hm1
  have b86 := hmA.1
  refine ew_aload_n (M := mL_law nm L xs) dL_law_876 rfl (Or.inr (Or.inl ⟨_, rfl⟩)) ?_
  refine ew_aload_n (M := mL_law nm L xs) dL_law_877 rfl (Or.inr (Or.inr ⟨_, rfl⟩)) ?_
  refine ew_iload_n (M := mL_law nm L xs) dL_law_878 rfl ?_
  refine ew_iconst (M := mL_law nm L xs) dL_law_879 (v := nI 1) (by decide) ?_
  refine ew_iadd (M := mL_law nm L xs) dL_law_880 ?_
  refine ew_sld (M := mL_law nm L xs) (6 * t + 1) dL_law_881 rfl ⟨by rw [nI_add], by omega, by omega⟩ ?_
  refine ew_callV (M := mL_law nm L xs) dL_law_882 vL_115 (by repeat (first | with_reducible assumption | refine ex_eq ?_ | refine ex_ne ?_ (by omega) | exact ex_lt (by with_reducible assumption) | rw [List.length_set] | assumption)) rfl (ms_keep hm1 (xs (6 * t + 1))) rfl (Nat.le_of_ble_eq_true rfl) ⟨by omega, by omega⟩ rfl (fun H882 r882 q882 => ?_)
  obtain ⟨rfl, x2, hm2⟩ := q882
  have hc2 := cl_far hc1 x2 (by decide)
  have hl2 := Nat.le_trans hl1 x2.1
  refine ew_icmp_eq (M := mL_law nm L xs) (tgt := 936) dL_law_885 rfl (fun _ => ?_) (fun h => absurd rfl h)
  exact ew_cs (by omega) (by omega) (k _ _ hc2 hm2 hl2)
theorem lw_goBack {nm : String} {L : Nat} {xs : Nat → Int32} {post : ex_H → Option Value → Prop} {t : Nat} (ht : 6 * t + 6 ≤ L) (hL : L ≤ 3072) {H : ex_H} {S : SS} (hc : cl_is H S) (hm : mo_is H S) (hl : 98 ≤ H.length) (k : ∀ (H' : ex_H) (S' : SS), cl_is H' S' → mo_is H' S' → 98 ≤ H'.length → ex_W (mL_law nm L xs) 10 600000 7302250 post H' 936 [(0, .retAddr 0), (1, .ref 0), (2, .ref 86), (3, .int (nI (6 * t)))] [] (99 + t) (6137 + 6 * t)) : ex_W (mL_law nm L xs) 10 600000 7302250 post H 890 [(0, .retAddr 0), (1, .ref 0), (2, .ref 86), (3, .int (nI (6 * t)))] [] (98 + t) (6131 + 6 * t) := by
  have a0 := hc.1
  refine ew_aload_n (M := mL_law nm L xs) dL_law_890 rfl (Or.inr (Or.inl ⟨_, rfl⟩)) ?_
  refine ew_aload_n (M := mL_law nm L xs) dL_law_891 rfl (Or.inr (Or.inr ⟨_, rfl⟩)) ?_
  refine ew_iload_n (M := mL_law nm L xs) dL_law_892 rfl ?_
  refine ew_iconst (M := mL_law nm L xs) dL_law_893 (v := nI 1) (by decide) ?_
  refine ew_iadd (M := mL_law nm L xs) dL_law_894 ?_
  refine ew_sld (M := mL_law nm L xs) (6 * t + 1) dL_law_895 rfl ⟨by rw [nI_add], by omega, by omega⟩ ?_
  refine ew_callV (M := mL_law nm L xs) dL_law_896 vL_116 (by repeat (first | with_reducible assumption | refine ex_eq ?_ | refine ex_ne ?_ (by omega) | exact ex_lt (by with_reducible assumption) | rw [List.length_set] | assumption)) rfl (cs_goBack hc (xs (6 * t + 1))) rfl (Nat.le_of_ble_eq_true rfl) ⟨by omega, by omega⟩ rfl (fun H896 r896 q896 => ?_)
  obtain ⟨rfl, x1, hc1⟩ := q896
  have hm1 := hm.ch x1 (fun k hk => Or.inl ((cL_mem k).mp hk))
  have hl1 := Nat.le_trans hl x1.1
  obtain ⟨R1, n1, C1, N1, hmA⟩ := id hm1
  have b86 := hmA.1
  refine ew_aload_n (M := mL_law nm L xs) dL_law_899 rfl (Or.inr (Or.inl ⟨_, rfl⟩)) ?_
  refine ew_aload_n (M := mL_law nm L xs) dL_law_900 rfl (Or.inr (Or.inr ⟨_, rfl⟩)) ?_
  refine ew_iload_n (M := mL_law nm L xs) dL_law_901 rfl ?_
  refine ew_iconst (M := mL_law nm L xs) dL_law_902 (v := nI 1) (by decide) ?_
  refine ew_iadd (M := mL_law nm L xs) dL_law_903 ?_
  refine ew_sld (M := mL_law nm L xs) (6 * t + 1) dL_law_904 rfl ⟨by rw [nI_add], by omega, by omega⟩ ?_
  refine ew_callV (M := mL_law nm L xs) dL_law_905 vL_119 (by repeat (first | with_reducible assumption | refine ex_eq ?_ | refine ex_ne ?_ (by omega) | exact ex_lt (by with_reducible assumption) | rw [List.length_set] | assumption)) rfl (ms_goBack hm1 (xs (6 * t + 1))) rfl (Nat.le_of_ble_eq_true rfl) ⟨by omega, by omega⟩ rfl (fun H905 r905 q905 => ?_)
  obtain ⟨rfl, x2, hm2⟩ := q905
  have hc2 := cl_far hc1 x2 (by decide)
  have hl2 := Nat.le_trans hl1 x2.1
  refine ew_icmp_eq (M := mL_law nm L xs) (tgt := 936) dL_law_908 rfl (fun _ => ?_) (fun h => absurd rfl h)
  exact ew_cs (by omega) (by omega) (k _ _ hc2 hm2 hl2)
theorem lw_against {nm : String} {L : Nat} {xs : Nat → Int32} {post : ex_H → Option Value → Prop} {t : Nat} (ht : 6 * t + 6 ≤ L) (hL : L ≤ 3072) {H : ex_H} {S : SS} (hc : cl_is H S) (hm : mo_is H S) (hl : 98 ≤ H.length) (k : ∀ (H' : ex_H) (S' : SS), cl_is H' S' → mo_is H' S' → 98 ≤ H'.length → ex_W (mL_law nm L xs) 10 600000 7302250 post H' 936 [(0, .retAddr 0), (1, .ref 0), (2, .ref 86), (3, .int (nI (6 * t)))] [] (99 + t) (6137 + 6 * t)) : ex_W (mL_law nm L xs) 10 600000 7302250 post H 913 [(0, .retAddr 0), (1, .ref 0), (2, .ref 86), (3, .int (nI (6 * t)))] [] (98 + t) (6131 + 6 * t) := by
  have a0 := hc.1
  refine ew_aload_n (M := mL_law nm L xs) dL_law_913 rfl (Or.inr (Or.inl ⟨_, rfl⟩)) ?_
  refine ew_aload_n (M := mL_law nm L xs) dL_law_914 rfl (Or.inr (Or.inr ⟨_, rfl⟩)) ?_
  refine ew_iload_n (M := mL_law nm L xs) dL_law_915 rfl ?_
  refine ew_iconst (M := mL_law nm L xs) dL_law_916 (v := nI 1) (by decide) ?_
  refine ew_iadd (M := mL_law nm L xs) dL_law_917 ?_
  refine ew_sld (M := mL_law nm L xs) (6 * t + 1) dL_law_918 rfl ⟨by rw [nI_add], by omega, by omega⟩ ?_
  refine ew_callV (M := mL_law nm L xs) dL_law_919 vL_120 (by repeat (first | with_reducible assumption | refine ex_eq ?_ | refine ex_ne ?_ (by omega) | exact ex_lt (by with_reducible assumption) | rw [List.length_set] | assumption)) rfl (cs_against hc (xs (6 * t + 1))) rfl (Nat.le_of_ble_eq_true rfl) ⟨by omega, by omega⟩ rfl (fun H919 r919 q919 => ?_)
  obtain ⟨rfl, x1, hc1⟩ := q919
  have hm1 := hm.ch x1 (fun k hk => Or.inl ((cL_mem k).mp hk))
  have hl1 := Nat.le_trans hl x1.1
  obtain ⟨R1, n1, C1, N1, hmA⟩ := id hm1
  have b86 := hmA.1
  refine ew_aload_n (M := mL_law nm L xs) dL_law_922 rfl (Or.inr (Or.inl ⟨_, rfl⟩)) ?_
  refine ew_aload_n (M := mL_law nm L xs) dL_law_923 rfl (Or.inr (Or.inr ⟨_, rfl⟩)) ?_
  refine ew_iload_n (M := mL_law nm L xs) dL_law_924 rfl ?_
  refine ew_iconst (M := mL_law nm L xs) dL_law_925 (v := nI 1) (by decide) ?_
  refine ew_iadd (M := mL_law nm L xs) dL_law_926 ?_
  refine ew_sld (M := mL_law nm L xs) (6 * t + 1) dL_law_927 rfl ⟨by rw [nI_add], by omega, by omega⟩ ?_
  refine ew_callV (M := mL_law nm L xs) dL_law_928 vL_123 (by repeat (first | with_reducible assumption | refine ex_eq ?_ | refine ex_ne ?_ (by omega) | exact ex_lt (by with_reducible assumption) | rw [List.length_set] | assumption)) rfl (ms_against hm1 (xs (6 * t + 1))) rfl (Nat.le_of_ble_eq_true rfl) ⟨by omega, by omega⟩ rfl (fun H928 r928 q928 => ?_)
  obtain ⟨rfl, x2, hm2⟩ := q928
  have hc2 := cl_far hc1 x2 (by decide)
  have hl2 := Nat.le_trans hl1 x2.1
  refine ew_icmp_eq (M := mL_law nm L xs) (tgt := 936) dL_law_931 rfl (fun _ => ?_) (fun h => absurd rfl h)
  exact ew_cs (by omega) (by omega) (k _ _ hc2 hm2 hl2)
