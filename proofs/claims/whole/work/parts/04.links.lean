theorem ex_tw {w : Cond} (i : Nat) (h : tables_1[i]? = some w) (hg : goodWord w = true) : w ∈ ex_g := List.mem_filter.mpr ⟨List.mem_append_right _ (List.mem_of_getElem? h), hg⟩
theorem ex_tn {w : Cond} (i : Nat) (h : tables_1[i]? = some w) : w ∈ lw_tbl := List.mem_append_right _ (List.mem_of_getElem? h)
theorem ex_ts {w : Cond} (i : Nat) (h : (k2_sels lw_privs)[i]? = some w) (hg : goodWord w = true) : w ∈ ex_g := List.mem_filter.mpr ⟨List.mem_append_left _ (List.mem_of_getElem? h), hg⟩
theorem ex_all {ws : List Cond} (h : ws.all (fun w => decide (w ∈ tables_1) && goodWord w) = true) : ∀ w ∈ ws, w ∈ ex_g := fun w hw => by
  have h1 := List.all_eq_true.mp h w hw
  rw [Bool.and_eq_true] at h1
  exact List.mem_filter.mpr ⟨List.mem_append_right _ (of_decide_eq_true h1.1), h1.2⟩
abbrev mX9_init : ex_M := (yX9_init, cX9_init, 1, none, none)
abbrev mX7_init : ex_M := (yX7_init, cX7_init, 1, none, none)
abbrev mX6_init : ex_M := (yX6_init, cX6_init, 1, none, none)
abbrev mX4_init : ex_M := (yX4_init, cX4_init, 1, none, none)
abbrev mX2_init : ex_M := (yX2_init, cX2_init, 1, none, none)
abbrev mX3_init : ex_M := (yX3_init, cX3_init, 2, none, none)
abbrev mX0_init : ex_M := (yX0_init, cX0_init, 1, none, none)
abbrev mX8_init : ex_M := (yX8_init, cX8_init, 1, none, none)
abbrev mX9_feed : ex_M := (yX9_feed, cX9_feed, 2, (some .int), none)
abbrev mX9_within : ex_M := (yX9_within, cX9_within, 3, (some .boolean), none)
abbrev mX7_append : ex_M := (yX7_append, cX7_append, 2, (some .int), none)
abbrev mX9_picture : ex_M := (yX9_picture, cX9_picture, 2, (some .int), none)
abbrev mX7_readInto : ex_M := (yX7_readInto, cX7_readInto, 5, (some .int), none)
abbrev mX5_init : ex_M := (yX5_init, cX5_init, 2, none, none)
abbrev mX5_take : ex_M := (yX5_take, cX5_take, 3, (some .int), none)
abbrev mX5_takeRowEnd : ex_M := (yX5_takeRowEnd, cX5_takeRowEnd, 2, (some .int), none)
abbrev mX4_setSize : ex_M := (yX4_setSize, cX4_setSize, 3, none, none)
abbrev mX5_signOf : ex_M := (yX5_signOf, cX5_signOf, 1, (some .int), none)
abbrev mX5_takeFirstSign : ex_M := (yX5_takeFirstSign, cX5_takeFirstSign, 2, (some .int), none)
abbrev mX5_takeSecondSign : ex_M := (yX5_takeSecondSign, cX5_takeSecondSign, 3, (some .int), none)
abbrev mX4_setInOrder : ex_M := (yX4_setInOrder, cX4_setInOrder, 4, none, none)
abbrev mX7_placeRead : ex_M := (yX7_placeRead, cX7_placeRead, 1, (some .int), none)
abbrev mX7_clear : ex_M := (yX7_clear, cX7_clear, 1, none, none)
abbrev mX3_remember : ex_M := (yX3_remember, cX3_remember, 2, none, none)
abbrev mX4_become : ex_M := (yX4_become, cX4_become, 3, none, none)
abbrev mX4_dots : ex_M := (yX4_dots, cX4_dots, 1, (some .int), none)
abbrev mX9_fault : ex_M := (yX9_fault, cX9_fault, 1, (some .int), none)
abbrev mX9_told : ex_M := (yX9_told, cX9_told, 2, (some .int), none)
abbrev mX4_maskedDots : ex_M := (yX4_maskedDots, cX4_maskedDots, 3, (some .int), none)
abbrev mX4_leastGrey : ex_M := (yX4_leastGrey, cX4_leastGrey, 3, (some .int), none)
abbrev mX4_greatestGrey : ex_M := (yX4_greatestGrey, cX4_greatestGrey, 3, (some .int), none)
abbrev mX4_greysTogether : ex_M := (yX4_greysTogether, cX4_greysTogether, 3, (some .int), none)
abbrev mX0_firstWrong : ex_M := (yX0_firstWrong, cX0_firstWrong, 3, (some .int), none)
abbrev mX4_has : ex_M := (yX4_has, cX4_has, 3, (some .boolean), none)
abbrev mX4_greyOf : ex_M := (yX4_greyOf, cX4_greyOf, 3, (some .int), none)
abbrev mX9_at : ex_M := (yX9_at, cX9_at, 4, (some .int), none)
abbrev mX4_isMasked : ex_M := (yX4_isMasked, cX4_isMasked, 3, (some .boolean), none)
abbrev mX9_tally : ex_M := (yX9_tally, cX9_tally, 6, (some .int), none)
abbrev mX4_dotsUpTo : ex_M := (yX4_dotsUpTo, cX4_dotsUpTo, 9, (some .int), none)
abbrev mX9_filter : ex_M := (yX9_filter, cX9_filter, 6, (some .int), none)
abbrev mX2_isFull : ex_M := (yX2_isFull, cX2_isFull, 1, (some .boolean), none)
abbrev mX1_init : ex_M := (yX1_init, cX1_init, 6, none, none)
abbrev mX2_add : ex_M := (yX2_add, cX2_add, 2, (some .int), none)
abbrev mX9_drop : ex_M := (yX9_drop, cX9_drop, 2, (some .int), none)
abbrev mX2_numbered : ex_M := (yX2_numbered, cX2_numbered, 2, (some (.object RX1)), none)
abbrev mX2_remove : ex_M := (yX2_remove, cX2_remove, 3, (some .int), none)
abbrev mX9_fill : ex_M := (yX9_fill, cX9_fill, 3, (some .int), none)
abbrev mX9_would : ex_M := (yX9_would, cX9_would, 6, (some .int), none)
abbrev mX8_lookAt : ex_M := (yX8_lookAt, cX8_lookAt, 7, none, none)
abbrev mJ7_fill_53178 : ex_M := (yJ7_fill_53178, cJ7_fill_53178, 4, none, none)
abbrev mX8_standingFor : ex_M := (yX8_standingFor, cX8_standingFor, 4, (some .int), none)
abbrev mJ9_floorMod_7cf53 : ex_M := (yJ9_floorMod_7cf53, cJ9_floorMod_7cf53, 3, (some .int), none)
abbrev mJ9_min_7cf53 : ex_M := (yJ9_min_7cf53, cJ9_min_7cf53, 2, (some .int), none)
abbrev mX8_countRow : ex_M := (yX8_countRow, cX8_countRow, 8, none, none)
abbrev mX8_count : ex_M := (yX8_count, cX8_count, 3, none, none)
abbrev mX8_ranked : ex_M := (yX8_ranked, cX8_ranked, 5, (some .int), none)
abbrev mX8_countedBelow : ex_M := (yX8_countedBelow, cX8_countedBelow, 4, (some .int), none)
abbrev mX8_spread : ex_M := (yX8_spread, cX8_spread, 1, (some .int), none)
abbrev mX9_bins : ex_M := (yX9_bins, cX9_bins, 7, (some .int), none)
abbrev mX9_lastOf : ex_M := (yX9_lastOf, cX9_lastOf, 4, (some .int), none)
abbrev mX9_spikes : ex_M := (yX9_spikes, cX9_spikes, 7, (some .int), none)
abbrev mJ9_abs_0f7a4 : ex_M := (yJ9_abs_0f7a4, cJ9_abs_0f7a4, 1, (some .int), none)
abbrev mX9_dot : ex_M := (yX9_dot, cX9_dot, 5, (some .int), none)
abbrev mX4_setGrey : ex_M := (yX4_setGrey, cX4_setGrey, 4, none, none)
abbrev mX9_mask : ex_M := (yX9_mask, cX9_mask, 4, (some .int), none)
abbrev mX4_setMasked : ex_M := (yX4_setMasked, cX4_setMasked, 4, none, none)
abbrev mX9_turn : ex_M := (yX9_turn, cX9_turn, 2, (some .int), none)
abbrev mX4_becomeTurned : ex_M := (yX4_becomeTurned, cX4_becomeTurned, 9, none, none)
abbrev mX9_filtered : ex_M := (yX9_filtered, cX9_filtered, 3, (some .int), none)
abbrev mX9_apply : ex_M := (yX9_apply, cX9_apply, 4, (some .int), none)
abbrev mX4_greysOtherThan : ex_M := (yX4_greysOtherThan, cX4_greysOtherThan, 4, (some .int), none)
abbrev mX9_all : ex_M := (yX9_all, cX9_all, 3, (some .int), none)
abbrev mX9_until : ex_M := (yX9_until, cX9_until, 5, (some .int), none)
abbrev mX9_noise : ex_M := (yX9_noise, cX9_noise, 3, (some .int), none)
abbrev mX6_speckle : ex_M := (yX6_speckle, cX6_speckle, 5, none, none)
abbrev mX6_draw : ex_M := (yX6_draw, cX6_draw, 2, (some .int), none)
abbrev mX9_undo : ex_M := (yX9_undo, cX9_undo, 2, (some .int), none)
abbrev mX3_takeBack : ex_M := (yX3_takeBack, cX3_takeBack, 3, none, none)
abbrev mX9_write : ex_M := (yX9_write, cX9_write, 4, (some .int), none)
abbrev mX0_add : ex_M := (yX0_add, cX0_add, 4, (some .int), none)
abbrev mX9_tear : ex_M := (yX9_tear, cX9_tear, 2, (some .int), none)
abbrev mX9_seed : ex_M := (yX9_seed, cX9_seed, 3, (some .int), none)
abbrev mX9_keep : ex_M := (yX9_keep, cX9_keep, 2, (some .int), none)
abbrev mX6_become : ex_M := (yX6_become, cX6_become, 2, none, none)
abbrev mX2_become : ex_M := (yX2_become, cX2_become, 3, none, none)
abbrev mX3_forget : ex_M := (yX3_forget, cX3_forget, 1, none, none)
abbrev mX9_goBack : ex_M := (yX9_goBack, cX9_goBack, 2, (some .int), none)
abbrev mX9_against : ex_M := (yX9_against, cX9_against, 2, (some .int), none)
abbrev mX4_dotsOtherThan : ex_M := (yX4_dotsOtherThan, cX4_dotsOtherThan, 4, (some .int), none)
abbrev mX10_init : ex_M := (yX10_init, cX10_init, 1, none, none)
abbrev mX10_feed : ex_M := (yX10_feed, cX10_feed, 2, (some .int), none)
abbrev mX10_in : ex_M := (yX10_in, cX10_in, 6, (some .boolean), none)
abbrev mX10_picture : ex_M := (yX10_picture, cX10_picture, 2, (some .int), none)
abbrev mX10_readText : ex_M := (yX10_readText, cX10_readText, 3, (some .int), none)
abbrev mX10_faultOf : ex_M := (yX10_faultOf, cX10_faultOf, 3, (some .int), none)
abbrev mX10_faultOfBreak : ex_M := (yX10_faultOfBreak, cX10_faultOfBreak, 1, (some .int), none)
abbrev mX10_isShort : ex_M := (yX10_isShort, cX10_isShort, 1, (some .boolean), none)
abbrev mX10_figure : ex_M := (yX10_figure, cX10_figure, 1, (some .int), none)
abbrev mX10_goOn : ex_M := (yX10_goOn, cX10_goOn, 2, none, none)
abbrev mX10_remember : ex_M := (yX10_remember, cX10_remember, 2, none, none)
abbrev mX10_copyRow : ex_M := (yX10_copyRow, cX10_copyRow, 4, none, none)
abbrev mX10_layPicture : ex_M := (yX10_layPicture, cX10_layPicture, 4, none, none)
abbrev mX10_place : ex_M := (yX10_place, cX10_place, 3, (some .int), none)
abbrev mX10_fault : ex_M := (yX10_fault, cX10_fault, 1, (some .int), none)
abbrev mX10_told : ex_M := (yX10_told, cX10_told, 2, (some .int), none)
abbrev mX10_masked : ex_M := (yX10_masked, cX10_masked, 4, (some .int), none)
abbrev mX10_isMasked : ex_M := (yX10_isMasked, cX10_isMasked, 3, (some .boolean), none)
abbrev mX10_ofGreys : ex_M := (yX10_ofGreys, cX10_ofGreys, 8, (some .int), none)
abbrev mX10_grey : ex_M := (yX10_grey, cX10_grey, 3, (some .int), none)
abbrev mX10_wrong : ex_M := (yX10_wrong, cX10_wrong, 2, (some .int), none)
abbrev mX10_isDot : ex_M := (yX10_isDot, cX10_isDot, 3, (some .boolean), none)
abbrev mX10_at : ex_M := (yX10_at, cX10_at, 4, (some .int), none)
abbrev mX10_tally : ex_M := (yX10_tally, cX10_tally, 9, (some .int), none)
abbrev mX10_filter : ex_M := (yX10_filter, cX10_filter, 8, (some .int), none)
abbrev mX10_drop : ex_M := (yX10_drop, cX10_drop, 3, (some .int), none)
abbrev mX10_isFilter : ex_M := (yX10_isFilter, cX10_isFilter, 2, (some .boolean), none)
abbrev mX10_fill : ex_M := (yX10_fill, cX10_fill, 3, (some .int), none)
abbrev mX10_would : ex_M := (yX10_would, cX10_would, 6, (some .int), none)
abbrev mX10_lastOf : ex_M := (yX10_lastOf, cX10_lastOf, 4, (some .int), none)
abbrev mX10_layWindow : ex_M := (yX10_layWindow, cX10_layWindow, 6, none, none)
abbrev mX10_part : ex_M := (yX10_part, cX10_part, 3, (some .int), none)
abbrev mX10_countAt : ex_M := (yX10_countAt, cX10_countAt, 7, none, none)
abbrev mX10_countOut : ex_M := (yX10_countOut, cX10_countOut, 6, none, none)
abbrev mX10_count : ex_M := (yX10_count, cX10_count, 3, none, none)
abbrev mX10_standIn : ex_M := (yX10_standIn, cX10_standIn, 4, (some .int), none)
abbrev mX10_leftOver : ex_M := (yX10_leftOver, cX10_leftOver, 2, (some .int), none)
abbrev mX10_below : ex_M := (yX10_below, cX10_below, 4, (some .int), none)
abbrev mX10_bins : ex_M := (yX10_bins, cX10_bins, 6, (some .int), none)
abbrev mX10_spikes : ex_M := (yX10_spikes, cX10_spikes, 7, (some .int), none)
abbrev mX10_dot : ex_M := (yX10_dot, cX10_dot, 5, (some .int), none)
abbrev mX10_setGrey : ex_M := (yX10_setGrey, cX10_setGrey, 4, none, none)
abbrev mX10_mask : ex_M := (yX10_mask, cX10_mask, 4, (some .int), none)
abbrev mX10_turn : ex_M := (yX10_turn, cX10_turn, 4, (some .int), none)
abbrev mX10_turnedFrom : ex_M := (yX10_turnedFrom, cX10_turnedFrom, 6, (some .int), none)
abbrev mX10_filtered : ex_M := (yX10_filtered, cX10_filtered, 2, (some .int), none)
abbrev mX10_applyNow : ex_M := (yX10_applyNow, cX10_applyNow, 5, (some .int), none)
abbrev mX10_all : ex_M := (yX10_all, cX10_all, 5, (some .int), none)
abbrev mX10_until : ex_M := (yX10_until, cX10_until, 4, (some .int), none)
abbrev mX10_noise : ex_M := (yX10_noise, cX10_noise, 6, (some .int), none)
abbrev mX10_draw : ex_M := (yX10_draw, cX10_draw, 2, (some .int), none)
abbrev mX10_undo : ex_M := (yX10_undo, cX10_undo, 3, (some .int), none)
abbrev mX10_write : ex_M := (yX10_write, cX10_write, 4, (some .int), none)
abbrev mX10_tear : ex_M := (yX10_tear, cX10_tear, 2, (some .int), none)
abbrev mX10_seed : ex_M := (yX10_seed, cX10_seed, 3, (some .int), none)
abbrev mX10_keep : ex_M := (yX10_keep, cX10_keep, 3, (some .int), none)
abbrev mX10_goBack : ex_M := (yX10_goBack, cX10_goBack, 3, (some .int), none)
abbrev mX10_isKept : ex_M := (yX10_isKept, cX10_isKept, 2, (some .boolean), none)
abbrev mX10_against : ex_M := (yX10_against, cX10_against, 6, (some .int), none)
theorem igX0 : ∀ w ∈ u_ws RX0 TX0 4, w ∈ ex_g := ex_all (by decide +kernel)
theorem igX1 : ∀ w ∈ u_ws RX1 TX1 5, w ∈ ex_g := ex_all (by decide +kernel)
theorem igX2 : ∀ w ∈ u_ws RX2 TX2 2, w ∈ ex_g := ex_all (by decide +kernel)
theorem igX3 : ∀ w ∈ u_ws RX3 TX3 3, w ∈ ex_g := ex_all (by decide +kernel)
theorem igX4 : ∀ w ∈ u_ws RX4 TX4 4, w ∈ ex_g := ex_all (by decide +kernel)
theorem igX5 : ∀ w ∈ u_ws RX5 TX5 6, w ∈ ex_g := ex_all (by decide +kernel)
theorem igX6 : ∀ w ∈ u_ws RX6 TX6 4, w ∈ ex_g := ex_all (by decide +kernel)
theorem igX7 : ∀ w ∈ u_ws RX7 TX7 3, w ∈ ex_g := ex_all (by decide +kernel)
theorem igX8 : ∀ w ∈ u_ws RX8 TX8 3, w ∈ ex_g := ex_all (by decide +kernel)
theorem igX9 : ∀ w ∈ u_ws RX9 TX9 10, w ∈ ex_g := ex_all (by decide +kernel)
theorem igX10 : ∀ w ∈ u_ws RX10 TX10 23, w ∈ ex_g := ex_all (by decide +kernel)
theorem cmX9_init : ex_cm mX9_init 0 := ⟨(ex_tw 18 (by rfl) rfl), (ex_tw 1 (by rfl) rfl), ⟨(by decide +kernel), (by decide +kernel), (by decide +kernel)⟩, (by decide +kernel)⟩
theorem cmX7_init : ex_cm mX7_init 0 := ⟨(ex_tw 26 (by rfl) rfl), (ex_tw 2 (by rfl) rfl), ⟨(by decide +kernel), (by decide +kernel), (by decide +kernel)⟩, (by decide +kernel)⟩
theorem cmX6_init : ex_cm mX6_init 0 := ⟨(ex_tw 44 (by rfl) rfl), (ex_tw 3 (by rfl) rfl), ⟨(by decide +kernel), (by decide +kernel), (by decide +kernel)⟩, (by decide +kernel)⟩
theorem cmX4_init : ex_cm mX4_init 0 := ⟨(ex_tw 50 (by rfl) rfl), (ex_tw 4 (by rfl) rfl), ⟨(by decide +kernel), (by decide +kernel), (by decide +kernel)⟩, (by decide +kernel)⟩
theorem cmX2_init : ex_cm mX2_init 0 := ⟨(ex_tw 76 (by rfl) rfl), (ex_tw 5 (by rfl) rfl), ⟨(by decide +kernel), (by decide +kernel), (by decide +kernel)⟩, (by decide +kernel)⟩
theorem cmX3_init : ex_cm mX3_init 0 := ⟨(ex_tw 110 (by rfl) rfl), (ex_tw 6 (by rfl) rfl), ⟨(by decide +kernel), (by decide +kernel), (by decide +kernel)⟩, (by decide +kernel)⟩
theorem cmX0_init : ex_cm mX0_init 0 := ⟨(ex_tw 130 (by rfl) rfl), (ex_tw 7 (by rfl) rfl), ⟨(by decide +kernel), (by decide +kernel), (by decide +kernel)⟩, (by decide +kernel)⟩
theorem cmX8_init : ex_cm mX8_init 0 := ⟨(ex_tw 150 (by rfl) rfl), (ex_tw 8 (by rfl) rfl), ⟨(by decide +kernel), (by decide +kernel), (by decide +kernel)⟩, (by decide +kernel)⟩
theorem cmX9_feed : ex_cm mX9_feed 1 := ⟨(ex_tw 199 (by rfl) rfl), (ex_tw 1 (by rfl) rfl), ⟨(by decide +kernel), (by decide +kernel), (by decide +kernel)⟩, (by decide +kernel)⟩
theorem cmX9_within : ex_cm mX9_within 3 := ⟨(ex_tw 202 (by rfl) rfl), (ex_tw 1 (by rfl) rfl), ⟨(by decide +kernel), (by decide +kernel), (by decide +kernel)⟩, (by decide +kernel)⟩
theorem cmX7_append : ex_cm mX7_append 1 := ⟨(ex_tw 207 (by rfl) rfl), (ex_tw 2 (by rfl) rfl), ⟨(by decide +kernel), (by decide +kernel), (by decide +kernel)⟩, (by decide +kernel)⟩
theorem cmX9_picture : ex_cm mX9_picture 0 := ⟨(ex_tw 212 (by rfl) rfl), (ex_tw 1 (by rfl) rfl), ⟨(by decide +kernel), (by decide +kernel), (by decide +kernel)⟩, (by decide +kernel)⟩
theorem cmX7_readInto : ex_cm mX7_readInto 1 := ⟨(ex_tw 216 (by rfl) rfl), (ex_tw 2 (by rfl) rfl), ⟨(by decide +kernel), (by decide +kernel), (by decide +kernel)⟩, (by decide +kernel)⟩
theorem cmX5_init : ex_cm mX5_init 1 := ⟨(ex_tw 221 (by rfl) rfl), (ex_tw 10 (by rfl) rfl), ⟨(by decide +kernel), (by decide +kernel), (by decide +kernel)⟩, (by decide +kernel)⟩
theorem cmX5_take : ex_cm mX5_take 1 := ⟨(ex_tw 245 (by rfl) rfl), (ex_tw 10 (by rfl) rfl), ⟨(by decide +kernel), (by decide +kernel), (by decide +kernel)⟩, (by decide +kernel)⟩
theorem cmX5_takeRowEnd : ex_cm mX5_takeRowEnd 1 := ⟨(ex_tw 249 (by rfl) rfl), (ex_tw 10 (by rfl) rfl), ⟨(by decide +kernel), (by decide +kernel), (by decide +kernel)⟩, (by decide +kernel)⟩
theorem cmX4_setSize : ex_cm mX4_setSize 2 := ⟨(ex_tw 253 (by rfl) rfl), (ex_tw 4 (by rfl) rfl), ⟨(by decide +kernel), (by decide +kernel), (by decide +kernel)⟩, (by decide +kernel)⟩
theorem cmX5_signOf : ex_cm mX5_signOf 1 := ⟨(ex_tw 257 (by rfl) rfl), (ex_tw 10 (by rfl) rfl), ⟨(by decide +kernel), (by decide +kernel), (by decide +kernel)⟩, (by decide +kernel)⟩
theorem cmX5_takeFirstSign : ex_cm mX5_takeFirstSign 1 := ⟨(ex_tw 262 (by rfl) rfl), (ex_tw 10 (by rfl) rfl), ⟨(by decide +kernel), (by decide +kernel), (by decide +kernel)⟩, (by decide +kernel)⟩
theorem cmX5_takeSecondSign : ex_cm mX5_takeSecondSign 1 := ⟨(ex_tw 266 (by rfl) rfl), (ex_tw 10 (by rfl) rfl), ⟨(by decide +kernel), (by decide +kernel), (by decide +kernel)⟩, (by decide +kernel)⟩
theorem cmX4_setInOrder : ex_cm mX4_setInOrder 3 := ⟨(ex_tw 270 (by rfl) rfl), (ex_tw 4 (by rfl) rfl), ⟨(by decide +kernel), (by decide +kernel), (by decide +kernel)⟩, (by decide +kernel)⟩
theorem cmX7_placeRead : ex_cm mX7_placeRead 0 := ⟨(ex_tw 275 (by rfl) rfl), (ex_tw 2 (by rfl) rfl), ⟨(by decide +kernel), (by decide +kernel), (by decide +kernel)⟩, (by decide +kernel)⟩
theorem cmX7_clear : ex_cm mX7_clear 0 := ⟨(ex_tw 279 (by rfl) rfl), (ex_tw 2 (by rfl) rfl), ⟨(by decide +kernel), (by decide +kernel), (by decide +kernel)⟩, (by decide +kernel)⟩
theorem cmX3_remember : ex_cm mX3_remember 1 := ⟨(ex_tw 283 (by rfl) rfl), (ex_tw 6 (by rfl) rfl), ⟨(by decide +kernel), (by decide +kernel), (by decide +kernel)⟩, (by decide +kernel)⟩
theorem cmX4_become : ex_cm mX4_become 1 := ⟨(ex_tw 287 (by rfl) rfl), (ex_tw 4 (by rfl) rfl), ⟨(by decide +kernel), (by decide +kernel), (by decide +kernel)⟩, (by decide +kernel)⟩
theorem cmX4_dots : ex_cm mX4_dots 0 := ⟨(ex_tw 292 (by rfl) rfl), (ex_tw 4 (by rfl) rfl), ⟨(by decide +kernel), (by decide +kernel), (by decide +kernel)⟩, (by decide +kernel)⟩
theorem cmX9_fault : ex_cm mX9_fault 0 := ⟨(ex_tw 298 (by rfl) rfl), (ex_tw 1 (by rfl) rfl), ⟨(by decide +kernel), (by decide +kernel), (by decide +kernel)⟩, (by decide +kernel)⟩
theorem cmX9_told : ex_cm mX9_told 1 := ⟨(ex_tw 302 (by rfl) rfl), (ex_tw 1 (by rfl) rfl), ⟨(by decide +kernel), (by decide +kernel), (by decide +kernel)⟩, (by decide +kernel)⟩
theorem cmX4_maskedDots : ex_cm mX4_maskedDots 0 := ⟨(ex_tw 306 (by rfl) rfl), (ex_tw 4 (by rfl) rfl), ⟨(by decide +kernel), (by decide +kernel), (by decide +kernel)⟩, (by decide +kernel)⟩
theorem cmX4_leastGrey : ex_cm mX4_leastGrey 0 := ⟨(ex_tw 310 (by rfl) rfl), (ex_tw 4 (by rfl) rfl), ⟨(by decide +kernel), (by decide +kernel), (by decide +kernel)⟩, (by decide +kernel)⟩
theorem cmX4_greatestGrey : ex_cm mX4_greatestGrey 0 := ⟨(ex_tw 314 (by rfl) rfl), (ex_tw 4 (by rfl) rfl), ⟨(by decide +kernel), (by decide +kernel), (by decide +kernel)⟩, (by decide +kernel)⟩
theorem cmX4_greysTogether : ex_cm mX4_greysTogether 0 := ⟨(ex_tw 318 (by rfl) rfl), (ex_tw 4 (by rfl) rfl), ⟨(by decide +kernel), (by decide +kernel), (by decide +kernel)⟩, (by decide +kernel)⟩
theorem cmX0_firstWrong : ex_cm mX0_firstWrong 1 := ⟨(ex_tw 322 (by rfl) rfl), (ex_tw 7 (by rfl) rfl), ⟨(by decide +kernel), (by decide +kernel), (by decide +kernel)⟩, (by decide +kernel)⟩
theorem cmX4_has : ex_cm mX4_has 2 := ⟨(ex_tw 326 (by rfl) rfl), (ex_tw 4 (by rfl) rfl), ⟨(by decide +kernel), (by decide +kernel), (by decide +kernel)⟩, (by decide +kernel)⟩
theorem cmX4_greyOf : ex_cm mX4_greyOf 2 := ⟨(ex_tw 330 (by rfl) rfl), (ex_tw 4 (by rfl) rfl), ⟨(by decide +kernel), (by decide +kernel), (by decide +kernel)⟩, (by decide +kernel)⟩
theorem cmX9_at : ex_cm mX9_at 3 := ⟨(ex_tw 335 (by rfl) rfl), (ex_tw 1 (by rfl) rfl), ⟨(by decide +kernel), (by decide +kernel), (by decide +kernel)⟩, (by decide +kernel)⟩
theorem cmX4_isMasked : ex_cm mX4_isMasked 2 := ⟨(ex_tw 342 (by rfl) rfl), (ex_tw 4 (by rfl) rfl), ⟨(by decide +kernel), (by decide +kernel), (by decide +kernel)⟩, (by decide +kernel)⟩
theorem cmX9_tally : ex_cm mX9_tally 5 := ⟨(ex_tw 346 (by rfl) rfl), (ex_tw 1 (by rfl) rfl), ⟨(by decide +kernel), (by decide +kernel), (by decide +kernel)⟩, (by decide +kernel)⟩
theorem cmX4_dotsUpTo : ex_cm mX4_dotsUpTo 5 := ⟨(ex_tw 350 (by rfl) rfl), (ex_tw 4 (by rfl) rfl), ⟨(by decide +kernel), (by decide +kernel), (by decide +kernel)⟩, (by decide +kernel)⟩
theorem cmX9_filter : ex_cm mX9_filter 5 := ⟨(ex_tw 356 (by rfl) rfl), (ex_tw 1 (by rfl) rfl), ⟨(by decide +kernel), (by decide +kernel), (by decide +kernel)⟩, (by decide +kernel)⟩
theorem cmX2_isFull : ex_cm mX2_isFull 0 := ⟨(ex_tw 360 (by rfl) rfl), (ex_tw 5 (by rfl) rfl), ⟨(by decide +kernel), (by decide +kernel), (by decide +kernel)⟩, (by decide +kernel)⟩
theorem cmX1_init : ex_cm mX1_init 5 := ⟨(ex_tw 366 (by rfl) rfl), (ex_tw 11 (by rfl) rfl), ⟨(by decide +kernel), (by decide +kernel), (by decide +kernel)⟩, (by decide +kernel)⟩
theorem cmX2_add : ex_cm mX2_add 1 := ⟨(ex_tw 392 (by rfl) rfl), (ex_tw 5 (by rfl) rfl), ⟨(by decide +kernel), (by decide +kernel), (by decide +kernel)⟩, (by decide +kernel)⟩
theorem cmX9_drop : ex_cm mX9_drop 1 := ⟨(ex_tw 398 (by rfl) rfl), (ex_tw 1 (by rfl) rfl), ⟨(by decide +kernel), (by decide +kernel), (by decide +kernel)⟩, (by decide +kernel)⟩
set_option maxRecDepth 20000 in
theorem cmX2_numbered : ex_cm mX2_numbered 1 := ⟨(ex_tw 402 (by rfl) rfl), (ex_tw 5 (by rfl) rfl), ⟨(by decide +kernel), (by decide +kernel), (by decide +kernel)⟩, (by decide +kernel)⟩
set_option maxRecDepth 20000 in
theorem cmX2_remove : ex_cm mX2_remove 1 := ⟨(ex_tw 407 (by rfl) rfl), (ex_tw 5 (by rfl) rfl), ⟨(by decide +kernel), (by decide +kernel), (by decide +kernel)⟩, (by decide +kernel)⟩
set_option maxRecDepth 20000 in
theorem cmX9_fill : ex_cm mX9_fill 1 := ⟨(ex_tw 412 (by rfl) rfl), (ex_tw 1 (by rfl) rfl), ⟨(by decide +kernel), (by decide +kernel), (by decide +kernel)⟩, (by decide +kernel)⟩
set_option maxRecDepth 20000 in
theorem cmX9_would : ex_cm mX9_would 4 := ⟨(ex_tw 416 (by rfl) rfl), (ex_tw 1 (by rfl) rfl), ⟨(by decide +kernel), (by decide +kernel), (by decide +kernel)⟩, (by decide +kernel)⟩
set_option maxRecDepth 20000 in
theorem cmX8_lookAt : ex_cm mX8_lookAt 5 := ⟨(ex_tw 420 (by rfl) rfl), (ex_tw 8 (by rfl) rfl), ⟨(by decide +kernel), (by decide +kernel), (by decide +kernel)⟩, (by decide +kernel)⟩
set_option maxRecDepth 20000 in
theorem cmJ7_fill_53178 : ex_cm mJ7_fill_53178 2 := ⟨(ex_tw 423 (by rfl) rfl), (ex_tw 12 (by rfl) rfl), ⟨(by decide +kernel), (by decide +kernel), (by decide +kernel)⟩, (by decide +kernel)⟩
set_option maxRecDepth 20000 in
theorem cmX8_standingFor : ex_cm mX8_standingFor 3 := ⟨(ex_tw 426 (by rfl) rfl), (ex_tw 8 (by rfl) rfl), ⟨(by decide +kernel), (by decide +kernel), (by decide +kernel)⟩, (by decide +kernel)⟩
set_option maxRecDepth 20000 in
theorem cmJ9_floorMod_7cf53 : ex_cm mJ9_floorMod_7cf53 2 := ⟨(ex_tw 430 (by rfl) rfl), (ex_tw 13 (by rfl) rfl), ⟨(by decide +kernel), (by decide +kernel), (by decide +kernel)⟩, (by decide +kernel)⟩
set_option maxRecDepth 20000 in
theorem cmJ9_min_7cf53 : ex_cm mJ9_min_7cf53 2 := ⟨(ex_tw 433 (by rfl) rfl), (ex_tw 13 (by rfl) rfl), ⟨(by decide +kernel), (by decide +kernel), (by decide +kernel)⟩, (by decide +kernel)⟩
set_option maxRecDepth 20000 in
theorem cmX8_countRow : ex_cm mX8_countRow 5 := ⟨(ex_tw 437 (by rfl) rfl), (ex_tw 8 (by rfl) rfl), ⟨(by decide +kernel), (by decide +kernel), (by decide +kernel)⟩, (by decide +kernel)⟩
set_option maxRecDepth 20000 in
theorem cmX8_count : ex_cm mX8_count 2 := ⟨(ex_tw 441 (by rfl) rfl), (ex_tw 8 (by rfl) rfl), ⟨(by decide +kernel), (by decide +kernel), (by decide +kernel)⟩, (by decide +kernel)⟩
set_option maxRecDepth 20000 in
theorem cmX8_ranked : ex_cm mX8_ranked 1 := ⟨(ex_tw 447 (by rfl) rfl), (ex_tw 8 (by rfl) rfl), ⟨(by decide +kernel), (by decide +kernel), (by decide +kernel)⟩, (by decide +kernel)⟩
set_option maxRecDepth 20000 in
theorem cmX8_countedBelow : ex_cm mX8_countedBelow 1 := ⟨(ex_tw 451 (by rfl) rfl), (ex_tw 8 (by rfl) rfl), ⟨(by decide +kernel), (by decide +kernel), (by decide +kernel)⟩, (by decide +kernel)⟩
set_option maxRecDepth 20000 in
theorem cmX8_spread : ex_cm mX8_spread 0 := ⟨(ex_tw 455 (by rfl) rfl), (ex_tw 8 (by rfl) rfl), ⟨(by decide +kernel), (by decide +kernel), (by decide +kernel)⟩, (by decide +kernel)⟩
set_option maxRecDepth 20000 in
theorem cmX9_bins : ex_cm mX9_bins 1 := ⟨(ex_tw 460 (by rfl) rfl), (ex_tw 1 (by rfl) rfl), ⟨(by decide +kernel), (by decide +kernel), (by decide +kernel)⟩, (by decide +kernel)⟩
set_option maxRecDepth 20000 in
theorem cmX9_lastOf : ex_cm mX9_lastOf 3 := ⟨(ex_tw 464 (by rfl) rfl), (ex_tw 1 (by rfl) rfl), ⟨(by decide +kernel), (by decide +kernel), (by decide +kernel)⟩, (by decide +kernel)⟩
set_option maxRecDepth 20000 in
theorem cmX9_spikes : ex_cm mX9_spikes 2 := ⟨(ex_tw 468 (by rfl) rfl), (ex_tw 1 (by rfl) rfl), ⟨(by decide +kernel), (by decide +kernel), (by decide +kernel)⟩, (by decide +kernel)⟩
set_option maxRecDepth 20000 in
theorem cmJ9_abs_0f7a4 : ex_cm mJ9_abs_0f7a4 1 := ⟨(ex_tw 471 (by rfl) rfl), (ex_tw 13 (by rfl) rfl), ⟨(by decide +kernel), (by decide +kernel), (by decide +kernel)⟩, (by decide +kernel)⟩
set_option maxRecDepth 20000 in
theorem cmX9_dot : ex_cm mX9_dot 3 := ⟨(ex_tw 475 (by rfl) rfl), (ex_tw 1 (by rfl) rfl), ⟨(by decide +kernel), (by decide +kernel), (by decide +kernel)⟩, (by decide +kernel)⟩
set_option maxRecDepth 20000 in
theorem cmX4_setGrey : ex_cm mX4_setGrey 3 := ⟨(ex_tw 479 (by rfl) rfl), (ex_tw 4 (by rfl) rfl), ⟨(by decide +kernel), (by decide +kernel), (by decide +kernel)⟩, (by decide +kernel)⟩
set_option maxRecDepth 20000 in
theorem cmX9_mask : ex_cm mX9_mask 3 := ⟨(ex_tw 483 (by rfl) rfl), (ex_tw 1 (by rfl) rfl), ⟨(by decide +kernel), (by decide +kernel), (by decide +kernel)⟩, (by decide +kernel)⟩
set_option maxRecDepth 20000 in
theorem cmX4_setMasked : ex_cm mX4_setMasked 3 := ⟨(ex_tw 487 (by rfl) rfl), (ex_tw 4 (by rfl) rfl), ⟨(by decide +kernel), (by decide +kernel), (by decide +kernel)⟩, (by decide +kernel)⟩
set_option maxRecDepth 20000 in
theorem cmX9_turn : ex_cm mX9_turn 1 := ⟨(ex_tw 491 (by rfl) rfl), (ex_tw 1 (by rfl) rfl), ⟨(by decide +kernel), (by decide +kernel), (by decide +kernel)⟩, (by decide +kernel)⟩
set_option maxRecDepth 20000 in
theorem cmX4_becomeTurned : ex_cm mX4_becomeTurned 2 := ⟨(ex_tw 496 (by rfl) rfl), (ex_tw 4 (by rfl) rfl), ⟨(by decide +kernel), (by decide +kernel), (by decide +kernel)⟩, (by decide +kernel)⟩
set_option maxRecDepth 20000 in
theorem cmX9_filtered : ex_cm mX9_filtered 1 := ⟨(ex_tw 502 (by rfl) rfl), (ex_tw 1 (by rfl) rfl), ⟨(by decide +kernel), (by decide +kernel), (by decide +kernel)⟩, (by decide +kernel)⟩
set_option maxRecDepth 20000 in
theorem cmX9_apply : ex_cm mX9_apply 1 := ⟨(ex_tw 506 (by rfl) rfl), (ex_tw 1 (by rfl) rfl), ⟨(by decide +kernel), (by decide +kernel), (by decide +kernel)⟩, (by decide +kernel)⟩
set_option maxRecDepth 20000 in
theorem cmX4_greysOtherThan : ex_cm mX4_greysOtherThan 1 := ⟨(ex_tw 510 (by rfl) rfl), (ex_tw 4 (by rfl) rfl), ⟨(by decide +kernel), (by decide +kernel), (by decide +kernel)⟩, (by decide +kernel)⟩
set_option maxRecDepth 20000 in
theorem cmX9_all : ex_cm mX9_all 0 := ⟨(ex_tw 514 (by rfl) rfl), (ex_tw 1 (by rfl) rfl), ⟨(by decide +kernel), (by decide +kernel), (by decide +kernel)⟩, (by decide +kernel)⟩
set_option maxRecDepth 20000 in
theorem cmX9_until : ex_cm mX9_until 2 := ⟨(ex_tw 518 (by rfl) rfl), (ex_tw 1 (by rfl) rfl), ⟨(by decide +kernel), (by decide +kernel), (by decide +kernel)⟩, (by decide +kernel)⟩
set_option maxRecDepth 20000 in
theorem cmX9_noise : ex_cm mX9_noise 1 := ⟨(ex_tw 522 (by rfl) rfl), (ex_tw 1 (by rfl) rfl), ⟨(by decide +kernel), (by decide +kernel), (by decide +kernel)⟩, (by decide +kernel)⟩
set_option maxRecDepth 20000 in
theorem cmX6_speckle : ex_cm mX6_speckle 0 := ⟨(ex_tw 526 (by rfl) rfl), (ex_tw 3 (by rfl) rfl), ⟨(by decide +kernel), (by decide +kernel), (by decide +kernel)⟩, (by decide +kernel)⟩
set_option maxRecDepth 20000 in
theorem cmX6_draw : ex_cm mX6_draw 1 := ⟨(ex_tw 530 (by rfl) rfl), (ex_tw 3 (by rfl) rfl), ⟨(by decide +kernel), (by decide +kernel), (by decide +kernel)⟩, (by decide +kernel)⟩
set_option maxRecDepth 20000 in
theorem cmX9_undo : ex_cm mX9_undo 1 := ⟨(ex_tw 539 (by rfl) rfl), (ex_tw 1 (by rfl) rfl), ⟨(by decide +kernel), (by decide +kernel), (by decide +kernel)⟩, (by decide +kernel)⟩
set_option maxRecDepth 20000 in
theorem cmX3_takeBack : ex_cm mX3_takeBack 2 := ⟨(ex_tw 543 (by rfl) rfl), (ex_tw 6 (by rfl) rfl), ⟨(by decide +kernel), (by decide +kernel), (by decide +kernel)⟩, (by decide +kernel)⟩
set_option maxRecDepth 20000 in
theorem cmX9_write : ex_cm mX9_write 3 := ⟨(ex_tw 548 (by rfl) rfl), (ex_tw 1 (by rfl) rfl), ⟨(by decide +kernel), (by decide +kernel), (by decide +kernel)⟩, (by decide +kernel)⟩
set_option maxRecDepth 20000 in
theorem cmX0_add : ex_cm mX0_add 3 := ⟨(ex_tw 552 (by rfl) rfl), (ex_tw 7 (by rfl) rfl), ⟨(by decide +kernel), (by decide +kernel), (by decide +kernel)⟩, (by decide +kernel)⟩
set_option maxRecDepth 20000 in
theorem cmX9_tear : ex_cm mX9_tear 0 := ⟨(ex_tw 557 (by rfl) rfl), (ex_tw 1 (by rfl) rfl), ⟨(by decide +kernel), (by decide +kernel), (by decide +kernel)⟩, (by decide +kernel)⟩
set_option maxRecDepth 20000 in
theorem cmX9_seed : ex_cm mX9_seed 1 := ⟨(ex_tw 561 (by rfl) rfl), (ex_tw 1 (by rfl) rfl), ⟨(by decide +kernel), (by decide +kernel), (by decide +kernel)⟩, (by decide +kernel)⟩
set_option maxRecDepth 20000 in
theorem cmX9_keep : ex_cm mX9_keep 1 := ⟨(ex_tw 565 (by rfl) rfl), (ex_tw 1 (by rfl) rfl), ⟨(by decide +kernel), (by decide +kernel), (by decide +kernel)⟩, (by decide +kernel)⟩
set_option maxRecDepth 20000 in
theorem cmX6_become : ex_cm mX6_become 1 := ⟨(ex_tw 569 (by rfl) rfl), (ex_tw 3 (by rfl) rfl), ⟨(by decide +kernel), (by decide +kernel), (by decide +kernel)⟩, (by decide +kernel)⟩
set_option maxRecDepth 20000 in
theorem cmX2_become : ex_cm mX2_become 1 := ⟨(ex_tw 574 (by rfl) rfl), (ex_tw 5 (by rfl) rfl), ⟨(by decide +kernel), (by decide +kernel), (by decide +kernel)⟩, (by decide +kernel)⟩
set_option maxRecDepth 20000 in
theorem cmX3_forget : ex_cm mX3_forget 0 := ⟨(ex_tw 578 (by rfl) rfl), (ex_tw 6 (by rfl) rfl), ⟨(by decide +kernel), (by decide +kernel), (by decide +kernel)⟩, (by decide +kernel)⟩
set_option maxRecDepth 20000 in
theorem cmX9_goBack : ex_cm mX9_goBack 1 := ⟨(ex_tw 582 (by rfl) rfl), (ex_tw 1 (by rfl) rfl), ⟨(by decide +kernel), (by decide +kernel), (by decide +kernel)⟩, (by decide +kernel)⟩
set_option maxRecDepth 20000 in
theorem cmX9_against : ex_cm mX9_against 1 := ⟨(ex_tw 586 (by rfl) rfl), (ex_tw 1 (by rfl) rfl), ⟨(by decide +kernel), (by decide +kernel), (by decide +kernel)⟩, (by decide +kernel)⟩
set_option maxRecDepth 20000 in
theorem cmX4_dotsOtherThan : ex_cm mX4_dotsOtherThan 1 := ⟨(ex_tw 590 (by rfl) rfl), (ex_tw 4 (by rfl) rfl), ⟨(by decide +kernel), (by decide +kernel), (by decide +kernel)⟩, (by decide +kernel)⟩
set_option maxRecDepth 20000 in
theorem cmX10_init : ex_cm mX10_init 0 := ⟨(ex_tw 595 (by rfl) rfl), (ex_tw 9 (by rfl) rfl), ⟨(by decide +kernel), (by decide +kernel), (by decide +kernel)⟩, (by decide +kernel)⟩
set_option maxRecDepth 20000 in
theorem cmX10_feed : ex_cm mX10_feed 1 := ⟨(ex_tw 670 (by rfl) rfl), (ex_tw 9 (by rfl) rfl), ⟨(by decide +kernel), (by decide +kernel), (by decide +kernel)⟩, (by decide +kernel)⟩
set_option maxRecDepth 20000 in
theorem cmX10_in : ex_cm mX10_in 3 := ⟨(ex_tw 674 (by rfl) rfl), (ex_tw 9 (by rfl) rfl), ⟨(by decide +kernel), (by decide +kernel), (by decide +kernel)⟩, (by decide +kernel)⟩
set_option maxRecDepth 20000 in
theorem cmX10_picture : ex_cm mX10_picture 0 := ⟨(ex_tw 680 (by rfl) rfl), (ex_tw 9 (by rfl) rfl), ⟨(by decide +kernel), (by decide +kernel), (by decide +kernel)⟩, (by decide +kernel)⟩
set_option maxRecDepth 20000 in
theorem cmX10_readText : ex_cm mX10_readText 0 := ⟨(ex_tw 684 (by rfl) rfl), (ex_tw 9 (by rfl) rfl), ⟨(by decide +kernel), (by decide +kernel), (by decide +kernel)⟩, (by decide +kernel)⟩
set_option maxRecDepth 20000 in
theorem cmX10_faultOf : ex_cm mX10_faultOf 1 := ⟨(ex_tw 688 (by rfl) rfl), (ex_tw 9 (by rfl) rfl), ⟨(by decide +kernel), (by decide +kernel), (by decide +kernel)⟩, (by decide +kernel)⟩
set_option maxRecDepth 20000 in
theorem cmX10_faultOfBreak : ex_cm mX10_faultOfBreak 0 := ⟨(ex_tw 692 (by rfl) rfl), (ex_tw 9 (by rfl) rfl), ⟨(by decide +kernel), (by decide +kernel), (by decide +kernel)⟩, (by decide +kernel)⟩
set_option maxRecDepth 20000 in
theorem cmX10_isShort : ex_cm mX10_isShort 0 := ⟨(ex_tw 696 (by rfl) rfl), (ex_tw 9 (by rfl) rfl), ⟨(by decide +kernel), (by decide +kernel), (by decide +kernel)⟩, (by decide +kernel)⟩
set_option maxRecDepth 20000 in
theorem cmX10_figure : ex_cm mX10_figure 1 := ⟨(ex_tw 699 (by rfl) rfl), (ex_tw 9 (by rfl) rfl), ⟨(by decide +kernel), (by decide +kernel), (by decide +kernel)⟩, (by decide +kernel)⟩
set_option maxRecDepth 20000 in
theorem cmX10_goOn : ex_cm mX10_goOn 1 := ⟨(ex_tw 707 (by rfl) rfl), (ex_tw 9 (by rfl) rfl), ⟨(by decide +kernel), (by decide +kernel), (by decide +kernel)⟩, (by decide +kernel)⟩
set_option maxRecDepth 20000 in
theorem cmX10_remember : ex_cm mX10_remember 0 := ⟨(ex_tw 711 (by rfl) rfl), (ex_tw 9 (by rfl) rfl), ⟨(by decide +kernel), (by decide +kernel), (by decide +kernel)⟩, (by decide +kernel)⟩
set_option maxRecDepth 20000 in
theorem cmX10_copyRow : ex_cm mX10_copyRow 2 := ⟨(ex_tw 715 (by rfl) rfl), (ex_tw 9 (by rfl) rfl), ⟨(by decide +kernel), (by decide +kernel), (by decide +kernel)⟩, (by decide +kernel)⟩
set_option maxRecDepth 20000 in
theorem cmX10_layPicture : ex_cm mX10_layPicture 0 := ⟨(ex_tw 719 (by rfl) rfl), (ex_tw 9 (by rfl) rfl), ⟨(by decide +kernel), (by decide +kernel), (by decide +kernel)⟩, (by decide +kernel)⟩
set_option maxRecDepth 20000 in
theorem cmX10_place : ex_cm mX10_place 2 := ⟨(ex_tw 723 (by rfl) rfl), (ex_tw 9 (by rfl) rfl), ⟨(by decide +kernel), (by decide +kernel), (by decide +kernel)⟩, (by decide +kernel)⟩
set_option maxRecDepth 20000 in
theorem cmX10_fault : ex_cm mX10_fault 0 := ⟨(ex_tw 727 (by rfl) rfl), (ex_tw 9 (by rfl) rfl), ⟨(by decide +kernel), (by decide +kernel), (by decide +kernel)⟩, (by decide +kernel)⟩
set_option maxRecDepth 20000 in
theorem cmX10_told : ex_cm mX10_told 1 := ⟨(ex_tw 731 (by rfl) rfl), (ex_tw 9 (by rfl) rfl), ⟨(by decide +kernel), (by decide +kernel), (by decide +kernel)⟩, (by decide +kernel)⟩
set_option maxRecDepth 20000 in
theorem cmX10_masked : ex_cm mX10_masked 0 := ⟨(ex_tw 735 (by rfl) rfl), (ex_tw 9 (by rfl) rfl), ⟨(by decide +kernel), (by decide +kernel), (by decide +kernel)⟩, (by decide +kernel)⟩
set_option maxRecDepth 20000 in
theorem cmX10_isMasked : ex_cm mX10_isMasked 2 := ⟨(ex_tw 739 (by rfl) rfl), (ex_tw 9 (by rfl) rfl), ⟨(by decide +kernel), (by decide +kernel), (by decide +kernel)⟩, (by decide +kernel)⟩
set_option maxRecDepth 20000 in
theorem cmX10_ofGreys : ex_cm mX10_ofGreys 1 := ⟨(ex_tw 743 (by rfl) rfl), (ex_tw 9 (by rfl) rfl), ⟨(by decide +kernel), (by decide +kernel), (by decide +kernel)⟩, (by decide +kernel)⟩
set_option maxRecDepth 20000 in
theorem cmX10_grey : ex_cm mX10_grey 2 := ⟨(ex_tw 747 (by rfl) rfl), (ex_tw 9 (by rfl) rfl), ⟨(by decide +kernel), (by decide +kernel), (by decide +kernel)⟩, (by decide +kernel)⟩
set_option maxRecDepth 20000 in
theorem cmX10_wrong : ex_cm mX10_wrong 0 := ⟨(ex_tw 751 (by rfl) rfl), (ex_tw 9 (by rfl) rfl), ⟨(by decide +kernel), (by decide +kernel), (by decide +kernel)⟩, (by decide +kernel)⟩
set_option maxRecDepth 20000 in
theorem cmX10_isDot : ex_cm mX10_isDot 2 := ⟨(ex_tw 755 (by rfl) rfl), (ex_tw 9 (by rfl) rfl), ⟨(by decide +kernel), (by decide +kernel), (by decide +kernel)⟩, (by decide +kernel)⟩
set_option maxRecDepth 20000 in
theorem cmX10_at : ex_cm mX10_at 3 := ⟨(ex_tw 759 (by rfl) rfl), (ex_tw 9 (by rfl) rfl), ⟨(by decide +kernel), (by decide +kernel), (by decide +kernel)⟩, (by decide +kernel)⟩
set_option maxRecDepth 20000 in
theorem cmX10_tally : ex_cm mX10_tally 5 := ⟨(ex_tw 764 (by rfl) rfl), (ex_tw 9 (by rfl) rfl), ⟨(by decide +kernel), (by decide +kernel), (by decide +kernel)⟩, (by decide +kernel)⟩
set_option maxRecDepth 20000 in
theorem cmX10_filter : ex_cm mX10_filter 5 := ⟨(ex_tw 770 (by rfl) rfl), (ex_tw 9 (by rfl) rfl), ⟨(by decide +kernel), (by decide +kernel), (by decide +kernel)⟩, (by decide +kernel)⟩
set_option maxRecDepth 20000 in
theorem cmX10_drop : ex_cm mX10_drop 1 := ⟨(ex_tw 777 (by rfl) rfl), (ex_tw 9 (by rfl) rfl), ⟨(by decide +kernel), (by decide +kernel), (by decide +kernel)⟩, (by decide +kernel)⟩
set_option maxRecDepth 20000 in
theorem cmX10_isFilter : ex_cm mX10_isFilter 1 := ⟨(ex_tw 781 (by rfl) rfl), (ex_tw 9 (by rfl) rfl), ⟨(by decide +kernel), (by decide +kernel), (by decide +kernel)⟩, (by decide +kernel)⟩
set_option maxRecDepth 20000 in
theorem cmX10_fill : ex_cm mX10_fill 1 := ⟨(ex_tw 785 (by rfl) rfl), (ex_tw 9 (by rfl) rfl), ⟨(by decide +kernel), (by decide +kernel), (by decide +kernel)⟩, (by decide +kernel)⟩
set_option maxRecDepth 20000 in
theorem cmX10_would : ex_cm mX10_would 4 := ⟨(ex_tw 789 (by rfl) rfl), (ex_tw 9 (by rfl) rfl), ⟨(by decide +kernel), (by decide +kernel), (by decide +kernel)⟩, (by decide +kernel)⟩
set_option maxRecDepth 20000 in
theorem cmX10_lastOf : ex_cm mX10_lastOf 3 := ⟨(ex_tw 793 (by rfl) rfl), (ex_tw 9 (by rfl) rfl), ⟨(by decide +kernel), (by decide +kernel), (by decide +kernel)⟩, (by decide +kernel)⟩
set_option maxRecDepth 20000 in
theorem cmX10_layWindow : ex_cm mX10_layWindow 3 := ⟨(ex_tw 797 (by rfl) rfl), (ex_tw 9 (by rfl) rfl), ⟨(by decide +kernel), (by decide +kernel), (by decide +kernel)⟩, (by decide +kernel)⟩
set_option maxRecDepth 20000 in
theorem cmX10_part : ex_cm mX10_part 2 := ⟨(ex_tw 801 (by rfl) rfl), (ex_tw 9 (by rfl) rfl), ⟨(by decide +kernel), (by decide +kernel), (by decide +kernel)⟩, (by decide +kernel)⟩
set_option maxRecDepth 20000 in
theorem cmX10_countAt : ex_cm mX10_countAt 4 := ⟨(ex_tw 805 (by rfl) rfl), (ex_tw 9 (by rfl) rfl), ⟨(by decide +kernel), (by decide +kernel), (by decide +kernel)⟩, (by decide +kernel)⟩
set_option maxRecDepth 20000 in
theorem cmX10_countOut : ex_cm mX10_countOut 3 := ⟨(ex_tw 809 (by rfl) rfl), (ex_tw 9 (by rfl) rfl), ⟨(by decide +kernel), (by decide +kernel), (by decide +kernel)⟩, (by decide +kernel)⟩
set_option maxRecDepth 20000 in
theorem cmX10_count : ex_cm mX10_count 1 := ⟨(ex_tw 813 (by rfl) rfl), (ex_tw 9 (by rfl) rfl), ⟨(by decide +kernel), (by decide +kernel), (by decide +kernel)⟩, (by decide +kernel)⟩
set_option maxRecDepth 20000 in
theorem cmX10_standIn : ex_cm mX10_standIn 3 := ⟨(ex_tw 816 (by rfl) rfl), (ex_tw 9 (by rfl) rfl), ⟨(by decide +kernel), (by decide +kernel), (by decide +kernel)⟩, (by decide +kernel)⟩
set_option maxRecDepth 20000 in
theorem cmX10_leftOver : ex_cm mX10_leftOver 2 := ⟨(ex_tw 819 (by rfl) rfl), (ex_tw 9 (by rfl) rfl), ⟨(by decide +kernel), (by decide +kernel), (by decide +kernel)⟩, (by decide +kernel)⟩
set_option maxRecDepth 20000 in
theorem cmX10_below : ex_cm mX10_below 1 := ⟨(ex_tw 823 (by rfl) rfl), (ex_tw 9 (by rfl) rfl), ⟨(by decide +kernel), (by decide +kernel), (by decide +kernel)⟩, (by decide +kernel)⟩
set_option maxRecDepth 20000 in
theorem cmX10_bins : ex_cm mX10_bins 1 := ⟨(ex_tw 827 (by rfl) rfl), (ex_tw 9 (by rfl) rfl), ⟨(by decide +kernel), (by decide +kernel), (by decide +kernel)⟩, (by decide +kernel)⟩
set_option maxRecDepth 20000 in
theorem cmX10_spikes : ex_cm mX10_spikes 2 := ⟨(ex_tw 831 (by rfl) rfl), (ex_tw 9 (by rfl) rfl), ⟨(by decide +kernel), (by decide +kernel), (by decide +kernel)⟩, (by decide +kernel)⟩
set_option maxRecDepth 20000 in
theorem cmX10_dot : ex_cm mX10_dot 3 := ⟨(ex_tw 835 (by rfl) rfl), (ex_tw 9 (by rfl) rfl), ⟨(by decide +kernel), (by decide +kernel), (by decide +kernel)⟩, (by decide +kernel)⟩
set_option maxRecDepth 20000 in
theorem cmX10_setGrey : ex_cm mX10_setGrey 3 := ⟨(ex_tw 839 (by rfl) rfl), (ex_tw 9 (by rfl) rfl), ⟨(by decide +kernel), (by decide +kernel), (by decide +kernel)⟩, (by decide +kernel)⟩
set_option maxRecDepth 20000 in
theorem cmX10_mask : ex_cm mX10_mask 3 := ⟨(ex_tw 843 (by rfl) rfl), (ex_tw 9 (by rfl) rfl), ⟨(by decide +kernel), (by decide +kernel), (by decide +kernel)⟩, (by decide +kernel)⟩
set_option maxRecDepth 20000 in
theorem cmX10_turn : ex_cm mX10_turn 1 := ⟨(ex_tw 847 (by rfl) rfl), (ex_tw 9 (by rfl) rfl), ⟨(by decide +kernel), (by decide +kernel), (by decide +kernel)⟩, (by decide +kernel)⟩
set_option maxRecDepth 20000 in
theorem cmX10_turnedFrom : ex_cm mX10_turnedFrom 3 := ⟨(ex_tw 853 (by rfl) rfl), (ex_tw 9 (by rfl) rfl), ⟨(by decide +kernel), (by decide +kernel), (by decide +kernel)⟩, (by decide +kernel)⟩
set_option maxRecDepth 20000 in
theorem cmX10_filtered : ex_cm mX10_filtered 1 := ⟨(ex_tw 857 (by rfl) rfl), (ex_tw 9 (by rfl) rfl), ⟨(by decide +kernel), (by decide +kernel), (by decide +kernel)⟩, (by decide +kernel)⟩
set_option maxRecDepth 20000 in
theorem cmX10_applyNow : ex_cm mX10_applyNow 1 := ⟨(ex_tw 861 (by rfl) rfl), (ex_tw 9 (by rfl) rfl), ⟨(by decide +kernel), (by decide +kernel), (by decide +kernel)⟩, (by decide +kernel)⟩
set_option maxRecDepth 20000 in
theorem cmX10_all : ex_cm mX10_all 0 := ⟨(ex_tw 865 (by rfl) rfl), (ex_tw 9 (by rfl) rfl), ⟨(by decide +kernel), (by decide +kernel), (by decide +kernel)⟩, (by decide +kernel)⟩
set_option maxRecDepth 20000 in
theorem cmX10_until : ex_cm mX10_until 2 := ⟨(ex_tw 869 (by rfl) rfl), (ex_tw 9 (by rfl) rfl), ⟨(by decide +kernel), (by decide +kernel), (by decide +kernel)⟩, (by decide +kernel)⟩
set_option maxRecDepth 20000 in
theorem cmX10_noise : ex_cm mX10_noise 1 := ⟨(ex_tw 874 (by rfl) rfl), (ex_tw 9 (by rfl) rfl), ⟨(by decide +kernel), (by decide +kernel), (by decide +kernel)⟩, (by decide +kernel)⟩
set_option maxRecDepth 20000 in
theorem cmX10_draw : ex_cm mX10_draw 1 := ⟨(ex_tw 879 (by rfl) rfl), (ex_tw 9 (by rfl) rfl), ⟨(by decide +kernel), (by decide +kernel), (by decide +kernel)⟩, (by decide +kernel)⟩
set_option maxRecDepth 20000 in
theorem cmX10_undo : ex_cm mX10_undo 1 := ⟨(ex_tw 887 (by rfl) rfl), (ex_tw 9 (by rfl) rfl), ⟨(by decide +kernel), (by decide +kernel), (by decide +kernel)⟩, (by decide +kernel)⟩
set_option maxRecDepth 20000 in
theorem cmX10_write : ex_cm mX10_write 3 := ⟨(ex_tw 892 (by rfl) rfl), (ex_tw 9 (by rfl) rfl), ⟨(by decide +kernel), (by decide +kernel), (by decide +kernel)⟩, (by decide +kernel)⟩
set_option maxRecDepth 20000 in
theorem cmX10_tear : ex_cm mX10_tear 0 := ⟨(ex_tw 896 (by rfl) rfl), (ex_tw 9 (by rfl) rfl), ⟨(by decide +kernel), (by decide +kernel), (by decide +kernel)⟩, (by decide +kernel)⟩
set_option maxRecDepth 20000 in
theorem cmX10_seed : ex_cm mX10_seed 1 := ⟨(ex_tw 900 (by rfl) rfl), (ex_tw 9 (by rfl) rfl), ⟨(by decide +kernel), (by decide +kernel), (by decide +kernel)⟩, (by decide +kernel)⟩
set_option maxRecDepth 20000 in
theorem cmX10_keep : ex_cm mX10_keep 1 := ⟨(ex_tw 904 (by rfl) rfl), (ex_tw 9 (by rfl) rfl), ⟨(by decide +kernel), (by decide +kernel), (by decide +kernel)⟩, (by decide +kernel)⟩
set_option maxRecDepth 20000 in
theorem cmX10_goBack : ex_cm mX10_goBack 1 := ⟨(ex_tw 908 (by rfl) rfl), (ex_tw 9 (by rfl) rfl), ⟨(by decide +kernel), (by decide +kernel), (by decide +kernel)⟩, (by decide +kernel)⟩
set_option maxRecDepth 20000 in
theorem cmX10_isKept : ex_cm mX10_isKept 1 := ⟨(ex_tw 912 (by rfl) rfl), (ex_tw 9 (by rfl) rfl), ⟨(by decide +kernel), (by decide +kernel), (by decide +kernel)⟩, (by decide +kernel)⟩
set_option maxRecDepth 20000 in
theorem cmX10_against : ex_cm mX10_against 1 := ⟨(ex_tw 916 (by rfl) rfl), (ex_tw 9 (by rfl) rfl), ⟨(by decide +kernel), (by decide +kernel), (by decide +kernel)⟩, (by decide +kernel)⟩
theorem fX7_9 : ex_F RX7 9 7 0 .int false := ⟨RX7, TX7, 3, tyX7, rfl, (by decide +kernel), igX7, tyX7_ok, nmX7, rfl, rfl, rfl, (ex_tw 28 (by rfl) rfl)⟩
theorem fX9_117 : ex_F RX9 117 7 0 .int false := ⟨RX7, TX7, 3, tyX7, rfl, (by decide +kernel), igX7, tyX7_ok, nmX7, rfl, rfl, rfl, (ex_tw 29 (by rfl) rfl)⟩
theorem fX7_15 : ex_F RX7 15 7 1 (.array .int) true := ⟨RX7, TX7, 3, tyX7, rfl, (by decide +kernel), igX7, tyX7_ok, nmX7, rfl, rfl, rfl, (ex_tw 30 (by rfl) rfl)⟩
theorem fX7_19 : ex_F RX7 19 7 2 .int false := ⟨RX7, TX7, 3, tyX7, rfl, (by decide +kernel), igX7, tyX7_ok, nmX7, rfl, rfl, rfl, (ex_tw 31 (by rfl) rfl)⟩
theorem fX4_9 : ex_F RX4 9 4 0 .int false := ⟨RX4, TX4, 4, tyX4, rfl, (by decide +kernel), igX4, tyX4_ok, nmX4, rfl, rfl, rfl, (ex_tw 52 (by rfl) rfl)⟩
theorem fX6_39 : ex_F RX6 39 4 0 .int false := ⟨RX4, TX4, 4, tyX4, rfl, (by decide +kernel), igX4, tyX4_ok, nmX4, rfl, rfl, rfl, (ex_tw 53 (by rfl) rfl)⟩
theorem fX9_99 : ex_F RX9 99 4 0 .int false := ⟨RX4, TX4, 4, tyX4, rfl, (by decide +kernel), igX4, tyX4_ok, nmX4, rfl, rfl, rfl, (ex_tw 54 (by rfl) rfl)⟩
theorem fX8_71 : ex_F RX8 71 4 0 .int false := ⟨RX4, TX4, 4, tyX4, rfl, (by decide +kernel), igX4, tyX4_ok, nmX4, rfl, rfl, rfl, (ex_tw 55 (by rfl) rfl)⟩
theorem fX4_15 : ex_F RX4 15 4 1 .int false := ⟨RX4, TX4, 4, tyX4, rfl, (by decide +kernel), igX4, tyX4_ok, nmX4, rfl, rfl, rfl, (ex_tw 56 (by rfl) rfl)⟩
theorem fX8_33 : ex_F RX8 33 4 1 .int false := ⟨RX4, TX4, 4, tyX4, rfl, (by decide +kernel), igX4, tyX4_ok, nmX4, rfl, rfl, rfl, (ex_tw 57 (by rfl) rfl)⟩
theorem fX6_46 : ex_F RX6 46 4 1 .int false := ⟨RX4, TX4, 4, tyX4, rfl, (by decide +kernel), igX4, tyX4_ok, nmX4, rfl, rfl, rfl, (ex_tw 58 (by rfl) rfl)⟩
theorem fX9_102 : ex_F RX9 102 4 1 .int false := ⟨RX4, TX4, 4, tyX4, rfl, (by decide +kernel), igX4, tyX4_ok, nmX4, rfl, rfl, rfl, (ex_tw 59 (by rfl) rfl)⟩
theorem fX4_18 : ex_F RX4 18 4 2 (.array .int) true := ⟨RX4, TX4, 4, tyX4, rfl, (by decide +kernel), igX4, tyX4_ok, nmX4, rfl, rfl, rfl, (ex_tw 60 (by rfl) rfl)⟩
theorem fX4_22 : ex_F RX4 22 4 3 (.array .boolean) true := ⟨RX4, TX4, 4, tyX4, rfl, (by decide +kernel), igX4, tyX4_ok, nmX4, rfl, rfl, rfl, (ex_tw 61 (by rfl) rfl)⟩
theorem fX2_9 : ex_F RX2 9 2 0 .int false := ⟨RX2, TX2, 2, tyX2, rfl, (by decide +kernel), igX2, tyX2_ok, nmX2, rfl, rfl, rfl, (ex_tw 80 (by rfl) rfl)⟩
theorem fX9_124 : ex_F RX9 124 2 0 .int false := ⟨RX2, TX2, 2, tyX2, rfl, (by decide +kernel), igX2, tyX2_ok, nmX2, rfl, rfl, rfl, (ex_tw 81 (by rfl) rfl)⟩
theorem fX2_17 : ex_F RX2 17 2 1 (.array (.object "TalliedWindows$Filter")) true := ⟨RX2, TX2, 2, tyX2, rfl, (by decide +kernel), igX2, tyX2_ok, nmX2, rfl, rfl, rfl, (ex_tw 82 (by rfl) rfl)⟩
theorem fX6_12 : ex_F RX6 12 6 0 (.object "TalliedWindows$Picture") true := ⟨RX6, TX6, 4, tyX6, rfl, (by decide +kernel), igX6, tyX6_ok, nmX6, rfl, rfl, rfl, (ex_tw 88 (by rfl) rfl)⟩
theorem fX9_86 : ex_F RX9 86 6 0 (.object "TalliedWindows$Picture") true := ⟨RX6, TX6, 4, tyX6, rfl, (by decide +kernel), igX6, tyX6_ok, nmX6, rfl, rfl, rfl, (ex_tw 89 (by rfl) rfl)⟩
theorem fX6_21 : ex_F RX6 21 6 1 (.object "TalliedWindows$Filters") true := ⟨RX6, TX6, 4, tyX6, rfl, (by decide +kernel), igX6, tyX6_ok, nmX6, rfl, rfl, rfl, (ex_tw 90 (by rfl) rfl)⟩
theorem fX9_120 : ex_F RX9 120 6 1 (.object "TalliedWindows$Filters") true := ⟨RX6, TX6, 4, tyX6, rfl, (by decide +kernel), igX6, tyX6_ok, nmX6, rfl, rfl, rfl, (ex_tw 91 (by rfl) rfl)⟩
theorem fX6_25 : ex_F RX6 25 6 2 .int false := ⟨RX6, TX6, 4, tyX6, rfl, (by decide +kernel), igX6, tyX6_ok, nmX6, rfl, rfl, rfl, (ex_tw 92 (by rfl) rfl)⟩
theorem fX9_129 : ex_F RX9 129 6 2 .int false := ⟨RX6, TX6, 4, tyX6, rfl, (by decide +kernel), igX6, tyX6_ok, nmX6, rfl, rfl, rfl, (ex_tw 93 (by rfl) rfl)⟩
theorem fX6_29 : ex_F RX6 29 6 3 .int false := ⟨RX6, TX6, 4, tyX6, rfl, (by decide +kernel), igX6, tyX6_ok, nmX6, rfl, rfl, rfl, (ex_tw 94 (by rfl) rfl)⟩
theorem fX9_224 : ex_F RX9 224 6 3 .int false := ⟨RX6, TX6, 4, tyX6, rfl, (by decide +kernel), igX6, tyX6_ok, nmX6, rfl, rfl, rfl, (ex_tw 95 (by rfl) rfl)⟩
theorem fX3_7 : ex_F RX3 7 3 0 .int false := ⟨RX3, TX3, 3, tyX3, rfl, (by decide +kernel), igX3, tyX3_ok, nmX3, rfl, rfl, rfl, (ex_tw 115 (by rfl) rfl)⟩
theorem fX9_136 : ex_F RX9 136 3 0 .int false := ⟨RX3, TX3, 3, tyX3, rfl, (by decide +kernel), igX3, tyX3_ok, nmX3, rfl, rfl, rfl, (ex_tw 116 (by rfl) rfl)⟩
theorem fX3_13 : ex_F RX3 13 3 1 .int false := ⟨RX3, TX3, 3, tyX3, rfl, (by decide +kernel), igX3, tyX3_ok, nmX3, rfl, rfl, rfl, (ex_tw 117 (by rfl) rfl)⟩
theorem fX3_18 : ex_F RX3 18 3 2 (.array (.object "TalliedWindows$Picture")) true := ⟨RX3, TX3, 3, tyX3, rfl, (by decide +kernel), igX3, tyX3_ok, nmX3, rfl, rfl, rfl, (ex_tw 118 (by rfl) rfl)⟩
theorem fX0_9 : ex_F RX0 9 0 0 .int false := ⟨RX0, TX0, 4, tyX0, rfl, (by decide +kernel), igX0, tyX0_ok, nmX0, rfl, rfl, rfl, (ex_tw 132 (by rfl) rfl)⟩
theorem fX9_132 : ex_F RX9 132 0 0 .int false := ⟨RX0, TX0, 4, tyX0, rfl, (by decide +kernel), igX0, tyX0_ok, nmX0, rfl, rfl, rfl, (ex_tw 133 (by rfl) rfl)⟩
theorem fX0_15 : ex_F RX0 15 0 1 (.array .int) true := ⟨RX0, TX0, 4, tyX0, rfl, (by decide +kernel), igX0, tyX0_ok, nmX0, rfl, rfl, rfl, (ex_tw 134 (by rfl) rfl)⟩
theorem fX0_19 : ex_F RX0 19 0 2 (.array .int) true := ⟨RX0, TX0, 4, tyX0, rfl, (by decide +kernel), igX0, tyX0_ok, nmX0, rfl, rfl, rfl, (ex_tw 135 (by rfl) rfl)⟩
theorem fX0_22 : ex_F RX0 22 0 3 (.array .int) true := ⟨RX0, TX0, 4, tyX0, rfl, (by decide +kernel), igX0, tyX0_ok, nmX0, rfl, rfl, rfl, (ex_tw 136 (by rfl) rfl)⟩
theorem fX8_9 : ex_F RX8 9 8 0 .int false := ⟨RX8, TX8, 3, tyX8, rfl, (by decide +kernel), igX8, tyX8_ok, nmX8, rfl, rfl, rfl, (ex_tw 152 (by rfl) rfl)⟩
theorem fX9_184 : ex_F RX9 184 8 0 .int false := ⟨RX8, TX8, 3, tyX8, rfl, (by decide +kernel), igX8, tyX8_ok, nmX8, rfl, rfl, rfl, (ex_tw 153 (by rfl) rfl)⟩
theorem fX8_15 : ex_F RX8 15 8 1 (.array .int) true := ⟨RX8, TX8, 3, tyX8, rfl, (by decide +kernel), igX8, tyX8_ok, nmX8, rfl, rfl, rfl, (ex_tw 154 (by rfl) rfl)⟩
theorem fX8_19 : ex_F RX8 19 8 2 (.array .int) true := ⟨RX8, TX8, 3, tyX8, rfl, (by decide +kernel), igX8, tyX8_ok, nmX8, rfl, rfl, rfl, (ex_tw 155 (by rfl) rfl)⟩
theorem fX9_10 : ex_F RX9 10 9 0 (.object "TalliedWindows$Text") true := ⟨RX9, TX9, 10, tyX9, rfl, (by decide +kernel), igX9, tyX9_ok, nmX9, rfl, rfl, rfl, (ex_tw 165 (by rfl) rfl)⟩
theorem fX9_19 : ex_F RX9 19 9 1 (.object "TalliedWindows$State") true := ⟨RX9, TX9, 10, tyX9, rfl, (by decide +kernel), igX9, tyX9_ok, nmX9, rfl, rfl, rfl, (ex_tw 166 (by rfl) rfl)⟩
theorem fX9_23 : ex_F RX9 23 9 2 (.array (.object "TalliedWindows$State")) true := ⟨RX9, TX9, 10, tyX9, rfl, (by decide +kernel), igX9, tyX9_ok, nmX9, rfl, rfl, rfl, (ex_tw 167 (by rfl) rfl)⟩
theorem fX9_27 : ex_F RX9 27 9 3 (.array .boolean) true := ⟨RX9, TX9, 10, tyX9, rfl, (by decide +kernel), igX9, tyX9_ok, nmX9, rfl, rfl, rfl, (ex_tw 168 (by rfl) rfl)⟩
theorem fX9_34 : ex_F RX9 34 9 4 (.object "TalliedWindows$History") true := ⟨RX9, TX9, 10, tyX9, rfl, (by decide +kernel), igX9, tyX9_ok, nmX9, rfl, rfl, rfl, (ex_tw 169 (by rfl) rfl)⟩
theorem fX9_41 : ex_F RX9 41 9 5 (.object "TalliedWindows$Book") true := ⟨RX9, TX9, 10, tyX9, rfl, (by decide +kernel), igX9, tyX9_ok, nmX9, rfl, rfl, rfl, (ex_tw 170 (by rfl) rfl)⟩
theorem fX9_48 : ex_F RX9 48 9 6 (.object "TalliedWindows$Window") true := ⟨RX9, TX9, 10, tyX9, rfl, (by decide +kernel), igX9, tyX9_ok, nmX9, rfl, rfl, rfl, (ex_tw 171 (by rfl) rfl)⟩
theorem fX9_55 : ex_F RX9 55 9 7 (.object "TalliedWindows$Picture") true := ⟨RX9, TX9, 10, tyX9, rfl, (by decide +kernel), igX9, tyX9_ok, nmX9, rfl, rfl, rfl, (ex_tw 172 (by rfl) rfl)⟩
theorem fX9_59 : ex_F RX9 59 9 8 (.object "TalliedWindows$Picture") true := ⟨RX9, TX9, 10, tyX9, rfl, (by decide +kernel), igX9, tyX9_ok, nmX9, rfl, rfl, rfl, (ex_tw 173 (by rfl) rfl)⟩
theorem fX9_62 : ex_F RX9 62 9 9 .int false := ⟨RX9, TX9, 10, tyX9, rfl, (by decide +kernel), igX9, tyX9_ok, nmX9, rfl, rfl, rfl, (ex_tw 174 (by rfl) rfl)⟩
theorem fX5_27 : ex_F RX5 27 5 0 (.object "TalliedWindows$Picture") true := ⟨RX5, TX5, 6, tyX5, rfl, (by decide +kernel), igX5, tyX5_ok, nmX5, rfl, rfl, rfl, (ex_tw 223 (by rfl) rfl)⟩
theorem fX5_9 : ex_F RX5 9 5 1 .int false := ⟨RX5, TX5, 6, tyX5, rfl, (by decide +kernel), igX5, tyX5_ok, nmX5, rfl, rfl, rfl, (ex_tw 224 (by rfl) rfl)⟩
theorem fX5_15 : ex_F RX5 15 5 2 .int false := ⟨RX5, TX5, 6, tyX5, rfl, (by decide +kernel), igX5, tyX5_ok, nmX5, rfl, rfl, rfl, (ex_tw 225 (by rfl) rfl)⟩
theorem fX5_18 : ex_F RX5 18 5 3 .int false := ⟨RX5, TX5, 6, tyX5, rfl, (by decide +kernel), igX5, tyX5_ok, nmX5, rfl, rfl, rfl, (ex_tw 226 (by rfl) rfl)⟩
theorem fX5_21 : ex_F RX5 21 5 4 .int false := ⟨RX5, TX5, 6, tyX5, rfl, (by decide +kernel), igX5, tyX5_ok, nmX5, rfl, rfl, rfl, (ex_tw 227 (by rfl) rfl)⟩
theorem fX5_24 : ex_F RX5 24 5 5 .int false := ⟨RX5, TX5, 6, tyX5, rfl, (by decide +kernel), igX5, tyX5_ok, nmX5, rfl, rfl, rfl, (ex_tw 228 (by rfl) rfl)⟩
theorem fX1_7 : ex_F RX1 7 1 0 .int true := ⟨RX1, TX1, 5, tyX1, rfl, (by decide +kernel), igX1, tyX1_ok, nmX1, rfl, rfl, rfl, (ex_tw 368 (by rfl) rfl)⟩
theorem fX8_68 : ex_F RX8 68 1 0 .int true := ⟨RX1, TX1, 5, tyX1, rfl, (by decide +kernel), igX1, tyX1_ok, nmX1, rfl, rfl, rfl, (ex_tw 369 (by rfl) rfl)⟩
theorem fX1_13 : ex_F RX1 13 1 1 .int true := ⟨RX1, TX1, 5, tyX1, rfl, (by decide +kernel), igX1, tyX1_ok, nmX1, rfl, rfl, rfl, (ex_tw 370 (by rfl) rfl)⟩
theorem fX8_28 : ex_F RX8 28 1 1 .int true := ⟨RX1, TX1, 5, tyX1, rfl, (by decide +kernel), igX1, tyX1_ok, nmX1, rfl, rfl, rfl, (ex_tw 371 (by rfl) rfl)⟩
theorem fX1_16 : ex_F RX1 16 1 2 .int true := ⟨RX1, TX1, 5, tyX1, rfl, (by decide +kernel), igX1, tyX1_ok, nmX1, rfl, rfl, rfl, (ex_tw 372 (by rfl) rfl)⟩
theorem fX9_178 : ex_F RX9 178 1 2 .int true := ⟨RX1, TX1, 5, tyX1, rfl, (by decide +kernel), igX1, tyX1_ok, nmX1, rfl, rfl, rfl, (ex_tw 373 (by rfl) rfl)⟩
theorem fX1_19 : ex_F RX1 19 1 3 .int true := ⟨RX1, TX1, 5, tyX1, rfl, (by decide +kernel), igX1, tyX1_ok, nmX1, rfl, rfl, rfl, (ex_tw 374 (by rfl) rfl)⟩
theorem fX8_38 : ex_F RX8 38 1 3 .int true := ⟨RX1, TX1, 5, tyX1, rfl, (by decide +kernel), igX1, tyX1_ok, nmX1, rfl, rfl, rfl, (ex_tw 375 (by rfl) rfl)⟩
theorem fX1_22 : ex_F RX1 22 1 4 .int true := ⟨RX1, TX1, 5, tyX1, rfl, (by decide +kernel), igX1, tyX1_ok, nmX1, rfl, rfl, rfl, (ex_tw 376 (by rfl) rfl)⟩
theorem fX8_57 : ex_F RX8 57 1 4 .int true := ⟨RX1, TX1, 5, tyX1, rfl, (by decide +kernel), igX1, tyX1_ok, nmX1, rfl, rfl, rfl, (ex_tw 377 (by rfl) rfl)⟩
set_option maxRecDepth 20000 in
theorem fX10_7 : ex_F RX10 7 10 0 (.array .int) true := ⟨RX10, TX10, 23, tyX10, rfl, (by decide +kernel), igX10, tyX10_ok, nmX10, rfl, rfl, rfl, (ex_tw 597 (by rfl) rfl)⟩
set_option maxRecDepth 20000 in
theorem fX10_51 : ex_F RX10 51 10 1 .int false := ⟨RX10, TX10, 23, tyX10, rfl, (by decide +kernel), igX10, tyX10_ok, nmX10, rfl, rfl, rfl, (ex_tw 598 (by rfl) rfl)⟩
set_option maxRecDepth 20000 in
theorem fX10_221 : ex_F RX10 221 10 2 .int false := ⟨RX10, TX10, 23, tyX10, rfl, (by decide +kernel), igX10, tyX10_ok, nmX10, rfl, rfl, rfl, (ex_tw 599 (by rfl) rfl)⟩
set_option maxRecDepth 20000 in
theorem fX10_204 : ex_F RX10 204 10 3 .int false := ⟨RX10, TX10, 23, tyX10, rfl, (by decide +kernel), igX10, tyX10_ok, nmX10, rfl, rfl, rfl, (ex_tw 600 (by rfl) rfl)⟩
set_option maxRecDepth 20000 in
theorem fX10_13 : ex_F RX10 13 10 4 (.array .int) true := ⟨RX10, TX10, 23, tyX10, rfl, (by decide +kernel), igX10, tyX10_ok, nmX10, rfl, rfl, rfl, (ex_tw 601 (by rfl) rfl)⟩
set_option maxRecDepth 20000 in
theorem fX10_98 : ex_F RX10 98 10 5 .int false := ⟨RX10, TX10, 23, tyX10, rfl, (by decide +kernel), igX10, tyX10_ok, nmX10, rfl, rfl, rfl, (ex_tw 602 (by rfl) rfl)⟩
set_option maxRecDepth 20000 in
theorem fX10_16 : ex_F RX10 16 10 6 .int false := ⟨RX10, TX10, 23, tyX10, rfl, (by decide +kernel), igX10, tyX10_ok, nmX10, rfl, rfl, rfl, (ex_tw 603 (by rfl) rfl)⟩
set_option maxRecDepth 20000 in
theorem fX10_20 : ex_F RX10 20 10 7 (.array .int) true := ⟨RX10, TX10, 23, tyX10, rfl, (by decide +kernel), igX10, tyX10_ok, nmX10, rfl, rfl, rfl, (ex_tw 604 (by rfl) rfl)⟩
set_option maxRecDepth 20000 in
theorem fX10_127 : ex_F RX10 127 10 8 .int false := ⟨RX10, TX10, 23, tyX10, rfl, (by decide +kernel), igX10, tyX10_ok, nmX10, rfl, rfl, rfl, (ex_tw 605 (by rfl) rfl)⟩
set_option maxRecDepth 20000 in
theorem fX10_23 : ex_F RX10 23 10 9 (.array .int) true := ⟨RX10, TX10, 23, tyX10, rfl, (by decide +kernel), igX10, tyX10_ok, nmX10, rfl, rfl, rfl, (ex_tw 606 (by rfl) rfl)⟩
set_option maxRecDepth 20000 in
theorem fX10_26 : ex_F RX10 26 10 10 (.array .int) true := ⟨RX10, TX10, 23, tyX10, rfl, (by decide +kernel), igX10, tyX10_ok, nmX10, rfl, rfl, rfl, (ex_tw 607 (by rfl) rfl)⟩
set_option maxRecDepth 20000 in
theorem fX10_29 : ex_F RX10 29 10 11 (.array .int) true := ⟨RX10, TX10, 23, tyX10, rfl, (by decide +kernel), igX10, tyX10_ok, nmX10, rfl, rfl, rfl, (ex_tw 608 (by rfl) rfl)⟩
set_option maxRecDepth 20000 in
theorem fX10_32 : ex_F RX10 32 10 12 (.array .int) true := ⟨RX10, TX10, 23, tyX10, rfl, (by decide +kernel), igX10, tyX10_ok, nmX10, rfl, rfl, rfl, (ex_tw 609 (by rfl) rfl)⟩
set_option maxRecDepth 20000 in
theorem fX10_35 : ex_F RX10 35 10 13 (.array .int) true := ⟨RX10, TX10, 23, tyX10, rfl, (by decide +kernel), igX10, tyX10_ok, nmX10, rfl, rfl, rfl, (ex_tw 610 (by rfl) rfl)⟩
set_option maxRecDepth 20000 in
theorem fX10_38 : ex_F RX10 38 10 14 (.array .int) true := ⟨RX10, TX10, 23, tyX10, rfl, (by decide +kernel), igX10, tyX10_ok, nmX10, rfl, rfl, rfl, (ex_tw 611 (by rfl) rfl)⟩
set_option maxRecDepth 20000 in
theorem fX10_163 : ex_F RX10 163 10 15 .int false := ⟨RX10, TX10, 23, tyX10, rfl, (by decide +kernel), igX10, tyX10_ok, nmX10, rfl, rfl, rfl, (ex_tw 612 (by rfl) rfl)⟩
set_option maxRecDepth 20000 in
theorem fX10_74 : ex_F RX10 74 10 16 .int false := ⟨RX10, TX10, 23, tyX10, rfl, (by decide +kernel), igX10, tyX10_ok, nmX10, rfl, rfl, rfl, (ex_tw 613 (by rfl) rfl)⟩
set_option maxRecDepth 20000 in
theorem fX10_77 : ex_F RX10 77 10 17 .int false := ⟨RX10, TX10, 23, tyX10, rfl, (by decide +kernel), igX10, tyX10_ok, nmX10, rfl, rfl, rfl, (ex_tw 614 (by rfl) rfl)⟩
set_option maxRecDepth 20000 in
theorem fX10_80 : ex_F RX10 80 10 18 .int false := ⟨RX10, TX10, 23, tyX10, rfl, (by decide +kernel), igX10, tyX10_ok, nmX10, rfl, rfl, rfl, (ex_tw 615 (by rfl) rfl)⟩
set_option maxRecDepth 20000 in
theorem fX10_83 : ex_F RX10 83 10 19 .int false := ⟨RX10, TX10, 23, tyX10, rfl, (by decide +kernel), igX10, tyX10_ok, nmX10, rfl, rfl, rfl, (ex_tw 616 (by rfl) rfl)⟩
set_option maxRecDepth 20000 in
theorem fX10_41 : ex_F RX10 41 10 20 (.array .int) true := ⟨RX10, TX10, 23, tyX10, rfl, (by decide +kernel), igX10, tyX10_ok, nmX10, rfl, rfl, rfl, (ex_tw 617 (by rfl) rfl)⟩
set_option maxRecDepth 20000 in
theorem fX10_121 : ex_F RX10 121 10 21 .int false := ⟨RX10, TX10, 23, tyX10, rfl, (by decide +kernel), igX10, tyX10_ok, nmX10, rfl, rfl, rfl, (ex_tw 618 (by rfl) rfl)⟩
set_option maxRecDepth 20000 in
theorem fX10_44 : ex_F RX10 44 10 22 (.array .int) true := ⟨RX10, TX10, 23, tyX10, rfl, (by decide +kernel), igX10, tyX10_ok, nmX10, rfl, rfl, rfl, (ex_tw 619 (by rfl) rfl)⟩
theorem nL_7 : ex_N RL 7 9 10 [.null, .null, .null, .null, .null, .null, .null, .null, .null, .int 0] := ⟨RX9, TX9, tyX9, rfl, igX9, tyX9_ok, (ex_tw 14 (by rfl) rfl), (ex_tw 15 (by rfl) rfl), (ex_tw 1 (by rfl) rfl), fun b j hj => by
  match j, hj with
  | 0, _ => rfl
  | 1, _ => rfl
  | 2, _ => rfl
  | 3, _ => rfl
  | 4, _ => rfl
  | 5, _ => rfl
  | 6, _ => rfl
  | 7, _ => rfl
  | 8, _ => rfl
  | 9, _ => rfl
  | q + 10, h => exact absurd h (by omega)⟩
theorem lL_7 : Cond.classLink RL 7 RX9 ∈ ex_g := (ex_tw 14 (by rfl) rfl)
theorem nX9_7 : ex_N RX9 7 7 3 [.int 0, .null, .int 0] := ⟨RX7, TX7, tyX7, rfl, igX7, tyX7_ok, (ex_tw 22 (by rfl) rfl), (ex_tw 23 (by rfl) rfl), (ex_tw 2 (by rfl) rfl), fun b j hj => by
  match j, hj with
  | 0, _ => rfl
  | 1, _ => rfl
  | 2, _ => rfl
  | q + 3, h => exact absurd h (by omega)⟩
theorem lX9_7 : Cond.classLink RX9 7 RX7 ∈ ex_g := (ex_tw 22 (by rfl) rfl)
theorem nX9_16 : ex_N RX9 16 6 4 [.null, .null, .int 0, .int 0] := ⟨RX6, TX6, tyX6, rfl, igX6, tyX6_ok, (ex_tw 40 (by rfl) rfl), (ex_tw 41 (by rfl) rfl), (ex_tw 3 (by rfl) rfl), fun b j hj => by
  match j, hj with
  | 0, _ => rfl
  | 1, _ => rfl
  | 2, _ => rfl
  | 3, _ => rfl
  | q + 4, h => exact absurd h (by omega)⟩
theorem lX9_16 : Cond.classLink RX9 16 RX6 ∈ ex_g := (ex_tw 40 (by rfl) rfl)
theorem nX6_9 : ex_N RX6 9 4 4 [.int 0, .int 0, .null, .null] := ⟨RX4, TX4, tyX4, rfl, igX4, tyX4_ok, (ex_tw 46 (by rfl) rfl), (ex_tw 47 (by rfl) rfl), (ex_tw 4 (by rfl) rfl), fun b j hj => by
  match j, hj with
  | 0, _ => rfl
  | 1, _ => rfl
  | 2, _ => rfl
  | 3, _ => rfl
  | q + 4, h => exact absurd h (by omega)⟩
theorem lX6_9 : Cond.classLink RX6 9 RX4 ∈ ex_g := (ex_tw 46 (by rfl) rfl)
theorem nX6_18 : ex_N RX6 18 2 2 [.int 0, .null] := ⟨RX2, TX2, tyX2, rfl, igX2, tyX2_ok, (ex_tw 72 (by rfl) rfl), (ex_tw 73 (by rfl) rfl), (ex_tw 5 (by rfl) rfl), fun b j hj => by
  match j, hj with
  | 0, _ => rfl
  | 1, _ => rfl
  | q + 2, h => exact absurd h (by omega)⟩
theorem lX6_18 : Cond.classLink RX6 18 RX2 ∈ ex_g := (ex_tw 72 (by rfl) rfl)
theorem nX2_15 : ex_N RX2 15 1 5 [.int 0, .int 0, .int 0, .int 0, .int 0] := ⟨RX1, TX1, tyX1, rfl, igX1, tyX1_ok, (ex_tw 78 (by rfl) rfl), (ex_tw 363 (by rfl) rfl), (ex_tw 11 (by rfl) rfl), fun b j hj => by
  match j, hj with
  | 0, _ => rfl
  | 1, _ => rfl
  | 2, _ => rfl
  | 3, _ => rfl
  | 4, _ => rfl
  | q + 5, h => exact absurd h (by omega)⟩
theorem lX2_15 : Cond.classLink RX2 15 RX1 ∈ ex_g := (ex_tw 78 (by rfl) rfl)
theorem nX9_31 : ex_N RX9 31 3 3 [.int 0, .int 0, .null] := ⟨RX3, TX3, tyX3, rfl, igX3, tyX3_ok, (ex_tw 106 (by rfl) rfl), (ex_tw 107 (by rfl) rfl), (ex_tw 6 (by rfl) rfl), fun b j hj => by
  match j, hj with
  | 0, _ => rfl
  | 1, _ => rfl
  | 2, _ => rfl
  | q + 3, h => exact absurd h (by omega)⟩
theorem lX9_31 : Cond.classLink RX9 31 RX3 ∈ ex_g := (ex_tw 106 (by rfl) rfl)
theorem nX3_16 : ex_N RX3 16 4 4 [.int 0, .int 0, .null, .null] := ⟨RX4, TX4, tyX4, rfl, igX4, tyX4_ok, (ex_tw 112 (by rfl) rfl), (ex_tw 47 (by rfl) rfl), (ex_tw 4 (by rfl) rfl), fun b j hj => by
  match j, hj with
  | 0, _ => rfl
  | 1, _ => rfl
  | 2, _ => rfl
  | 3, _ => rfl
  | q + 4, h => exact absurd h (by omega)⟩
theorem lX3_16 : Cond.classLink RX3 16 RX4 ∈ ex_g := (ex_tw 112 (by rfl) rfl)
theorem nX9_38 : ex_N RX9 38 0 4 [.int 0, .null, .null, .null] := ⟨RX0, TX0, tyX0, rfl, igX0, tyX0_ok, (ex_tw 126 (by rfl) rfl), (ex_tw 127 (by rfl) rfl), (ex_tw 7 (by rfl) rfl), fun b j hj => by
  match j, hj with
  | 0, _ => rfl
  | 1, _ => rfl
  | 2, _ => rfl
  | 3, _ => rfl
  | q + 4, h => exact absurd h (by omega)⟩
theorem lX9_38 : Cond.classLink RX9 38 RX0 ∈ ex_g := (ex_tw 126 (by rfl) rfl)
theorem nX9_45 : ex_N RX9 45 8 3 [.int 0, .null, .null] := ⟨RX8, TX8, tyX8, rfl, igX8, tyX8_ok, (ex_tw 146 (by rfl) rfl), (ex_tw 147 (by rfl) rfl), (ex_tw 8 (by rfl) rfl), fun b j hj => by
  match j, hj with
  | 0, _ => rfl
  | 1, _ => rfl
  | 2, _ => rfl
  | q + 3, h => exact absurd h (by omega)⟩
theorem lX9_45 : Cond.classLink RX9 45 RX8 ∈ ex_g := (ex_tw 146 (by rfl) rfl)
theorem nX9_52 : ex_N RX9 52 4 4 [.int 0, .int 0, .null, .null] := ⟨RX4, TX4, tyX4, rfl, igX4, tyX4_ok, (ex_tw 163 (by rfl) rfl), (ex_tw 47 (by rfl) rfl), (ex_tw 4 (by rfl) rfl), fun b j hj => by
  match j, hj with
  | 0, _ => rfl
  | 1, _ => rfl
  | 2, _ => rfl
  | 3, _ => rfl
  | q + 4, h => exact absurd h (by omega)⟩
theorem lX9_52 : Cond.classLink RX9 52 RX4 ∈ ex_g := (ex_tw 163 (by rfl) rfl)
theorem nX7_23 : ex_N RX7 23 5 6 [.null, .int 0, .int 0, .int 0, .int 0, .int 0] := ⟨RX5, TX5, tyX5, rfl, igX5, tyX5_ok, (ex_tw 217 (by rfl) rfl), (ex_tw 218 (by rfl) rfl), (ex_tw 10 (by rfl) rfl), fun b j hj => by
  match j, hj with
  | 0, _ => rfl
  | 1, _ => rfl
  | 2, _ => rfl
  | 3, _ => rfl
  | 4, _ => rfl
  | 5, _ => rfl
  | q + 6, h => exact absurd h (by omega)⟩
theorem lX7_23 : Cond.classLink RX7 23 RX5 ∈ ex_g := (ex_tw 217 (by rfl) rfl)
theorem nX9_158 : ex_N RX9 158 1 5 [.int 0, .int 0, .int 0, .int 0, .int 0] := ⟨RX1, TX1, tyX1, rfl, igX1, tyX1_ok, (ex_tw 362 (by rfl) rfl), (ex_tw 363 (by rfl) rfl), (ex_tw 11 (by rfl) rfl), fun b j hj => by
  match j, hj with
  | 0, _ => rfl
  | 1, _ => rfl
  | 2, _ => rfl
  | 3, _ => rfl
  | 4, _ => rfl
  | q + 5, h => exact absurd h (by omega)⟩
theorem lX9_158 : Cond.classLink RX9 158 RX1 ∈ ex_g := (ex_tw 362 (by rfl) rfl)
set_option maxRecDepth 20000 in
theorem nL_10 : ex_N RL 10 10 23 [.null, .int 0, .int 0, .int 0, .null, .int 0, .int 0, .null, .int 0, .null, .null, .null, .null, .null, .null, .int 0, .int 0, .int 0, .int 0, .int 0, .null, .int 0, .null] := ⟨RX10, TX10, tyX10, rfl, igX10, tyX10_ok, (ex_tw 591 (by rfl) rfl), (ex_tw 592 (by rfl) rfl), (ex_tw 9 (by rfl) rfl), fun b j hj => by
  match j, hj with
  | 0, _ => rfl
  | 1, _ => rfl
  | 2, _ => rfl
  | 3, _ => rfl
  | 4, _ => rfl
  | 5, _ => rfl
  | 6, _ => rfl
  | 7, _ => rfl
  | 8, _ => rfl
  | 9, _ => rfl
  | 10, _ => rfl
  | 11, _ => rfl
  | 12, _ => rfl
  | 13, _ => rfl
  | 14, _ => rfl
  | 15, _ => rfl
  | 16, _ => rfl
  | 17, _ => rfl
  | 18, _ => rfl
  | 19, _ => rfl
  | 20, _ => rfl
  | 21, _ => rfl
  | 22, _ => rfl
  | q + 23, h => exact absurd h (by omega)⟩
set_option maxRecDepth 20000 in
theorem lL_10 : Cond.classLink RL 10 RX10 ∈ ex_g := (ex_tw 591 (by rfl) rfl)
theorem vL_9 : ex_I RL 9 mX9_init 0 := ⟨cmX9_init, (ex_tw 17 (by rfl) rfl), rfl, rfl, (Or.inl (ex_tw 16 (by rfl) rfl))⟩
theorem oX9_1 : Cond.methodLink RX9 1 Lib.objectInit ∈ ex_g := (ex_tw 19 (by rfl) rfl)
theorem oX7_3 : Cond.methodLink RX7 3 Lib.objectInit ∈ ex_g := (ex_tw 27 (by rfl) rfl)
theorem oX6_3 : Cond.methodLink RX6 3 Lib.objectInit ∈ ex_g := (ex_tw 45 (by rfl) rfl)
theorem oX4_3 : Cond.methodLink RX4 3 Lib.objectInit ∈ ex_g := (ex_tw 51 (by rfl) rfl)
theorem oX2_3 : Cond.methodLink RX2 3 Lib.objectInit ∈ ex_g := (ex_tw 77 (by rfl) rfl)
theorem vX9_33 : ex_I RX9 33 mX3_init 0 := ⟨cmX3_init, (ex_tw 109 (by rfl) rfl), rfl, rfl, (Or.inl (ex_tw 108 (by rfl) rfl))⟩
theorem oX3_1 : Cond.methodLink RX3 1 Lib.objectInit ∈ ex_g := (ex_tw 111 (by rfl) rfl)
theorem oX0_3 : Cond.methodLink RX0 3 Lib.objectInit ∈ ex_g := (ex_tw 131 (by rfl) rfl)
theorem oX8_3 : Cond.methodLink RX8 3 Lib.objectInit ∈ ex_g := (ex_tw 151 (by rfl) rfl)
theorem vL_13 : ex_V RL 13 mX9_feed 1 := ⟨cmX9_feed, (ex_tw 196 (by rfl) rfl), (ex_tw 197 (by rfl) rfl), (ex_tw 198 (by rfl) rfl)⟩
theorem vX9_66 : ex_S RX9 66 mX9_within 3 := ⟨cmX9_within, (ex_tw 201 (by rfl) rfl), (Or.inl (ex_tw 200 (by rfl) rfl))⟩
theorem vX9_71 : ex_V RX9 71 mX7_append 1 := ⟨cmX7_append, (ex_tw 204 (by rfl) rfl), (ex_tw 205 (by rfl) rfl), (ex_tw 206 (by rfl) rfl)⟩
theorem vL_18 : ex_V RL 18 mX9_picture 0 := ⟨cmX9_picture, (ex_tw 209 (by rfl) rfl), (ex_tw 210 (by rfl) rfl), (ex_tw 211 (by rfl) rfl)⟩
theorem vX9_75 : ex_V RX9 75 mX7_readInto 1 := ⟨cmX7_readInto, (ex_tw 213 (by rfl) rfl), (ex_tw 214 (by rfl) rfl), (ex_tw 215 (by rfl) rfl)⟩
theorem vX7_25 : ex_I RX7 25 mX5_init 1 := ⟨cmX5_init, (ex_tw 220 (by rfl) rfl), rfl, rfl, (Or.inl (ex_tw 219 (by rfl) rfl))⟩
theorem oX5_3 : Cond.methodLink RX5 3 Lib.objectInit ∈ ex_g := (ex_tw 222 (by rfl) rfl)
theorem vX7_28 : ex_V RX7 28 mX5_take 1 := ⟨cmX5_take, (ex_tw 242 (by rfl) rfl), (ex_tw 243 (by rfl) rfl), (ex_tw 244 (by rfl) rfl)⟩
theorem vX5_31 : ex_V RX5 31 mX5_takeRowEnd 1 := ⟨cmX5_takeRowEnd, (ex_tw 246 (by rfl) rfl), (ex_tw 247 (by rfl) rfl), (ex_tw 248 (by rfl) rfl)⟩
theorem vX5_45 : ex_V RX5 45 mX4_setSize 2 := ⟨cmX4_setSize, (ex_tw 250 (by rfl) rfl), (ex_tw 251 (by rfl) rfl), (ex_tw 252 (by rfl) rfl)⟩
theorem vX5_35 : ex_S RX5 35 mX5_signOf 1 := ⟨cmX5_signOf, (ex_tw 256 (by rfl) rfl), (Or.inl (ex_tw 255 (by rfl) rfl))⟩
theorem vX5_39 : ex_V RX5 39 mX5_takeFirstSign 1 := ⟨cmX5_takeFirstSign, (ex_tw 259 (by rfl) rfl), (ex_tw 261 (by rfl) rfl), (ex_ts 0 (by rfl) rfl)⟩
theorem vX5_42 : ex_V RX5 42 mX5_takeSecondSign 1 := ⟨cmX5_takeSecondSign, (ex_tw 263 (by rfl) rfl), (ex_tw 265 (by rfl) rfl), (ex_ts 1 (by rfl) rfl)⟩
theorem vX5_51 : ex_V RX5 51 mX4_setInOrder 3 := ⟨cmX4_setInOrder, (ex_tw 267 (by rfl) rfl), (ex_tw 268 (by rfl) rfl), (ex_tw 269 (by rfl) rfl)⟩
theorem vX7_32 : ex_V RX7 32 mX5_takeRowEnd 1 := ⟨cmX5_takeRowEnd, (ex_tw 271 (by rfl) rfl), (ex_tw 247 (by rfl) rfl), (ex_tw 248 (by rfl) rfl)⟩
theorem vX9_79 : ex_V RX9 79 mX7_placeRead 0 := ⟨cmX7_placeRead, (ex_tw 272 (by rfl) rfl), (ex_tw 273 (by rfl) rfl), (ex_tw 274 (by rfl) rfl)⟩
theorem vX9_83 : ex_V RX9 83 mX7_clear 0 := ⟨cmX7_clear, (ex_tw 276 (by rfl) rfl), (ex_tw 277 (by rfl) rfl), (ex_tw 278 (by rfl) rfl)⟩
theorem vX9_89 : ex_V RX9 89 mX3_remember 1 := ⟨cmX3_remember, (ex_tw 280 (by rfl) rfl), (ex_tw 281 (by rfl) rfl), (ex_tw 282 (by rfl) rfl)⟩
theorem vX3_23 : ex_V RX3 23 mX4_become 1 := ⟨cmX4_become, (ex_tw 284 (by rfl) rfl), (ex_tw 285 (by rfl) rfl), (ex_tw 286 (by rfl) rfl)⟩
theorem vX4_34 : ex_V RX4 34 mX4_setSize 2 := ⟨cmX4_setSize, (ex_tw 288 (by rfl) rfl), (ex_tw 251 (by rfl) rfl), (ex_tw 252 (by rfl) rfl)⟩
theorem vX4_38 : ex_V RX4 38 mX4_dots 0 := ⟨cmX4_dots, (ex_tw 289 (by rfl) rfl), (ex_tw 290 (by rfl) rfl), (ex_tw 291 (by rfl) rfl)⟩
theorem vX9_93 : ex_V RX9 93 mX4_become 1 := ⟨cmX4_become, (ex_tw 293 (by rfl) rfl), (ex_tw 285 (by rfl) rfl), (ex_tw 286 (by rfl) rfl)⟩
theorem vX9_96 : ex_V RX9 96 mX4_dots 0 := ⟨cmX4_dots, (ex_tw 294 (by rfl) rfl), (ex_tw 290 (by rfl) rfl), (ex_tw 291 (by rfl) rfl)⟩
theorem vL_23 : ex_V RL 23 mX9_fault 0 := ⟨cmX9_fault, (ex_tw 295 (by rfl) rfl), (ex_tw 296 (by rfl) rfl), (ex_tw 297 (by rfl) rfl)⟩
theorem vL_27 : ex_V RL 27 mX9_told 1 := ⟨cmX9_told, (ex_tw 299 (by rfl) rfl), (ex_tw 300 (by rfl) rfl), (ex_tw 301 (by rfl) rfl)⟩
theorem vX9_105 : ex_V RX9 105 mX4_maskedDots 0 := ⟨cmX4_maskedDots, (ex_tw 303 (by rfl) rfl), (ex_tw 304 (by rfl) rfl), (ex_tw 305 (by rfl) rfl)⟩
theorem vX9_108 : ex_V RX9 108 mX4_leastGrey 0 := ⟨cmX4_leastGrey, (ex_tw 307 (by rfl) rfl), (ex_tw 308 (by rfl) rfl), (ex_tw 309 (by rfl) rfl)⟩
theorem vX9_111 : ex_V RX9 111 mX4_greatestGrey 0 := ⟨cmX4_greatestGrey, (ex_tw 311 (by rfl) rfl), (ex_tw 312 (by rfl) rfl), (ex_tw 313 (by rfl) rfl)⟩
theorem vX9_114 : ex_V RX9 114 mX4_greysTogether 0 := ⟨cmX4_greysTogether, (ex_tw 315 (by rfl) rfl), (ex_tw 316 (by rfl) rfl), (ex_tw 317 (by rfl) rfl)⟩
theorem vX9_133 : ex_V RX9 133 mX0_firstWrong 1 := ⟨cmX0_firstWrong, (ex_tw 319 (by rfl) rfl), (ex_tw 320 (by rfl) rfl), (ex_tw 321 (by rfl) rfl)⟩
theorem vX0_26 : ex_V RX0 26 mX4_has 2 := ⟨cmX4_has, (ex_tw 323 (by rfl) rfl), (ex_tw 324 (by rfl) rfl), (ex_tw 325 (by rfl) rfl)⟩
theorem vX0_32 : ex_V RX0 32 mX4_greyOf 2 := ⟨cmX4_greyOf, (ex_tw 327 (by rfl) rfl), (ex_tw 328 (by rfl) rfl), (ex_tw 329 (by rfl) rfl)⟩
theorem vX4_26 : ex_V RX4 26 mX4_has 2 := ⟨cmX4_has, (ex_tw 331 (by rfl) rfl), (ex_tw 324 (by rfl) rfl), (ex_tw 325 (by rfl) rfl)⟩
theorem vL_31 : ex_V RL 31 mX9_at 3 := ⟨cmX9_at, (ex_tw 332 (by rfl) rfl), (ex_tw 333 (by rfl) rfl), (ex_tw 334 (by rfl) rfl)⟩
theorem vX9_137 : ex_V RX9 137 mX4_has 2 := ⟨cmX4_has, (ex_tw 336 (by rfl) rfl), (ex_tw 324 (by rfl) rfl), (ex_tw 325 (by rfl) rfl)⟩
theorem vX9_142 : ex_V RX9 142 mX4_greyOf 2 := ⟨cmX4_greyOf, (ex_tw 338 (by rfl) rfl), (ex_tw 328 (by rfl) rfl), (ex_tw 329 (by rfl) rfl)⟩
theorem vX9_146 : ex_V RX9 146 mX4_isMasked 2 := ⟨cmX4_isMasked, (ex_tw 339 (by rfl) rfl), (ex_tw 340 (by rfl) rfl), (ex_tw 341 (by rfl) rfl)⟩
theorem vL_36 : ex_V RL 36 mX9_tally 5 := ⟨cmX9_tally, (ex_tw 343 (by rfl) rfl), (ex_tw 344 (by rfl) rfl), (ex_tw 345 (by rfl) rfl)⟩
theorem vX9_149 : ex_V RX9 149 mX4_dotsUpTo 5 := ⟨cmX4_dotsUpTo, (ex_tw 347 (by rfl) rfl), (ex_tw 348 (by rfl) rfl), (ex_tw 349 (by rfl) rfl)⟩
theorem vX4_50 : ex_V RX4 50 mX4_isMasked 2 := ⟨cmX4_isMasked, (ex_tw 351 (by rfl) rfl), (ex_tw 340 (by rfl) rfl), (ex_tw 341 (by rfl) rfl)⟩
theorem vX4_42 : ex_V RX4 42 mX4_greyOf 2 := ⟨cmX4_greyOf, (ex_tw 352 (by rfl) rfl), (ex_tw 328 (by rfl) rfl), (ex_tw 329 (by rfl) rfl)⟩
theorem vL_41 : ex_V RL 41 mX9_filter 5 := ⟨cmX9_filter, (ex_tw 353 (by rfl) rfl), (ex_tw 354 (by rfl) rfl), (ex_tw 355 (by rfl) rfl)⟩
theorem vX9_153 : ex_V RX9 153 mX2_isFull 0 := ⟨cmX2_isFull, (ex_tw 357 (by rfl) rfl), (ex_tw 358 (by rfl) rfl), (ex_tw 359 (by rfl) rfl)⟩
theorem vX9_160 : ex_I RX9 160 mX1_init 5 := ⟨cmX1_init, (ex_tw 365 (by rfl) rfl), rfl, rfl, (Or.inl (ex_tw 364 (by rfl) rfl))⟩
theorem oX1_1 : Cond.methodLink RX1 1 Lib.objectInit ∈ ex_g := (ex_tw 367 (by rfl) rfl)
theorem vX9_163 : ex_V RX9 163 mX2_add 1 := ⟨cmX2_add, (ex_tw 389 (by rfl) rfl), (ex_tw 390 (by rfl) rfl), (ex_tw 391 (by rfl) rfl)⟩
theorem vX2_25 : ex_V RX2 25 mX2_isFull 0 := ⟨cmX2_isFull, (ex_tw 393 (by rfl) rfl), (ex_tw 358 (by rfl) rfl), (ex_tw 359 (by rfl) rfl)⟩
theorem vL_45 : ex_V RL 45 mX9_drop 1 := ⟨cmX9_drop, (ex_tw 395 (by rfl) rfl), (ex_tw 396 (by rfl) rfl), (ex_tw 397 (by rfl) rfl)⟩
set_option maxRecDepth 20000 in
theorem vX9_167 : ex_V RX9 167 mX2_numbered 1 := ⟨cmX2_numbered, (ex_tw 399 (by rfl) rfl), (ex_tw 400 (by rfl) rfl), (ex_tw 401 (by rfl) rfl)⟩
set_option maxRecDepth 20000 in
theorem vX9_171 : ex_V RX9 171 mX2_remove 1 := ⟨cmX2_remove, (ex_tw 404 (by rfl) rfl), (ex_tw 405 (by rfl) rfl), (ex_tw 406 (by rfl) rfl)⟩
set_option maxRecDepth 20000 in
theorem vL_49 : ex_V RL 49 mX9_fill 1 := ⟨cmX9_fill, (ex_tw 409 (by rfl) rfl), (ex_tw 410 (by rfl) rfl), (ex_tw 411 (by rfl) rfl)⟩
set_option maxRecDepth 20000 in
theorem vL_53 : ex_V RL 53 mX9_would 4 := ⟨cmX9_would, (ex_tw 413 (by rfl) rfl), (ex_tw 414 (by rfl) rfl), (ex_tw 415 (by rfl) rfl)⟩
set_option maxRecDepth 20000 in
theorem vX9_174 : ex_V RX9 174 mX8_lookAt 5 := ⟨cmX8_lookAt, (ex_tw 417 (by rfl) rfl), (ex_tw 418 (by rfl) rfl), (ex_tw 419 (by rfl) rfl)⟩
set_option maxRecDepth 20000 in
theorem vX8_22 : ex_S RX8 22 mJ7_fill_53178 2 := ⟨cmJ7_fill_53178, (ex_tw 422 (by rfl) rfl), (Or.inl (ex_tw 421 (by rfl) rfl))⟩
set_option maxRecDepth 20000 in
theorem vX8_41 : ex_S RX8 41 mX8_standingFor 3 := ⟨cmX8_standingFor, (ex_tw 425 (by rfl) rfl), (Or.inl (ex_tw 424 (by rfl) rfl))⟩
set_option maxRecDepth 20000 in
theorem vX8_78 : ex_S RX8 78 mJ9_floorMod_7cf53 2 := ⟨cmJ9_floorMod_7cf53, (ex_tw 429 (by rfl) rfl), (Or.inl (ex_tw 428 (by rfl) rfl))⟩
set_option maxRecDepth 20000 in
theorem vX8_83 : ex_S RX8 83 mJ9_min_7cf53 2 := ⟨cmJ9_min_7cf53, (ex_tw 432 (by rfl) rfl), (Or.inl (ex_tw 431 (by rfl) rfl))⟩
set_option maxRecDepth 20000 in
theorem vX8_45 : ex_V RX8 45 mX8_countRow 5 := ⟨cmX8_countRow, (ex_tw 434 (by rfl) rfl), (ex_tw 436 (by rfl) rfl), (ex_ts 2 (by rfl) rfl)⟩
set_option maxRecDepth 20000 in
theorem vX8_60 : ex_V RX8 60 mX8_count 2 := ⟨cmX8_count, (ex_tw 438 (by rfl) rfl), (ex_tw 440 (by rfl) rfl), (ex_ts 3 (by rfl) rfl)⟩
set_option maxRecDepth 20000 in
theorem vX8_49 : ex_V RX8 49 mX4_isMasked 2 := ⟨cmX4_isMasked, (ex_tw 442 (by rfl) rfl), (ex_tw 340 (by rfl) rfl), (ex_tw 341 (by rfl) rfl)⟩
set_option maxRecDepth 20000 in
theorem vX8_53 : ex_V RX8 53 mX4_greyOf 2 := ⟨cmX4_greyOf, (ex_tw 443 (by rfl) rfl), (ex_tw 328 (by rfl) rfl), (ex_tw 329 (by rfl) rfl)⟩
set_option maxRecDepth 20000 in
theorem vX9_181 : ex_V RX9 181 mX8_ranked 1 := ⟨cmX8_ranked, (ex_tw 444 (by rfl) rfl), (ex_tw 445 (by rfl) rfl), (ex_tw 446 (by rfl) rfl)⟩
set_option maxRecDepth 20000 in
theorem vX9_187 : ex_V RX9 187 mX8_countedBelow 1 := ⟨cmX8_countedBelow, (ex_tw 448 (by rfl) rfl), (ex_tw 449 (by rfl) rfl), (ex_tw 450 (by rfl) rfl)⟩
set_option maxRecDepth 20000 in
theorem vX9_190 : ex_V RX9 190 mX8_spread 0 := ⟨cmX8_spread, (ex_tw 452 (by rfl) rfl), (ex_tw 453 (by rfl) rfl), (ex_tw 454 (by rfl) rfl)⟩
set_option maxRecDepth 20000 in
theorem vX8_64 : ex_V RX8 64 mX8_ranked 1 := ⟨cmX8_ranked, (ex_tw 456 (by rfl) rfl), (ex_tw 445 (by rfl) rfl), (ex_tw 446 (by rfl) rfl)⟩
set_option maxRecDepth 20000 in
theorem vL_58 : ex_V RL 58 mX9_bins 1 := ⟨cmX9_bins, (ex_tw 457 (by rfl) rfl), (ex_tw 458 (by rfl) rfl), (ex_tw 459 (by rfl) rfl)⟩
set_option maxRecDepth 20000 in
theorem vX9_193 : ex_V RX9 193 mX9_lastOf 3 := ⟨cmX9_lastOf, (ex_tw 461 (by rfl) rfl), (ex_tw 463 (by rfl) rfl), (ex_ts 4 (by rfl) rfl)⟩
set_option maxRecDepth 20000 in
theorem vL_62 : ex_V RL 62 mX9_spikes 2 := ⟨cmX9_spikes, (ex_tw 465 (by rfl) rfl), (ex_tw 466 (by rfl) rfl), (ex_tw 467 (by rfl) rfl)⟩
set_option maxRecDepth 20000 in
theorem vX9_197 : ex_S RX9 197 mJ9_abs_0f7a4 1 := ⟨cmJ9_abs_0f7a4, (ex_tw 470 (by rfl) rfl), (Or.inl (ex_tw 469 (by rfl) rfl))⟩
set_option maxRecDepth 20000 in
theorem vL_67 : ex_V RL 67 mX9_dot 3 := ⟨cmX9_dot, (ex_tw 472 (by rfl) rfl), (ex_tw 473 (by rfl) rfl), (ex_tw 474 (by rfl) rfl)⟩
set_option maxRecDepth 20000 in
theorem vX9_202 : ex_V RX9 202 mX4_setGrey 3 := ⟨cmX4_setGrey, (ex_tw 476 (by rfl) rfl), (ex_tw 477 (by rfl) rfl), (ex_tw 478 (by rfl) rfl)⟩
set_option maxRecDepth 20000 in
theorem vL_71 : ex_V RL 71 mX9_mask 3 := ⟨cmX9_mask, (ex_tw 480 (by rfl) rfl), (ex_tw 481 (by rfl) rfl), (ex_tw 482 (by rfl) rfl)⟩
set_option maxRecDepth 20000 in
theorem vX9_206 : ex_V RX9 206 mX4_setMasked 3 := ⟨cmX4_setMasked, (ex_tw 484 (by rfl) rfl), (ex_tw 485 (by rfl) rfl), (ex_tw 486 (by rfl) rfl)⟩
set_option maxRecDepth 20000 in
theorem vL_76 : ex_V RL 76 mX9_turn 1 := ⟨cmX9_turn, (ex_tw 488 (by rfl) rfl), (ex_tw 489 (by rfl) rfl), (ex_tw 490 (by rfl) rfl)⟩
set_option maxRecDepth 20000 in
theorem vX9_211 : ex_V RX9 211 mX4_becomeTurned 2 := ⟨cmX4_becomeTurned, (ex_tw 493 (by rfl) rfl), (ex_tw 494 (by rfl) rfl), (ex_tw 495 (by rfl) rfl)⟩
set_option maxRecDepth 20000 in
theorem vX4_46 : ex_V RX4 46 mX4_setGrey 3 := ⟨cmX4_setGrey, (ex_tw 497 (by rfl) rfl), (ex_tw 477 (by rfl) rfl), (ex_tw 478 (by rfl) rfl)⟩
set_option maxRecDepth 20000 in
theorem vX4_53 : ex_V RX4 53 mX4_setMasked 3 := ⟨cmX4_setMasked, (ex_tw 498 (by rfl) rfl), (ex_tw 485 (by rfl) rfl), (ex_tw 486 (by rfl) rfl)⟩
set_option maxRecDepth 20000 in
theorem vL_80 : ex_V RL 80 mX9_filtered 1 := ⟨cmX9_filtered, (ex_tw 499 (by rfl) rfl), (ex_tw 500 (by rfl) rfl), (ex_tw 501 (by rfl) rfl)⟩
set_option maxRecDepth 20000 in
theorem vX9_215 : ex_V RX9 215 mX9_apply 1 := ⟨cmX9_apply, (ex_tw 503 (by rfl) rfl), (ex_tw 505 (by rfl) rfl), (ex_ts 5 (by rfl) rfl)⟩
set_option maxRecDepth 20000 in
theorem vX9_218 : ex_V RX9 218 mX4_greysOtherThan 1 := ⟨cmX4_greysOtherThan, (ex_tw 507 (by rfl) rfl), (ex_tw 508 (by rfl) rfl), (ex_tw 509 (by rfl) rfl)⟩
set_option maxRecDepth 20000 in
theorem vL_84 : ex_V RL 84 mX9_all 0 := ⟨cmX9_all, (ex_tw 511 (by rfl) rfl), (ex_tw 512 (by rfl) rfl), (ex_tw 513 (by rfl) rfl)⟩
set_option maxRecDepth 20000 in
theorem vL_88 : ex_V RL 88 mX9_until 2 := ⟨cmX9_until, (ex_tw 515 (by rfl) rfl), (ex_tw 516 (by rfl) rfl), (ex_tw 517 (by rfl) rfl)⟩
set_option maxRecDepth 20000 in
theorem vL_92 : ex_V RL 92 mX9_noise 1 := ⟨cmX9_noise, (ex_tw 519 (by rfl) rfl), (ex_tw 520 (by rfl) rfl), (ex_tw 521 (by rfl) rfl)⟩
set_option maxRecDepth 20000 in
theorem vX9_221 : ex_V RX9 221 mX6_speckle 0 := ⟨cmX6_speckle, (ex_tw 523 (by rfl) rfl), (ex_tw 524 (by rfl) rfl), (ex_tw 525 (by rfl) rfl)⟩
set_option maxRecDepth 20000 in
theorem vX6_42 : ex_V RX6 42 mX6_draw 1 := ⟨cmX6_draw, (ex_tw 527 (by rfl) rfl), (ex_tw 529 (by rfl) rfl), (ex_ts 6 (by rfl) rfl)⟩
set_option maxRecDepth 20000 in
theorem vX6_49 : ex_V RX6 49 mX4_setGrey 3 := ⟨cmX4_setGrey, (ex_tw 535 (by rfl) rfl), (ex_tw 477 (by rfl) rfl), (ex_tw 478 (by rfl) rfl)⟩
set_option maxRecDepth 20000 in
theorem vL_96 : ex_V RL 96 mX9_undo 1 := ⟨cmX9_undo, (ex_tw 536 (by rfl) rfl), (ex_tw 537 (by rfl) rfl), (ex_tw 538 (by rfl) rfl)⟩
set_option maxRecDepth 20000 in
theorem vX9_227 : ex_V RX9 227 mX3_takeBack 2 := ⟨cmX3_takeBack, (ex_tw 540 (by rfl) rfl), (ex_tw 541 (by rfl) rfl), (ex_tw 542 (by rfl) rfl)⟩
set_option maxRecDepth 20000 in
theorem vL_100 : ex_V RL 100 mX9_write 3 := ⟨cmX9_write, (ex_tw 545 (by rfl) rfl), (ex_tw 546 (by rfl) rfl), (ex_tw 547 (by rfl) rfl)⟩
set_option maxRecDepth 20000 in
theorem vX9_231 : ex_V RX9 231 mX0_add 3 := ⟨cmX0_add, (ex_tw 549 (by rfl) rfl), (ex_tw 550 (by rfl) rfl), (ex_tw 551 (by rfl) rfl)⟩
set_option maxRecDepth 20000 in
theorem vL_104 : ex_V RL 104 mX9_tear 0 := ⟨cmX9_tear, (ex_tw 554 (by rfl) rfl), (ex_tw 555 (by rfl) rfl), (ex_tw 556 (by rfl) rfl)⟩
set_option maxRecDepth 20000 in
theorem vL_108 : ex_V RL 108 mX9_seed 1 := ⟨cmX9_seed, (ex_tw 558 (by rfl) rfl), (ex_tw 559 (by rfl) rfl), (ex_tw 560 (by rfl) rfl)⟩
set_option maxRecDepth 20000 in
theorem vL_112 : ex_V RL 112 mX9_keep 1 := ⟨cmX9_keep, (ex_tw 562 (by rfl) rfl), (ex_tw 563 (by rfl) rfl), (ex_tw 564 (by rfl) rfl)⟩
set_option maxRecDepth 20000 in
theorem vX9_234 : ex_V RX9 234 mX6_become 1 := ⟨cmX6_become, (ex_tw 566 (by rfl) rfl), (ex_tw 567 (by rfl) rfl), (ex_tw 568 (by rfl) rfl)⟩
set_option maxRecDepth 20000 in
theorem vX6_32 : ex_V RX6 32 mX4_become 1 := ⟨cmX4_become, (ex_tw 570 (by rfl) rfl), (ex_tw 285 (by rfl) rfl), (ex_tw 286 (by rfl) rfl)⟩
set_option maxRecDepth 20000 in
theorem vX6_36 : ex_V RX6 36 mX2_become 1 := ⟨cmX2_become, (ex_tw 571 (by rfl) rfl), (ex_tw 572 (by rfl) rfl), (ex_tw 573 (by rfl) rfl)⟩
set_option maxRecDepth 20000 in
theorem vX9_237 : ex_V RX9 237 mX3_forget 0 := ⟨cmX3_forget, (ex_tw 575 (by rfl) rfl), (ex_tw 576 (by rfl) rfl), (ex_tw 577 (by rfl) rfl)⟩
set_option maxRecDepth 20000 in
theorem vL_116 : ex_V RL 116 mX9_goBack 1 := ⟨cmX9_goBack, (ex_tw 579 (by rfl) rfl), (ex_tw 580 (by rfl) rfl), (ex_tw 581 (by rfl) rfl)⟩
set_option maxRecDepth 20000 in
theorem vL_120 : ex_V RL 120 mX9_against 1 := ⟨cmX9_against, (ex_tw 583 (by rfl) rfl), (ex_tw 584 (by rfl) rfl), (ex_tw 585 (by rfl) rfl)⟩
set_option maxRecDepth 20000 in
theorem vX9_240 : ex_V RX9 240 mX4_dotsOtherThan 1 := ⟨cmX4_dotsOtherThan, (ex_tw 587 (by rfl) rfl), (ex_tw 588 (by rfl) rfl), (ex_tw 589 (by rfl) rfl)⟩
set_option maxRecDepth 20000 in
theorem vL_12 : ex_I RL 12 mX10_init 0 := ⟨cmX10_init, (ex_tw 594 (by rfl) rfl), rfl, rfl, (Or.inl (ex_tw 593 (by rfl) rfl))⟩
set_option maxRecDepth 20000 in
theorem oX10_1 : Cond.methodLink RX10 1 Lib.objectInit ∈ ex_g := (ex_tw 596 (by rfl) rfl)
set_option maxRecDepth 20000 in
theorem vL_17 : ex_V RL 17 mX10_feed 1 := ⟨cmX10_feed, (ex_tw 667 (by rfl) rfl), (ex_tw 668 (by rfl) rfl), (ex_tw 669 (by rfl) rfl)⟩
set_option maxRecDepth 20000 in
theorem vX10_58 : ex_S RX10 58 mX10_in 3 := ⟨cmX10_in, (ex_tw 673 (by rfl) rfl), (Or.inl (ex_tw 672 (by rfl) rfl))⟩
set_option maxRecDepth 20000 in
theorem vL_22 : ex_V RL 22 mX10_picture 0 := ⟨cmX10_picture, (ex_tw 677 (by rfl) rfl), (ex_tw 678 (by rfl) rfl), (ex_tw 679 (by rfl) rfl)⟩
set_option maxRecDepth 20000 in
theorem vX10_112 : ex_V RX10 112 mX10_readText 0 := ⟨cmX10_readText, (ex_tw 681 (by rfl) rfl), (ex_tw 683 (by rfl) rfl), (ex_ts 7 (by rfl) rfl)⟩
set_option maxRecDepth 20000 in
theorem vX10_101 : ex_V RX10 101 mX10_faultOf 1 := ⟨cmX10_faultOf, (ex_tw 685 (by rfl) rfl), (ex_tw 687 (by rfl) rfl), (ex_ts 8 (by rfl) rfl)⟩
set_option maxRecDepth 20000 in
theorem vX10_90 : ex_V RX10 90 mX10_faultOfBreak 0 := ⟨cmX10_faultOfBreak, (ex_tw 689 (by rfl) rfl), (ex_tw 691 (by rfl) rfl), (ex_ts 9 (by rfl) rfl)⟩
set_option maxRecDepth 20000 in
theorem vX10_86 : ex_V RX10 86 mX10_isShort 0 := ⟨cmX10_isShort, (ex_tw 693 (by rfl) rfl), (ex_tw 695 (by rfl) rfl), (ex_ts 10 (by rfl) rfl)⟩
set_option maxRecDepth 20000 in
theorem vX10_94 : ex_S RX10 94 mX10_figure 1 := ⟨cmX10_figure, (ex_tw 698 (by rfl) rfl), (Or.inl (ex_tw 697 (by rfl) rfl))⟩
set_option maxRecDepth 20000 in
theorem vX10_104 : ex_V RX10 104 mX10_goOn 1 := ⟨cmX10_goOn, (ex_tw 704 (by rfl) rfl), (ex_tw 706 (by rfl) rfl), (ex_ts 11 (by rfl) rfl)⟩
set_option maxRecDepth 20000 in
theorem vX10_115 : ex_V RX10 115 mX10_remember 0 := ⟨cmX10_remember, (ex_tw 708 (by rfl) rfl), (ex_tw 710 (by rfl) rfl), (ex_ts 12 (by rfl) rfl)⟩
set_option maxRecDepth 20000 in
theorem vX10_47 : ex_V RX10 47 mX10_copyRow 2 := ⟨cmX10_copyRow, (ex_tw 712 (by rfl) rfl), (ex_tw 714 (by rfl) rfl), (ex_ts 13 (by rfl) rfl)⟩
set_option maxRecDepth 20000 in
theorem vX10_118 : ex_V RX10 118 mX10_layPicture 0 := ⟨cmX10_layPicture, (ex_tw 716 (by rfl) rfl), (ex_tw 718 (by rfl) rfl), (ex_ts 14 (by rfl) rfl)⟩
set_option maxRecDepth 20000 in
theorem vX10_54 : ex_V RX10 54 mX10_place 2 := ⟨cmX10_place, (ex_tw 720 (by rfl) rfl), (ex_tw 722 (by rfl) rfl), (ex_ts 15 (by rfl) rfl)⟩
set_option maxRecDepth 20000 in
theorem vL_26 : ex_V RL 26 mX10_fault 0 := ⟨cmX10_fault, (ex_tw 724 (by rfl) rfl), (ex_tw 725 (by rfl) rfl), (ex_tw 726 (by rfl) rfl)⟩
set_option maxRecDepth 20000 in
theorem vL_30 : ex_V RL 30 mX10_told 1 := ⟨cmX10_told, (ex_tw 728 (by rfl) rfl), (ex_tw 729 (by rfl) rfl), (ex_tw 730 (by rfl) rfl)⟩
set_option maxRecDepth 20000 in
theorem vX10_166 : ex_V RX10 166 mX10_masked 0 := ⟨cmX10_masked, (ex_tw 732 (by rfl) rfl), (ex_tw 734 (by rfl) rfl), (ex_ts 16 (by rfl) rfl)⟩
set_option maxRecDepth 20000 in
theorem vX10_62 : ex_V RX10 62 mX10_isMasked 2 := ⟨cmX10_isMasked, (ex_tw 736 (by rfl) rfl), (ex_tw 738 (by rfl) rfl), (ex_ts 17 (by rfl) rfl)⟩
set_option maxRecDepth 20000 in
theorem vX10_169 : ex_V RX10 169 mX10_ofGreys 1 := ⟨cmX10_ofGreys, (ex_tw 740 (by rfl) rfl), (ex_tw 742 (by rfl) rfl), (ex_ts 18 (by rfl) rfl)⟩
set_option maxRecDepth 20000 in
theorem vX10_137 : ex_V RX10 137 mX10_grey 2 := ⟨cmX10_grey, (ex_tw 744 (by rfl) rfl), (ex_tw 746 (by rfl) rfl), (ex_ts 19 (by rfl) rfl)⟩
set_option maxRecDepth 20000 in
theorem vX10_172 : ex_V RX10 172 mX10_wrong 0 := ⟨cmX10_wrong, (ex_tw 748 (by rfl) rfl), (ex_tw 750 (by rfl) rfl), (ex_ts 20 (by rfl) rfl)⟩
set_option maxRecDepth 20000 in
theorem vX10_140 : ex_V RX10 140 mX10_isDot 2 := ⟨cmX10_isDot, (ex_tw 752 (by rfl) rfl), (ex_tw 754 (by rfl) rfl), (ex_ts 21 (by rfl) rfl)⟩
set_option maxRecDepth 20000 in
theorem vL_35 : ex_V RL 35 mX10_at 3 := ⟨cmX10_at, (ex_tw 756 (by rfl) rfl), (ex_tw 757 (by rfl) rfl), (ex_tw 758 (by rfl) rfl)⟩
set_option maxRecDepth 20000 in
theorem vL_40 : ex_V RL 40 mX10_tally 5 := ⟨cmX10_tally, (ex_tw 761 (by rfl) rfl), (ex_tw 762 (by rfl) rfl), (ex_tw 763 (by rfl) rfl)⟩
set_option maxRecDepth 20000 in
theorem vL_44 : ex_V RL 44 mX10_filter 5 := ⟨cmX10_filter, (ex_tw 767 (by rfl) rfl), (ex_tw 768 (by rfl) rfl), (ex_tw 769 (by rfl) rfl)⟩
set_option maxRecDepth 20000 in
theorem vL_48 : ex_V RL 48 mX10_drop 1 := ⟨cmX10_drop, (ex_tw 774 (by rfl) rfl), (ex_tw 775 (by rfl) rfl), (ex_tw 776 (by rfl) rfl)⟩
set_option maxRecDepth 20000 in
theorem vX10_186 : ex_V RX10 186 mX10_isFilter 1 := ⟨cmX10_isFilter, (ex_tw 778 (by rfl) rfl), (ex_tw 780 (by rfl) rfl), (ex_ts 22 (by rfl) rfl)⟩
set_option maxRecDepth 20000 in
theorem vL_52 : ex_V RL 52 mX10_fill 1 := ⟨cmX10_fill, (ex_tw 782 (by rfl) rfl), (ex_tw 783 (by rfl) rfl), (ex_tw 784 (by rfl) rfl)⟩
set_option maxRecDepth 20000 in
theorem vL_57 : ex_V RL 57 mX10_would 4 := ⟨cmX10_would, (ex_tw 786 (by rfl) rfl), (ex_tw 787 (by rfl) rfl), (ex_tw 788 (by rfl) rfl)⟩
set_option maxRecDepth 20000 in
theorem vX10_157 : ex_V RX10 157 mX10_lastOf 3 := ⟨cmX10_lastOf, (ex_tw 790 (by rfl) rfl), (ex_tw 792 (by rfl) rfl), (ex_ts 23 (by rfl) rfl)⟩
set_option maxRecDepth 20000 in
theorem vX10_154 : ex_V RX10 154 mX10_layWindow 3 := ⟨cmX10_layWindow, (ex_tw 794 (by rfl) rfl), (ex_tw 796 (by rfl) rfl), (ex_ts 24 (by rfl) rfl)⟩
set_option maxRecDepth 20000 in
theorem vX10_143 : ex_V RX10 143 mX10_part 2 := ⟨cmX10_part, (ex_tw 798 (by rfl) rfl), (ex_tw 800 (by rfl) rfl), (ex_ts 25 (by rfl) rfl)⟩
set_option maxRecDepth 20000 in
theorem vX10_150 : ex_V RX10 150 mX10_countAt 4 := ⟨cmX10_countAt, (ex_tw 802 (by rfl) rfl), (ex_tw 804 (by rfl) rfl), (ex_ts 26 (by rfl) rfl)⟩
set_option maxRecDepth 20000 in
theorem vX10_146 : ex_V RX10 146 mX10_countOut 3 := ⟨cmX10_countOut, (ex_tw 806 (by rfl) rfl), (ex_tw 808 (by rfl) rfl), (ex_ts 27 (by rfl) rfl)⟩
set_option maxRecDepth 20000 in
theorem vX10_130 : ex_V RX10 130 mX10_count 1 := ⟨cmX10_count, (ex_tw 810 (by rfl) rfl), (ex_tw 812 (by rfl) rfl), (ex_ts 28 (by rfl) rfl)⟩
set_option maxRecDepth 20000 in
theorem vX10_133 : ex_S RX10 133 mX10_standIn 3 := ⟨cmX10_standIn, (ex_tw 815 (by rfl) rfl), (Or.inl (ex_tw 814 (by rfl) rfl))⟩
set_option maxRecDepth 20000 in
theorem vX10_124 : ex_S RX10 124 mX10_leftOver 2 := ⟨cmX10_leftOver, (ex_tw 818 (by rfl) rfl), (Or.inl (ex_tw 817 (by rfl) rfl))⟩
set_option maxRecDepth 20000 in
theorem vX10_190 : ex_V RX10 190 mX10_below 1 := ⟨cmX10_below, (ex_tw 820 (by rfl) rfl), (ex_tw 822 (by rfl) rfl), (ex_ts 29 (by rfl) rfl)⟩
set_option maxRecDepth 20000 in
theorem vL_61 : ex_V RL 61 mX10_bins 1 := ⟨cmX10_bins, (ex_tw 824 (by rfl) rfl), (ex_tw 825 (by rfl) rfl), (ex_tw 826 (by rfl) rfl)⟩
set_option maxRecDepth 20000 in
theorem vL_66 : ex_V RL 66 mX10_spikes 2 := ⟨cmX10_spikes, (ex_tw 828 (by rfl) rfl), (ex_tw 829 (by rfl) rfl), (ex_tw 830 (by rfl) rfl)⟩
set_option maxRecDepth 20000 in
theorem vL_70 : ex_V RL 70 mX10_dot 3 := ⟨cmX10_dot, (ex_tw 832 (by rfl) rfl), (ex_tw 833 (by rfl) rfl), (ex_tw 834 (by rfl) rfl)⟩
set_option maxRecDepth 20000 in
theorem vX10_160 : ex_V RX10 160 mX10_setGrey 3 := ⟨cmX10_setGrey, (ex_tw 836 (by rfl) rfl), (ex_tw 838 (by rfl) rfl), (ex_ts 30 (by rfl) rfl)⟩
set_option maxRecDepth 20000 in
theorem vL_75 : ex_V RL 75 mX10_mask 3 := ⟨cmX10_mask, (ex_tw 840 (by rfl) rfl), (ex_tw 841 (by rfl) rfl), (ex_tw 842 (by rfl) rfl)⟩
set_option maxRecDepth 20000 in
theorem vL_79 : ex_V RL 79 mX10_turn 1 := ⟨cmX10_turn, (ex_tw 844 (by rfl) rfl), (ex_tw 845 (by rfl) rfl), (ex_tw 846 (by rfl) rfl)⟩
set_option maxRecDepth 20000 in
theorem vX10_196 : ex_V RX10 196 mX10_turnedFrom 3 := ⟨cmX10_turnedFrom, (ex_tw 850 (by rfl) rfl), (ex_tw 852 (by rfl) rfl), (ex_ts 31 (by rfl) rfl)⟩
set_option maxRecDepth 20000 in
theorem vL_83 : ex_V RL 83 mX10_filtered 1 := ⟨cmX10_filtered, (ex_tw 854 (by rfl) rfl), (ex_tw 855 (by rfl) rfl), (ex_tw 856 (by rfl) rfl)⟩
set_option maxRecDepth 20000 in
theorem vX10_199 : ex_V RX10 199 mX10_applyNow 1 := ⟨cmX10_applyNow, (ex_tw 858 (by rfl) rfl), (ex_tw 860 (by rfl) rfl), (ex_ts 32 (by rfl) rfl)⟩
set_option maxRecDepth 20000 in
theorem vL_87 : ex_V RL 87 mX10_all 0 := ⟨cmX10_all, (ex_tw 862 (by rfl) rfl), (ex_tw 863 (by rfl) rfl), (ex_tw 864 (by rfl) rfl)⟩
set_option maxRecDepth 20000 in
theorem vL_91 : ex_V RL 91 mX10_until 2 := ⟨cmX10_until, (ex_tw 866 (by rfl) rfl), (ex_tw 867 (by rfl) rfl), (ex_tw 868 (by rfl) rfl)⟩
set_option maxRecDepth 20000 in
theorem vL_95 : ex_V RL 95 mX10_noise 1 := ⟨cmX10_noise, (ex_tw 871 (by rfl) rfl), (ex_tw 872 (by rfl) rfl), (ex_tw 873 (by rfl) rfl)⟩
set_option maxRecDepth 20000 in
theorem vX10_216 : ex_V RX10 216 mX10_draw 1 := ⟨cmX10_draw, (ex_tw 876 (by rfl) rfl), (ex_tw 878 (by rfl) rfl), (ex_ts 33 (by rfl) rfl)⟩
set_option maxRecDepth 20000 in
theorem vL_99 : ex_V RL 99 mX10_undo 1 := ⟨cmX10_undo, (ex_tw 884 (by rfl) rfl), (ex_tw 885 (by rfl) rfl), (ex_tw 886 (by rfl) rfl)⟩
set_option maxRecDepth 20000 in
theorem vL_103 : ex_V RL 103 mX10_write 3 := ⟨cmX10_write, (ex_tw 889 (by rfl) rfl), (ex_tw 890 (by rfl) rfl), (ex_tw 891 (by rfl) rfl)⟩
set_option maxRecDepth 20000 in
theorem vL_107 : ex_V RL 107 mX10_tear 0 := ⟨cmX10_tear, (ex_tw 893 (by rfl) rfl), (ex_tw 894 (by rfl) rfl), (ex_tw 895 (by rfl) rfl)⟩
set_option maxRecDepth 20000 in
theorem vL_111 : ex_V RL 111 mX10_seed 1 := ⟨cmX10_seed, (ex_tw 897 (by rfl) rfl), (ex_tw 898 (by rfl) rfl), (ex_tw 899 (by rfl) rfl)⟩
set_option maxRecDepth 20000 in
theorem vL_115 : ex_V RL 115 mX10_keep 1 := ⟨cmX10_keep, (ex_tw 901 (by rfl) rfl), (ex_tw 902 (by rfl) rfl), (ex_tw 903 (by rfl) rfl)⟩
set_option maxRecDepth 20000 in
theorem vL_119 : ex_V RL 119 mX10_goBack 1 := ⟨cmX10_goBack, (ex_tw 905 (by rfl) rfl), (ex_tw 906 (by rfl) rfl), (ex_tw 907 (by rfl) rfl)⟩
set_option maxRecDepth 20000 in
theorem vX10_224 : ex_V RX10 224 mX10_isKept 1 := ⟨cmX10_isKept, (ex_tw 909 (by rfl) rfl), (ex_tw 911 (by rfl) rfl), (ex_ts 34 (by rfl) rfl)⟩
set_option maxRecDepth 20000 in
theorem vL_123 : ex_V RL 123 mX10_against 1 := ⟨cmX10_against, (ex_tw 913 (by rfl) rfl), (ex_tw 914 (by rfl) rfl), (ex_tw 915 (by rfl) rfl)⟩
theorem vX9_9 : ex_I RX9 9 mX7_init 0 := ⟨cmX7_init, (ex_tw 25 (by rfl) rfl), rfl, rfl, (Or.inr ⟨_, ex_tn 24 (by rfl)⟩)⟩
theorem vX9_18 : ex_I RX9 18 mX6_init 0 := ⟨cmX6_init, (ex_tw 43 (by rfl) rfl), rfl, rfl, (Or.inr ⟨_, ex_tn 42 (by rfl)⟩)⟩
theorem vX6_11 : ex_I RX6 11 mX4_init 0 := ⟨cmX4_init, (ex_tw 49 (by rfl) rfl), rfl, rfl, (Or.inr ⟨_, ex_tn 48 (by rfl)⟩)⟩
theorem vX6_20 : ex_I RX6 20 mX2_init 0 := ⟨cmX2_init, (ex_tw 75 (by rfl) rfl), rfl, rfl, (Or.inr ⟨_, ex_tn 74 (by rfl)⟩)⟩
theorem vX3_22 : ex_I RX3 22 mX4_init 0 := ⟨cmX4_init, (ex_tw 49 (by rfl) rfl), rfl, rfl, (Or.inr ⟨_, ex_tn 114 (by rfl)⟩)⟩
theorem vX9_40 : ex_I RX9 40 mX0_init 0 := ⟨cmX0_init, (ex_tw 129 (by rfl) rfl), rfl, rfl, (Or.inr ⟨_, ex_tn 128 (by rfl)⟩)⟩
theorem vX9_47 : ex_I RX9 47 mX8_init 0 := ⟨cmX8_init, (ex_tw 149 (by rfl) rfl), rfl, rfl, (Or.inr ⟨_, ex_tn 148 (by rfl)⟩)⟩
theorem vX9_54 : ex_I RX9 54 mX4_init 0 := ⟨cmX4_init, (ex_tw 49 (by rfl) rfl), rfl, rfl, (Or.inr ⟨_, ex_tn 164 (by rfl)⟩)⟩
theorem vX4_30 : ex_S RX4 30 mX9_within 3 := ⟨cmX9_within, (ex_tw 201 (by rfl) rfl), (Or.inr ⟨_, ex_tn 254 (by rfl)⟩)⟩
theorem vX5_55 : ex_S RX5 55 mX9_within 3 := ⟨cmX9_within, (ex_tw 201 (by rfl) rfl), (Or.inr ⟨_, ex_tn 258 (by rfl)⟩)⟩
set_option maxRecDepth 20000 in
theorem vX2_21 : ex_S RX2 21 mX9_within 3 := ⟨cmX9_within, (ex_tw 201 (by rfl) rfl), (Or.inr ⟨_, ex_tn 403 (by rfl)⟩)⟩
set_option maxRecDepth 20000 in
theorem vX8_74 : ex_S RX8 74 mX9_within 3 := ⟨cmX9_within, (ex_tw 201 (by rfl) rfl), (Or.inr ⟨_, ex_tn 427 (by rfl)⟩)⟩
set_option maxRecDepth 20000 in
theorem vX3_27 : ex_S RX3 27 mX9_within 3 := ⟨cmX9_within, (ex_tw 201 (by rfl) rfl), (Or.inr ⟨_, ex_tn 544 (by rfl)⟩)⟩
theorem kX9_70 : Cond.constant RX9 70 (-1000000002) ∈ ex_g := (ex_tw 203 (by rfl) rfl)
theorem kX7_22 : Cond.constant RX7 22 (-1000000004) ∈ ex_g := (ex_tw 208 (by rfl) rfl)
theorem kX9_141 : Cond.constant RX9 141 (-1000000001) ∈ ex_g := (ex_tw 337 (by rfl) rfl)
theorem kX9_157 : Cond.constant RX9 157 (-1000000004) ∈ ex_g := (ex_tw 361 (by rfl) rfl)
theorem kX2_29 : Cond.constant RX2 29 (-1000000004) ∈ ex_g := (ex_tw 394 (by rfl) rfl)
set_option maxRecDepth 20000 in
theorem kX2_30 : Cond.constant RX2 30 (-1000000001) ∈ ex_g := (ex_tw 408 (by rfl) rfl)
set_option maxRecDepth 20000 in
theorem kX9_210 : Cond.constant RX9 210 (-1000000003) ∈ ex_g := (ex_tw 492 (by rfl) rfl)
set_option maxRecDepth 20000 in
theorem kX6_59 : Cond.constant RX6 59 (65536) ∈ ex_g := (ex_tw 534 (by rfl) rfl)
set_option maxRecDepth 20000 in
theorem kX0_25 : Cond.constant RX0 25 (-1000000004) ∈ ex_g := (ex_tw 553 (by rfl) rfl)
set_option maxRecDepth 20000 in
theorem kX10_110 : Cond.constant RX10 110 (-1000000002) ∈ ex_g := (ex_tw 675 (by rfl) rfl)
set_option maxRecDepth 20000 in
theorem kX10_111 : Cond.constant RX10 111 (-1000000004) ∈ ex_g := (ex_tw 676 (by rfl) rfl)
set_option maxRecDepth 20000 in
theorem kX10_175 : Cond.constant RX10 175 (-1000000001) ∈ ex_g := (ex_tw 760 (by rfl) rfl)
set_option maxRecDepth 20000 in
theorem kX10_195 : Cond.constant RX10 195 (-1000000003) ∈ ex_g := (ex_tw 849 (by rfl) rfl)
set_option maxRecDepth 20000 in
theorem kX10_213 : Cond.constant RX10 213 (65536) ∈ ex_g := (ex_tw 883 (by rfl) rfl)
set_option maxRecDepth 20000 in
theorem kX6_53 : Cond.constantLong RX6 53 (1103515245) ∈ ex_g := (ex_tw 531 (by rfl) rfl)
set_option maxRecDepth 20000 in
theorem kX6_55 : Cond.constantLong RX6 55 (12345) ∈ ex_g := (ex_tw 532 (by rfl) rfl)
set_option maxRecDepth 20000 in
theorem kX6_57 : Cond.constantLong RX6 57 (2147483648) ∈ ex_g := (ex_tw 533 (by rfl) rfl)
set_option maxRecDepth 20000 in
theorem kX10_108 : Cond.constantLong RX10 108 (255) ∈ ex_g := (ex_tw 671 (by rfl) rfl)
set_option maxRecDepth 20000 in
theorem kX10_66 : Cond.constantLong RX10 66 (48) ∈ ex_g := (ex_tw 700 (by rfl) rfl)
set_option maxRecDepth 20000 in
theorem kX10_68 : Cond.constantLong RX10 68 (57) ∈ ex_g := (ex_tw 701 (by rfl) rfl)
set_option maxRecDepth 20000 in
theorem kX10_70 : Cond.constantLong RX10 70 (97) ∈ ex_g := (ex_tw 702 (by rfl) rfl)
set_option maxRecDepth 20000 in
theorem kX10_72 : Cond.constantLong RX10 72 (102) ∈ ex_g := (ex_tw 703 (by rfl) rfl)
set_option maxRecDepth 20000 in
theorem kX10_176 : Cond.constantLong RX10 176 (-1) ∈ ex_g := (ex_tw 765 (by rfl) rfl)
set_option maxRecDepth 20000 in
theorem kX10_178 : Cond.constantLong RX10 178 (256) ∈ ex_g := (ex_tw 766 (by rfl) rfl)
set_option maxRecDepth 20000 in
theorem kX10_180 : Cond.constantLong RX10 180 (4) ∈ ex_g := (ex_tw 771 (by rfl) rfl)
set_option maxRecDepth 20000 in
theorem kX10_182 : Cond.constantLong RX10 182 (100) ∈ ex_g := (ex_tw 772 (by rfl) rfl)
set_option maxRecDepth 20000 in
theorem kX10_184 : Cond.constantLong RX10 184 (9) ∈ ex_g := (ex_tw 773 (by rfl) rfl)
set_option maxRecDepth 20000 in
theorem kX10_193 : Cond.constantLong RX10 193 (3) ∈ ex_g := (ex_tw 848 (by rfl) rfl)
set_option maxRecDepth 20000 in
theorem kX10_202 : Cond.constantLong RX10 202 (20) ∈ ex_g := (ex_tw 870 (by rfl) rfl)
set_option maxRecDepth 20000 in
theorem kX10_214 : Cond.constantLong RX10 214 (12) ∈ ex_g := (ex_tw 875 (by rfl) rfl)
set_option maxRecDepth 20000 in
theorem kX10_207 : Cond.constantLong RX10 207 (1103515245) ∈ ex_g := (ex_tw 880 (by rfl) rfl)
set_option maxRecDepth 20000 in
theorem kX10_209 : Cond.constantLong RX10 209 (12345) ∈ ex_g := (ex_tw 881 (by rfl) rfl)
set_option maxRecDepth 20000 in
theorem kX10_211 : Cond.constantLong RX10 211 (2147483648) ∈ ex_g := (ex_tw 882 (by rfl) rfl)
set_option maxRecDepth 20000 in
theorem kX10_219 : Cond.constantLong RX10 219 (16) ∈ ex_g := (ex_tw 888 (by rfl) rfl)
theorem oi_inst : Cond.instanceMethod Lib.objectInit ∈ ex_g := (ex_tw 20 (by rfl) rfl)
theorem oi_code : Cond.code Lib.objectInit ⟨#[0xb1]⟩ 1 none ∈ ex_g := (ex_tw 21 (by rfl) rfl)
theorem ac_int : Cond.arrayClass .int ∈ ex_g := (ex_tw 39 (by rfl) rfl)
theorem ac_boolean : Cond.arrayClass .boolean ∈ ex_g := (ex_tw 71 (by rfl) rfl)
theorem ao_X1 : Cond.arrayOver (.object RX1) ∈ lw_tbl := ex_tn 79 (by rfl)
theorem ao_X6 : Cond.arrayOver (.object RX6) ∈ lw_tbl := ex_tn 105 (by rfl)
theorem ao_X4 : Cond.arrayOver (.object RX4) ∈ lw_tbl := ex_tn 113 (by rfl)
