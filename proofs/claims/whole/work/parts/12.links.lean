/-! ===== the words behind the tables ===== -/
def mm_tb : List Cond := lw_tbl.filter goodWord
theorem mm_mem {i : Nat} {w : Cond} (h : lw_tbl[i]? = some w) (g : goodWord w = true) : w ∈ mm_tb := List.mem_filter.mpr ⟨List.mem_of_getElem? h, g⟩
def mm_has (i : Nat) (w : Cond) : Bool := decide (lw_tbl[i]? = some w) && goodWord w
theorem mm_of {i : Nat} {w : Cond} (h : mm_has i w = true) : w ∈ mm_tb := by
  unfold mm_has at h
  rw [Bool.and_eq_true, decide_eq_true_eq] at h
  exact mm_mem h.1 h.2
theorem mm_lk_mem {α : Type} : ∀ {l : List (Nat × α)} {i : Nat} {x : α}, mm_lk l i = some x → (i, x) ∈ l
  | [], _, _, h => by cases h
  | e :: r, i, x, h => by
    unfold mm_lk at h
    by_cases q : e.1 = i
    · rw [if_pos q] at h
      cases h
      subst q
      exact List.mem_cons_self
    · rw [if_neg q] at h
      exact List.mem_cons_of_mem _ (mm_lk_mem h)
/-- a method's own words -/
def mm_YK (z : mm_Y) : Prop := Cond.code (yy z) (yc z) (yl z) (yt z) ∈ mm_tb ∧ Cond.initialized (yy z).cls ∈ mm_tb ∧ ((yy z).cls = mm_cn (yo z) ∧ plainName (yy z).cls = true ∧ (yy z).cls ≠ "java/lang/invoke/MethodHandle" ∧ (yy z).cls ≠ "java/lang/invoke/VarHandle" ∧ yl z ≤ 13 ∧ (yt z = none ∨ yt z = some .int ∨ yt z = some .boolean))
def mm_ykb (i j : Nat) (z : mm_Y) : Bool := mm_has i (Cond.code (yy z) (yc z) (yl z) (yt z)) && mm_has j (Cond.initialized (yy z).cls) && decide ((yy z).cls = mm_cn (yo z) ∧ plainName (yy z).cls = true ∧ (yy z).cls ≠ "java/lang/invoke/MethodHandle" ∧ (yy z).cls ≠ "java/lang/invoke/VarHandle" ∧ yl z ≤ 13 ∧ (yt z = none ∨ yt z = some .int ∨ yt z = some .boolean))
theorem mm_yk {i j : Nat} {z : mm_Y} (h : mm_ykb i j z = true) : mm_YK z := by
  unfold mm_ykb at h
  rw [Bool.and_eq_true, Bool.and_eq_true, decide_eq_true_eq] at h
  exact ⟨mm_of h.1.1, mm_of h.1.2, h.2⟩
/-- a link's words -/
def mm_LK (o idx : Nat) (b : Bool) (z : mm_Y) : Prop := mm_YK z ∧ Cond.methodLink (mm_cn o) idx (yy z) ∈ mm_tb ∧ (if b = true then Cond.instanceMethod (yy z) ∈ mm_tb ∧ Cond.selects (yy z).cls (yy z) (yy z) ∈ mm_tb ∧ (∃ q, vwCl[yo z]? = some q ∧ q.1 = (yy z).cls) ∧ (parseMethodDescriptor (yy z).desc).map (fun d => d.parameters.length + 1) = some (yn z) else Cond.static (yy z) ∈ mm_tb ∧ (parseMethodDescriptor (yy z).desc).map (fun d => d.parameters.length) = some (yn z))
def mm_lkV (o idx i1 i2 i3 : Nat) (z : mm_Y) : Bool := mm_has i1 (Cond.methodLink (mm_cn o) idx (yy z)) && mm_has i2 (Cond.instanceMethod (yy z)) && mm_has i3 (Cond.selects (yy z).cls (yy z) (yy z)) && (match vwCl[yo z]? with
  | some q => decide (q.1 = (yy z).cls)
  | none => false) && decide ((parseMethodDescriptor (yy z).desc).map (fun d => d.parameters.length + 1) = some (yn z))
def mm_lkS (o idx i1 i2 : Nat) (z : mm_Y) : Bool := mm_has i1 (Cond.methodLink (mm_cn o) idx (yy z)) && mm_has i2 (Cond.static (yy z)) && decide ((parseMethodDescriptor (yy z).desc).map (fun d => d.parameters.length) = some (yn z))
theorem mm_lkv {o idx i1 i2 i3 : Nat} {z : mm_Y} (hz : mm_YK z) (h : mm_lkV o idx i1 i2 i3 z = true) : mm_LK o idx true z := by
  unfold mm_lkV at h
  rw [Bool.and_eq_true, Bool.and_eq_true, Bool.and_eq_true, Bool.and_eq_true, decide_eq_true_eq] at h
  obtain ⟨⟨⟨⟨h1, h2⟩, h3⟩, h4⟩, h5⟩ := h
  refine ⟨hz, mm_of h1, ?_⟩
  rw [if_pos rfl]
  refine ⟨mm_of h2, mm_of h3, ?_, h5⟩
  cases hq : vwCl[yo z]? with
  | none => rw [hq] at h4; cases h4
  | some q =>
    rw [hq] at h4
    exact ⟨q, rfl, of_decide_eq_true h4⟩
theorem mm_lks {o idx i1 i2 : Nat} {z : mm_Y} (hz : mm_YK z) (h : mm_lkS o idx i1 i2 z = true) : mm_LK o idx false z := by
  unfold mm_lkS at h
  rw [Bool.and_eq_true, Bool.and_eq_true, decide_eq_true_eq] at h
  refine ⟨hz, mm_of h.1.1, ?_⟩
  rw [if_neg (by decide)]
  exact ⟨mm_of h.1.2, h.2⟩
theorem okX0_clear : mm_YK zX0_clear := mm_yk (i := 291) (j := 88) (by decide +kernel)
theorem okX0_copyOf : mm_YK zX0_copyOf := mm_yk (i := 589) (j := 88) (by decide +kernel)
theorem okX0_write : mm_YK zX0_write := mm_yk (i := 400) (j := 88) (by decide +kernel)
theorem okX0_read : mm_YK zX0_read := mm_yk (i := 903) (j := 88) (by decide +kernel)
theorem okX1_begin : mm_YK zX1_begin := mm_yk (i := 287) (j := 86) (by decide +kernel)
theorem okX1_copyOf : mm_YK zX1_copyOf := mm_yk (i := 578) (j := 86) (by decide +kernel)
theorem okX1_refuse : mm_YK zX1_refuse := mm_yk (i := 341) (j := 86) (by decide +kernel)
theorem okX1_flipWall : mm_YK zX1_flipWall := mm_yk (i := 384) (j := 86) (by decide +kernel)
theorem okX1_shrinkCell : mm_YK zX1_shrinkCell := mm_yk (i := 420) (j := 86) (by decide +kernel)
theorem okX1_splitCell : mm_YK zX1_splitCell := mm_yk (i := 452) (j := 86) (by decide +kernel)
theorem okX1_joinAcross : mm_YK zX1_joinAcross := mm_yk (i := 499) (j := 86) (by decide +kernel)
theorem okX1_goOn : mm_YK zX1_goOn := mm_yk (i := 532) (j := 86) (by decide +kernel)
theorem okX1_giveWay : mm_YK zX1_giveWay := mm_yk (i := 549) (j := 86) (by decide +kernel)
theorem okX1_calm : mm_YK zX1_calm := mm_yk (i := 564) (j := 86) (by decide +kernel)
theorem okX1_jolt : mm_YK zX1_jolt := mm_yk (i := 519) (j := 86) (by decide +kernel)
theorem okX2_copyOf : mm_YK zX2_copyOf := mm_yk (i := 582) (j := 87) (by decide +kernel)
theorem okX2_layRing : mm_YK zX2_layRing := mm_yk (i := 295) (j := 87) (by decide +kernel)
theorem okX2_layCell : mm_YK zX2_layCell := mm_yk (i := 299) (j := 87) (by decide +kernel)
theorem okX2_halfOnRing : mm_YK zX2_halfOnRing := mm_yk (i := 302) (j := 87) (by decide +kernel)
theorem okX2_over : mm_YK zX2_over := mm_yk (i := 316) (j := 87) (by decide +kernel)
theorem okX2_link : mm_YK zX2_link := mm_yk (i := 313) (j := 87) (by decide +kernel)
theorem okX2_unlink : mm_YK zX2_unlink := mm_yk (i := 392) (j := 87) (by decide +kernel)
theorem okX2_setRound : mm_YK zX2_setRound := mm_yk (i := 320) (j := 87) (by decide +kernel)
theorem okX2_hasCell : mm_YK zX2_hasCell := mm_yk (i := 353) (j := 87) (by decide +kernel)
theorem okX2_hasWall : mm_YK zX2_hasWall := mm_yk (i := 361) (j := 87) (by decide +kernel)
theorem okX2_across : mm_YK zX2_across := mm_yk (i := 416) (j := 87) (by decide +kernel)
theorem okX2_endOf : mm_YK zX2_endOf := mm_yk (i := 373) (j := 87) (by decide +kernel)
theorem okX2_firstHalf : mm_YK zX2_firstHalf := mm_yk (i := 412) (j := 87) (by decide +kernel)
theorem okX2_halfAt : mm_YK zX2_halfAt := mm_yk (i := 448) (j := 87) (by decide +kernel)
theorem okX2_canFlip : mm_YK zX2_canFlip := mm_yk (i := 369) (j := 87) (by decide +kernel)
theorem okX2_areFour : mm_YK zX2_areFour := mm_yk (i := 376) (j := 87) (by decide +kernel)
theorem okX2_easing : mm_YK zX2_easing := mm_yk (i := 380) (j := 87) (by decide +kernel)
theorem okX2_flip : mm_YK zX2_flip := mm_yk (i := 388) (j := 87) (by decide +kernel)
theorem okX2_insert : mm_YK zX2_insert := mm_yk (i := 396) (j := 87) (by decide +kernel)
theorem okX2_easiestWall : mm_YK zX2_easiestWall := mm_yk (i := 569) (j := 87) (by decide +kernel)
theorem okX2_flippable : mm_YK zX2_flippable := mm_yk (i := 776) (j := 87) (by decide +kernel)
theorem okX2_shortestSide : mm_YK zX2_shortestSide := mm_yk (i := 553) (j := 87) (by decide +kernel)
theorem okX2_canShrink : mm_YK zX2_canShrink := mm_yk (i := 408) (j := 87) (by decide +kernel)
theorem okX2_shrink : mm_YK zX2_shrink := mm_yk (i := 424) (j := 87) (by decide +kernel)
theorem okX2_greater : mm_YK zX2_greater := mm_yk (i := 429) (j := 87) (by decide +kernel)
theorem okX2_dropWall : mm_YK zX2_dropWall := mm_yk (i := 436) (j := 87) (by decide +kernel)
theorem okX2_dropCell : mm_YK zX2_dropCell := mm_yk (i := 440) (j := 87) (by decide +kernel)
theorem okX2_split : mm_YK zX2_split := mm_yk (i := 456) (j := 87) (by decide +kernel)
theorem okX2_handOver : mm_YK zX2_handOver := mm_yk (i := 468) (j := 87) (by decide +kernel)
theorem okX2_halve : mm_YK zX2_halve := mm_yk (i := 472) (j := 87) (by decide +kernel)
theorem okX2_addWall : mm_YK zX2_addWall := mm_yk (i := 476) (j := 87) (by decide +kernel)
theorem okX2_freeCell : mm_YK zX2_freeCell := mm_yk (i := 460) (j := 87) (by decide +kernel)
theorem okX2_canJoin : mm_YK zX2_canJoin := mm_yk (i := 487) (j := 87) (by decide +kernel)
theorem okX2_join : mm_YK zX2_join := mm_yk (i := 503) (j := 87) (by decide +kernel)
theorem okX2_makeOne : mm_YK zX2_makeOne := mm_yk (i := 507) (j := 87) (by decide +kernel)
theorem okX2_wallsBetween : mm_YK zX2_wallsBetween := mm_yk (i := 491) (j := 87) (by decide +kernel)
theorem okX2_leastBetween : mm_YK zX2_leastBetween := mm_yk (i := 615) (j := 87) (by decide +kernel)
theorem okX2_liesBetween : mm_YK zX2_liesBetween := mm_yk (i := 495) (j := 87) (by decide +kernel)
theorem okX2_border : mm_YK zX2_border := mm_yk (i := 987) (j := 87) (by decide +kernel)
theorem okX2_sidesAbout : mm_YK zX2_sidesAbout := mm_yk (i := 991) (j := 87) (by decide +kernel)
theorem okX2_unlikeAbout : mm_YK zX2_unlikeAbout := mm_yk (i := 995) (j := 87) (by decide +kernel)
theorem okX2_howMany : mm_YK zX2_howMany := mm_yk (i := 674) (j := 87) (by decide +kernel)
theorem okX2_areaOfAll : mm_YK zX2_areaOfAll := mm_yk (i := 689) (j := 87) (by decide +kernel)
theorem okX2_sidesAboutAll : mm_YK zX2_sidesAboutAll := mm_yk (i := 678) (j := 87) (by decide +kernel)
theorem okX2_rankOf : mm_YK zX2_rankOf := mm_yk (i := 702) (j := 87) (by decide +kernel)
theorem okX2_howManyCells : mm_YK zX2_howManyCells := mm_yk (i := 851) (j := 87) (by decide +kernel)
theorem okX2_howManyWalls : mm_YK zX2_howManyWalls := mm_yk (i := 464) (j := 87) (by decide +kernel)
theorem okX2_strain : mm_YK zX2_strain := mm_yk (i := 749) (j := 87) (by decide +kernel)
theorem okX2_turns : mm_YK zX2_turns := mm_yk (i := 753) (j := 87) (by decide +kernel)
theorem okX2_sumOfAreas : mm_YK zX2_sumOfAreas := mm_yk (i := 757) (j := 87) (by decide +kernel)
theorem okX2_greatestArea : mm_YK zX2_greatestArea := mm_yk (i := 761) (j := 87) (by decide +kernel)
theorem okX2_leastArea : mm_YK zX2_leastArea := mm_yk (i := 766) (j := 87) (by decide +kernel)
theorem okX2_sumOfLengths : mm_YK zX2_sumOfLengths := mm_yk (i := 771) (j := 87) (by decide +kernel)
theorem okX2_mostSides : mm_YK zX2_mostSides := mm_yk (i := 780) (j := 87) (by decide +kernel)
theorem okX2_fewestSides : mm_YK zX2_fewestSides := mm_yk (i := 784) (j := 87) (by decide +kernel)
theorem okX2_hasSidesOf : mm_YK zX2_hasSidesOf := mm_yk (i := 839) (j := 87) (by decide +kernel)
theorem okX2_growAreas : mm_YK zX2_growAreas := mm_yk (i := 536) (j := 87) (by decide +kernel)
theorem okX2_stretchWalls : mm_YK zX2_stretchWalls := mm_yk (i := 541) (j := 87) (by decide +kernel)
theorem okX3_leastStrain : mm_YK zX3_leastStrain := mm_yk (i := 796) (j := 89) (by decide +kernel)
theorem okX3_mostEased : mm_YK zX3_mostEased := mm_yk (i := 801) (j := 89) (by decide +kernel)
theorem okX3_oneSwapTo : mm_YK zX3_oneSwapTo := mm_yk (i := 815) (j := 89) (by decide +kernel)
theorem okX3_twoSwapsTo : mm_YK zX3_twoSwapsTo := mm_yk (i := 826) (j := 89) (by decide +kernel)
theorem okX3_swapTo : mm_YK zX3_swapTo := mm_yk (i := 818) (j := 89) (by decide +kernel)
theorem okX3_gain : mm_YK zX3_gain := mm_yk (i := 821) (j := 89) (by decide +kernel)
theorem okX3_stepsToAlike : mm_YK zX3_stepsToAlike := mm_yk (i := 834) (j := 89) (by decide +kernel)
theorem okX3_stepsToFew : mm_YK zX3_stepsToFew := mm_yk (i := 847) (j := 89) (by decide +kernel)
theorem okX3_bestSeed : mm_YK zX3_bestSeed := mm_yk (i := 859) (j := 89) (by decide +kernel)
theorem okX3_swapsToRest : mm_YK zX3_swapsToRest := mm_yk (i := 869) (j := 89) (by decide +kernel)
theorem okX3_goOnFrom : mm_YK zX3_goOnFrom := mm_yk (i := 877) (j := 89) (by decide +kernel)
theorem okX3_stepsToGone : mm_YK zX3_stepsToGone := mm_yk (i := 886) (j := 89) (by decide +kernel)
theorem okX3_stepsToFirst : mm_YK zX3_stepsToFirst := mm_yk (i := 895) (j := 89) (by decide +kernel)
theorem okX4_spot : mm_YK zX4_spot := mm_yk (i := 713) (j := 90) (by decide +kernel)
theorem okX4_clearDistances : mm_YK zX4_clearDistances := mm_yk (i := 627) (j := 90) (by decide +kernel)
theorem okX4_spread : mm_YK zX4_spread := mm_yk (i := 623) (j := 90) (by decide +kernel)
theorem okX4_spreadWithin : mm_YK zX4_spreadWithin := mm_yk (i := 633) (j := 90) (by decide +kernel)
theorem okX4_howManyAt : mm_YK zX4_howManyAt := mm_yk (i := 642) (j := 90) (by decide +kernel)
theorem okX4_whichAt : mm_YK zX4_whichAt := mm_yk (i := 650) (j := 90) (by decide +kernel)
theorem okX4_comeNearer : mm_YK zX4_comeNearer := mm_yk (i := 658) (j := 90) (by decide +kernel)
theorem okX4_leastNearer : mm_YK zX4_leastNearer := mm_yk (i := 662) (j := 90) (by decide +kernel)
theorem okX4_gatherPieces : mm_YK zX4_gatherPieces := mm_yk (i := 741) (j := 90) (by decide +kernel)
theorem okX4_spreadRound : mm_YK zX4_spreadRound := mm_yk (i := 710) (j := 90) (by decide +kernel)
theorem okX4_goRound : mm_YK zX4_goRound := mm_yk (i := 721) (j := 90) (by decide +kernel)
theorem okX4_isNear : mm_YK zX4_isNear := mm_yk (i := 724) (j := 90) (by decide +kernel)
theorem okX4_put : mm_YK zX4_put := mm_yk (i := 717) (j := 90) (by decide +kernel)
theorem okX5_ring : mm_YK zX5_ring := mm_yk (i := 337) (j := 85) (by decide +kernel)
theorem okX5_rate : mm_YK zX5_rate := mm_yk (i := 345) (j := 85) (by decide +kernel)
theorem okX5_area : mm_YK zX5_area := mm_yk (i := 349) (j := 85) (by decide +kernel)
theorem okX5_length : mm_YK zX5_length := mm_yk (i := 357) (j := 85) (by decide +kernel)
theorem okX5_swap : mm_YK zX5_swap := mm_yk (i := 365) (j := 85) (by decide +kernel)
theorem okX5_vanish : mm_YK zX5_vanish := mm_yk (i := 404) (j := 85) (by decide +kernel)
theorem okX5_cut : mm_YK zX5_cut := mm_yk (i := 444) (j := 85) (by decide +kernel)
theorem okX5_burst : mm_YK zX5_burst := mm_yk (i := 483) (j := 85) (by decide +kernel)
theorem okX5_shake : mm_YK zX5_shake := mm_yk (i := 511) (j := 85) (by decide +kernel)
theorem okX5_steps : mm_YK zX5_steps := mm_yk (i := 528) (j := 85) (by decide +kernel)
theorem okX5_relax : mm_YK zX5_relax := mm_yk (i := 560) (j := 85) (by decide +kernel)
theorem okX5_wall : mm_YK zX5_wall := mm_yk (i := 599) (j := 85) (by decide +kernel)
theorem okX5_between : mm_YK zX5_between := mm_yk (i := 606) (j := 85) (by decide +kernel)
theorem okX5_far : mm_YK zX5_far := mm_yk (i := 619) (j := 85) (by decide +kernel)
theorem okX5_shell : mm_YK zX5_shell := mm_yk (i := 638) (j := 85) (by decide +kernel)
theorem okX5_shellOf : mm_YK zX5_shellOf := mm_yk (i := 646) (j := 85) (by decide +kernel)
theorem okX5_way : mm_YK zX5_way := mm_yk (i := 654) (j := 85) (by decide +kernel)
theorem okX5_mutual : mm_YK zX5_mutual := mm_yk (i := 666) (j := 85) (by decide +kernel)
theorem okX5_about : mm_YK zX5_about := mm_yk (i := 670) (j := 85) (by decide +kernel)
theorem okX5_kind : mm_YK zX5_kind := mm_yk (i := 685) (j := 85) (by decide +kernel)
theorem okX5_pairs : mm_YK zX5_pairs := mm_yk (i := 694) (j := 85) (by decide +kernel)
theorem okX5_ranked : mm_YK zX5_ranked := mm_yk (i := 698) (j := 85) (by decide +kernel)
theorem okX5_around : mm_YK zX5_around := mm_yk (i := 706) (j := 85) (by decide +kernel)
theorem okX5_rounds : mm_YK zX5_rounds := mm_yk (i := 729) (j := 85) (by decide +kernel)
theorem okX5_spans : mm_YK zX5_spans := mm_yk (i := 733) (j := 85) (by decide +kernel)
theorem okX5_pieces : mm_YK zX5_pieces := mm_yk (i := 737) (j := 85) (by decide +kernel)
theorem okX5_all : mm_YK zX5_all := mm_yk (i := 745) (j := 85) (by decide +kernel)
theorem okX5_easiest : mm_YK zX5_easiest := mm_yk (i := 788) (j := 85) (by decide +kernel)
theorem okX5_lowest : mm_YK zX5_lowest := mm_yk (i := 792) (j := 85) (by decide +kernel)
theorem okX5_reach : mm_YK zX5_reach := mm_yk (i := 811) (j := 85) (by decide +kernel)
theorem okX5_alike : mm_YK zX5_alike := mm_yk (i := 830) (j := 85) (by decide +kernel)
theorem okX5_until : mm_YK zX5_until := mm_yk (i := 843) (j := 85) (by decide +kernel)
theorem okX5_rested : mm_YK zX5_rested := mm_yk (i := 855) (j := 85) (by decide +kernel)
theorem okX5_resting : mm_YK zX5_resting := mm_yk (i := 865) (j := 85) (by decide +kernel)
theorem okX5_later : mm_YK zX5_later := mm_yk (i := 873) (j := 85) (by decide +kernel)
theorem okX5_gone : mm_YK zX5_gone := mm_yk (i := 882) (j := 85) (by decide +kernel)
theorem okX5_first : mm_YK zX5_first := mm_yk (i := 891) (j := 85) (by decide +kernel)
theorem okX5_log : mm_YK zX5_log := mm_yk (i := 899) (j := 85) (by decide +kernel)
theorem okX5_count : mm_YK zX5_count := mm_yk (i := 908) (j := 85) (by decide +kernel)
theorem okX5_areTwo : mm_YK zX5_areTwo := mm_yk (i := 610) (j := 85) (by decide +kernel)
theorem okX5_isShake : mm_YK zX5_isShake := mm_yk (i := 514) (j := 85) (by decide +kernel)
theorem okX5_commonDivisor : mm_YK zX5_commonDivisor := mm_yk (i := 681) (j := 85) (by decide +kernel)
theorem okX6_thrown : mm_YK zX6_thrown := mm_yk (i := 1067) (j := 92) (by decide +kernel)
theorem okX6_copy : mm_YK zX6_copy := mm_yk (i := 1074) (j := 92) (by decide +kernel)
theorem okX6_refuse : mm_YK zX6_refuse := mm_yk (i := 1088) (j := 92) (by decide +kernel)
theorem okX6_keep : mm_YK zX6_keep := mm_yk (i := 1071) (j := 92) (by decide +kernel)
theorem okX6_again : mm_YK zX6_again := mm_yk (i := 1078) (j := 92) (by decide +kernel)
theorem okX6_think : mm_YK zX6_think := mm_yk (i := 1461) (j := 92) (by decide +kernel)
theorem okX6_endThought : mm_YK zX6_endThought := mm_yk (i := 1485) (j := 92) (by decide +kernel)
theorem okX6_sign : mm_YK zX6_sign := mm_yk (i := 1025) (j := 92) (by decide +kernel)
theorem okX6_halfOf : mm_YK zX6_halfOf := mm_yk (i := 1022) (j := 92) (by decide +kernel)
theorem okX6_lay : mm_YK zX6_lay := mm_yk (i := 1014) (j := 92) (by decide +kernel)
theorem okX6_ring : mm_YK zX6_ring := mm_yk (i := 1082) (j := 92) (by decide +kernel)
theorem okX6_next : mm_YK zX6_next := mm_yk (i := 1137) (j := 92) (by decide +kernel)
theorem okX6_before : mm_YK zX6_before := mm_yk (i := 1141) (j := 92) (by decide +kernel)
theorem okX6_cellOf : mm_YK zX6_cellOf := mm_yk (i := 1129) (j := 92) (by decide +kernel)
theorem okX6_over : mm_YK zX6_over := mm_yk (i := 1133) (j := 92) (by decide +kernel)
theorem okX6_isCell : mm_YK zX6_isCell := mm_yk (i := 1102) (j := 92) (by decide +kernel)
theorem okX6_isWall : mm_YK zX6_isWall := mm_yk (i := 1112) (j := 92) (by decide +kernel)
theorem okX6_sidesOf : mm_YK zX6_sidesOf := mm_yk (i := 1148) (j := 92) (by decide +kernel)
theorem okX6_firstSide : mm_YK zX6_firstSide := mm_yk (i := 1199) (j := 92) (by decide +kernel)
theorem okX6_sideAt : mm_YK zX6_sideAt := mm_yk (i := 1219) (j := 92) (by decide +kernel)
theorem okX6_many : mm_YK zX6_many := mm_yk (i := 1493) (j := 92) (by decide +kernel)
theorem okX6_join : mm_YK zX6_join := mm_yk (i := 1175) (j := 92) (by decide +kernel)
theorem okX6_leave : mm_YK zX6_leave := mm_yk (i := 1171) (j := 92) (by decide +kernel)
theorem okX6_enter : mm_YK zX6_enter := mm_yk (i := 1179) (j := 92) (by decide +kernel)
theorem okX6_counts : mm_YK zX6_counts := mm_yk (i := 1183) (j := 92) (by decide +kernel)
theorem okX6_notes : mm_YK zX6_notes := mm_yk (i := 1187) (j := 92) (by decide +kernel)
theorem okX6_areFour : mm_YK zX6_areFour := mm_yk (i := 1144) (j := 92) (by decide +kernel)
theorem okX6_hasFour : mm_YK zX6_hasFour := mm_yk (i := 1125) (j := 92) (by decide +kernel)
theorem okX6_canSwap : mm_YK zX6_canSwap := mm_yk (i := 1121) (j := 92) (by decide +kernel)
theorem okX6_square : mm_YK zX6_square := mm_yk (i := 1159) (j := 92) (by decide +kernel)
theorem okX6_turn : mm_YK zX6_turn := mm_yk (i := 1156) (j := 92) (by decide +kernel)
theorem okX6_easing : mm_YK zX6_easing := mm_yk (i := 1152) (j := 92) (by decide +kernel)
theorem okX6_turnWall : mm_YK zX6_turnWall := mm_yk (i := 1167) (j := 92) (by decide +kernel)
theorem okX6_swaps : mm_YK zX6_swaps := mm_yk (i := 1163) (j := 92) (by decide +kernel)
theorem okX6_rate : mm_YK zX6_rate := mm_yk (i := 1092) (j := 92) (by decide +kernel)
theorem okX6_area : mm_YK zX6_area := mm_yk (i := 1096) (j := 92) (by decide +kernel)
theorem okX6_length : mm_YK zX6_length := mm_yk (i := 1107) (j := 92) (by decide +kernel)
theorem okX6_swap : mm_YK zX6_swap := mm_yk (i := 1117) (j := 92) (by decide +kernel)
theorem okX6_canVanish : mm_YK zX6_canVanish := mm_yk (i := 1195) (j := 92) (by decide +kernel)
theorem okX6_isRicher : mm_YK zX6_isRicher := mm_yk (i := 1207) (j := 92) (by decide +kernel)
theorem okX6_vanishes : mm_YK zX6_vanishes := mm_yk (i := 1203) (j := 92) (by decide +kernel)
theorem okX6_vanish : mm_YK zX6_vanish := mm_yk (i := 1191) (j := 92) (by decide +kernel)
theorem okX6_freeWall : mm_YK zX6_freeWall := mm_yk (i := 1235) (j := 92) (by decide +kernel)
theorem okX6_freeCell : mm_YK zX6_freeCell := mm_yk (i := 1215) (j := 92) (by decide +kernel)
theorem okX6_newWall : mm_YK zX6_newWall := mm_yk (i := 1231) (j := 92) (by decide +kernel)
theorem okX6_halves : mm_YK zX6_halves := mm_yk (i := 1227) (j := 92) (by decide +kernel)
theorem okX6_cut : mm_YK zX6_cut := mm_yk (i := 1211) (j := 92) (by decide +kernel)
theorem okX6_cutBy : mm_YK zX6_cutBy := mm_yk (i := 1223) (j := 92) (by decide +kernel)
theorem okX6_countRound : mm_YK zX6_countRound := mm_yk (i := 1239) (j := 92) (by decide +kernel)
theorem okX6_wallsBetween : mm_YK zX6_wallsBetween := mm_yk (i := 1251) (j := 92) (by decide +kernel)
theorem okX6_canBurst : mm_YK zX6_canBurst := mm_yk (i := 1247) (j := 92) (by decide +kernel)
theorem okX6_melt : mm_YK zX6_melt := mm_yk (i := 1255) (j := 92) (by decide +kernel)
theorem okX6_burst : mm_YK zX6_burst := mm_yk (i := 1243) (j := 92) (by decide +kernel)
theorem okX6_draw : mm_YK zX6_draw := mm_yk (i := 1268) (j := 92) (by decide +kernel)
theorem okX6_shakes : mm_YK zX6_shakes := mm_yk (i := 1264) (j := 92) (by decide +kernel)
theorem okX6_shake : mm_YK zX6_shake := mm_yk (i := 1259) (j := 92) (by decide +kernel)
theorem okX6_grows : mm_YK zX6_grows := mm_yk (i := 1284) (j := 92) (by decide +kernel)
theorem okX6_shortest : mm_YK zX6_shortest := mm_yk (i := 1292) (j := 92) (by decide +kernel)
theorem okX6_step : mm_YK zX6_step := mm_yk (i := 1280) (j := 92) (by decide +kernel)
theorem okX6_shrinks : mm_YK zX6_shrinks := mm_yk (i := 1288) (j := 92) (by decide +kernel)
theorem okX6_steps : mm_YK zX6_steps := mm_yk (i := 1275) (j := 92) (by decide +kernel)
theorem okX6_easier : mm_YK zX6_easier := mm_yk (i := 1304) (j := 92) (by decide +kernel)
theorem okX6_relaxes : mm_YK zX6_relaxes := mm_yk (i := 1300) (j := 92) (by decide +kernel)
theorem okX6_relax : mm_YK zX6_relax := mm_yk (i := 1296) (j := 92) (by decide +kernel)
theorem okX6_isThere : mm_YK zX6_isThere := mm_yk (i := 1312) (j := 92) (by decide +kernel)
theorem okX6_aboutOf : mm_YK zX6_aboutOf := mm_yk (i := 1320) (j := 92) (by decide +kernel)
theorem okX6_lengthsOf : mm_YK zX6_lengthsOf := mm_yk (i := 1316) (j := 92) (by decide +kernel)
theorem okX6_areBeside : mm_YK zX6_areBeside := mm_yk (i := 1328) (j := 92) (by decide +kernel)
theorem okX6_neighbours : mm_YK zX6_neighbours := mm_yk (i := 1324) (j := 92) (by decide +kernel)
theorem okX6_cell : mm_YK zX6_cell := mm_yk (i := 1308) (j := 92) (by decide +kernel)
theorem okX6_side : mm_YK zX6_side := mm_yk (i := 1333) (j := 92) (by decide +kernel)
theorem okX6_lesser : mm_YK zX6_lesser := mm_yk (i := 1341) (j := 92) (by decide +kernel)
theorem okX6_greater : mm_YK zX6_greater := mm_yk (i := 1344) (j := 92) (by decide +kernel)
theorem okX6_wall : mm_YK zX6_wall := mm_yk (i := 1338) (j := 92) (by decide +kernel)
theorem okX6_between : mm_YK zX6_between := mm_yk (i := 1348) (j := 92) (by decide +kernel)
theorem okX6_layFar : mm_YK zX6_layFar := mm_yk (i := 1356) (j := 92) (by decide +kernel)
theorem okX6_far : mm_YK zX6_far := mm_yk (i := 1352) (j := 92) (by decide +kernel)
theorem okX6_shell : mm_YK zX6_shell := mm_yk (i := 1360) (j := 92) (by decide +kernel)
theorem okX6_shellOf : mm_YK zX6_shellOf := mm_yk (i := 1364) (j := 92) (by decide +kernel)
theorem okX6_way : mm_YK zX6_way := mm_yk (i := 1368) (j := 92) (by decide +kernel)
theorem okX6_mutual : mm_YK zX6_mutual := mm_yk (i := 1372) (j := 92) (by decide +kernel)
theorem okX6_ofKind : mm_YK zX6_ofKind := mm_yk (i := 1380) (j := 92) (by decide +kernel)
theorem okX6_common : mm_YK zX6_common := mm_yk (i := 1383) (j := 92) (by decide +kernel)
theorem okX6_about : mm_YK zX6_about := mm_yk (i := 1376) (j := 92) (by decide +kernel)
theorem okX6_kind : mm_YK zX6_kind := mm_yk (i := 1387) (j := 92) (by decide +kernel)
theorem okX6_pairs : mm_YK zX6_pairs := mm_yk (i := 1391) (j := 92) (by decide +kernel)
theorem okX6_ranked : mm_YK zX6_ranked := mm_yk (i := 1395) (j := 92) (by decide +kernel)
theorem okX6_stateOf : mm_YK zX6_stateOf := mm_yk (i := 1407) (j := 92) (by decide +kernel)
theorem okX6_layWays : mm_YK zX6_layWays := mm_yk (i := 1404) (j := 92) (by decide +kernel)
theorem okX6_spread : mm_YK zX6_spread := mm_yk (i := 1411) (j := 92) (by decide +kernel)
theorem okX6_around : mm_YK zX6_around := mm_yk (i := 1399) (j := 92) (by decide +kernel)
theorem okX6_rounds : mm_YK zX6_rounds := mm_yk (i := 1416) (j := 92) (by decide +kernel)
theorem okX6_spans : mm_YK zX6_spans := mm_yk (i := 1420) (j := 92) (by decide +kernel)
theorem okX6_layPieces : mm_YK zX6_layPieces := mm_yk (i := 1428) (j := 92) (by decide +kernel)
theorem okX6_pieces : mm_YK zX6_pieces := mm_yk (i := 1424) (j := 92) (by decide +kernel)
theorem okX6_strain : mm_YK zX6_strain := mm_yk (i := 1436) (j := 92) (by decide +kernel)
theorem okX6_ofCells : mm_YK zX6_ofCells := mm_yk (i := 1444) (j := 92) (by decide +kernel)
theorem okX6_ofWalls : mm_YK zX6_ofWalls := mm_yk (i := 1440) (j := 92) (by decide +kernel)
theorem okX6_all : mm_YK zX6_all := mm_yk (i := 1432) (j := 92) (by decide +kernel)
theorem okX6_easiest : mm_YK zX6_easiest := mm_yk (i := 1449) (j := 92) (by decide +kernel)
theorem okX6_eased : mm_YK zX6_eased := mm_yk (i := 1457) (j := 92) (by decide +kernel)
theorem okX6_lowest : mm_YK zX6_lowest := mm_yk (i := 1453) (j := 92) (by decide +kernel)
theorem okX6_bringsTo : mm_YK zX6_bringsTo := mm_yk (i := 1469) (j := 92) (by decide +kernel)
theorem okX6_changes : mm_YK zX6_changes := mm_yk (i := 1473) (j := 92) (by decide +kernel)
theorem okX6_reach : mm_YK zX6_reach := mm_yk (i := 1465) (j := 92) (by decide +kernel)
theorem okX6_areAlike : mm_YK zX6_areAlike := mm_yk (i := 1481) (j := 92) (by decide +kernel)
theorem okX6_alike : mm_YK zX6_alike := mm_yk (i := 1477) (j := 92) (by decide +kernel)
theorem okX6_until : mm_YK zX6_until := mm_yk (i := 1489) (j := 92) (by decide +kernel)
theorem okX6_rested : mm_YK zX6_rested := mm_yk (i := 1497) (j := 92) (by decide +kernel)
theorem okX6_resting : mm_YK zX6_resting := mm_yk (i := 1503) (j := 92) (by decide +kernel)
theorem okX6_later : mm_YK zX6_later := mm_yk (i := 1507) (j := 92) (by decide +kernel)
theorem okX6_gone : mm_YK zX6_gone := mm_yk (i := 1512) (j := 92) (by decide +kernel)
theorem okX6_first : mm_YK zX6_first := mm_yk (i := 1516) (j := 92) (by decide +kernel)
theorem okX6_log : mm_YK zX6_log := mm_yk (i := 1520) (j := 92) (by decide +kernel)
theorem okX6_count : mm_YK zX6_count := mm_yk (i := 1524) (j := 92) (by decide +kernel)
theorem okJ9_floorDiv_7cf53 : mm_YK zJ9_floorDiv_7cf53 := mm_yk (i := 479) (j := 91) (by decide +kernel)
theorem okJ9_floorMod_7cf53 : mm_YK zJ9_floorMod_7cf53 := mm_yk (i := 307) (j := 91) (by decide +kernel)
theorem okJ9_max_7cf53 : mm_YK zJ9_max_7cf53 := mm_yk (i := 544) (j := 91) (by decide +kernel)
theorem okJ9_min_7cf53 : mm_YK zJ9_min_7cf53 := mm_yk (i := 432) (j := 91) (by decide +kernel)
theorem lk0_34 : mm_LK 0 34 false zJ9_floorMod_7cf53 := mm_lks (i1 := 904) (i2 := 306) okJ9_floorMod_7cf53 (by decide +kernel)
set_option maxRecDepth 100000 in
theorem mm_okM0 : ∀ e ∈ mm_M0, mm_LK 0 e.1 e.2.1 e.2.2 := List.forall_mem_cons.mpr ⟨lk0_34, fun _ h => absurd h List.not_mem_nil⟩
theorem lk1_54 : mm_LK 1 54 true zX0_clear := mm_lkv (i1 := 288) (i2 := 289) (i3 := 290) okX0_clear (by decide +kernel)
theorem lk1_57 : mm_LK 1 57 true zX2_layRing := mm_lkv (i1 := 292) (i2 := 293) (i3 := 294) okX2_layRing (by decide +kernel)
theorem lk1_61 : mm_LK 1 61 true zX2_copyOf := mm_lkv (i1 := 579) (i2 := 580) (i3 := 581) okX2_copyOf (by decide +kernel)
theorem lk1_65 : mm_LK 1 65 true zX0_copyOf := mm_lkv (i1 := 586) (i2 := 587) (i3 := 588) okX0_copyOf (by decide +kernel)
theorem lk1_74 : mm_LK 1 74 true zX2_flip := mm_lkv (i1 := 385) (i2 := 386) (i3 := 387) okX2_flip (by decide +kernel)
theorem lk1_78 : mm_LK 1 78 true zX0_write := mm_lkv (i1 := 397) (i2 := 398) (i3 := 399) okX0_write (by decide +kernel)
theorem lk1_82 : mm_LK 1 82 true zX2_shrink := mm_lkv (i1 := 421) (i2 := 422) (i3 := 423) okX2_shrink (by decide +kernel)
theorem lk1_86 : mm_LK 1 86 true zX2_split := mm_lkv (i1 := 453) (i2 := 454) (i3 := 455) okX2_split (by decide +kernel)
theorem lk1_90 : mm_LK 1 90 true zX2_join := mm_lkv (i1 := 500) (i2 := 501) (i3 := 502) okX2_join (by decide +kernel)
theorem lk1_93 : mm_LK 1 93 true zX2_growAreas := mm_lkv (i1 := 533) (i2 := 534) (i3 := 535) okX2_growAreas (by decide +kernel)
theorem lk1_96 : mm_LK 1 96 true zX2_stretchWalls := mm_lkv (i1 := 538) (i2 := 539) (i3 := 540) okX2_stretchWalls (by decide +kernel)
theorem lk1_99 : mm_LK 1 99 true zX2_hasWall := mm_lkv (i1 := 521) (i2 := 359) (i3 := 360) okX2_hasWall (by decide +kernel)
theorem lk1_106 : mm_LK 1 106 true zX2_canFlip := mm_lkv (i1 := 522) (i2 := 367) (i3 := 368) okX2_canFlip (by decide +kernel)
theorem lk1_109 : mm_LK 1 109 true zX1_flipWall := mm_lkv (i1 := 524) (i2 := 382) (i3 := 383) okX1_flipWall (by decide +kernel)
theorem lk1_112 : mm_LK 1 112 true zX2_hasCell := mm_lkv (i1 := 545) (i2 := 351) (i3 := 352) okX2_hasCell (by decide +kernel)
theorem lk1_118 : mm_LK 1 118 true zX1_giveWay := mm_lkv (i1 := 546) (i2 := 548) (i3 := 14) okX1_giveWay (by decide +kernel)
theorem lk1_124 : mm_LK 1 124 true zX2_shortestSide := mm_lkv (i1 := 550) (i2 := 551) (i3 := 552) okX2_shortestSide (by decide +kernel)
theorem lk1_127 : mm_LK 1 127 true zX2_canShrink := mm_lkv (i1 := 555) (i2 := 406) (i3 := 407) okX2_canShrink (by decide +kernel)
theorem lk1_130 : mm_LK 1 130 true zX1_shrinkCell := mm_lkv (i1 := 556) (i2 := 418) (i3 := 419) okX1_shrinkCell (by decide +kernel)
theorem lk1_134 : mm_LK 1 134 true zX2_easiestWall := mm_lkv (i1 := 566) (i2 := 567) (i3 := 568) okX2_easiestWall (by decide +kernel)
theorem lk1_139 : mm_LK 1 139 true zX2_easing := mm_lkv (i1 := 523) (i2 := 378) (i3 := 379) okX2_easing (by decide +kernel)
set_option maxRecDepth 100000 in
theorem mm_okM1 : ∀ e ∈ mm_M1, mm_LK 1 e.1 e.2.1 e.2.2 := List.forall_mem_cons.mpr ⟨lk1_54, List.forall_mem_cons.mpr ⟨lk1_57, List.forall_mem_cons.mpr ⟨lk1_61, List.forall_mem_cons.mpr ⟨lk1_65, List.forall_mem_cons.mpr ⟨lk1_74, List.forall_mem_cons.mpr ⟨lk1_78, List.forall_mem_cons.mpr ⟨lk1_82, List.forall_mem_cons.mpr ⟨lk1_86, List.forall_mem_cons.mpr ⟨lk1_90, List.forall_mem_cons.mpr ⟨lk1_93, List.forall_mem_cons.mpr ⟨lk1_96, List.forall_mem_cons.mpr ⟨lk1_99, List.forall_mem_cons.mpr ⟨lk1_106, List.forall_mem_cons.mpr ⟨lk1_109, List.forall_mem_cons.mpr ⟨lk1_112, List.forall_mem_cons.mpr ⟨lk1_118, List.forall_mem_cons.mpr ⟨lk1_124, List.forall_mem_cons.mpr ⟨lk1_127, List.forall_mem_cons.mpr ⟨lk1_130, List.forall_mem_cons.mpr ⟨lk1_134, List.forall_mem_cons.mpr ⟨lk1_139, fun _ h => absurd h List.not_mem_nil⟩⟩⟩⟩⟩⟩⟩⟩⟩⟩⟩⟩⟩⟩⟩⟩⟩⟩⟩⟩⟩
theorem lk2_42 : mm_LK 2 42 true zX2_layCell := mm_lkv (i1 := 296) (i2 := 298) (i3 := 0) okX2_layCell (by decide +kernel)
theorem lk2_46 : mm_LK 2 46 false zX2_halfOnRing := mm_lks (i1 := 300) (i2 := 301) okX2_halfOnRing (by decide +kernel)
theorem lk2_50 : mm_LK 2 50 true zX2_link := mm_lkv (i1 := 310) (i2 := 312) (i3 := 1) okX2_link (by decide +kernel)
theorem lk2_57 : mm_LK 2 57 false zX2_over := mm_lks (i1 := 314) (i2 := 315) okX2_over (by decide +kernel)
theorem lk2_64 : mm_LK 2 64 true zX2_setRound := mm_lkv (i1 := 317) (i2 := 319) (i3 := 2) okX2_setRound (by decide +kernel)
theorem lk2_68 : mm_LK 2 68 false zJ9_floorMod_7cf53 := mm_lks (i1 := 305) (i2 := 306) okJ9_floorMod_7cf53 (by decide +kernel)
theorem lk2_73 : mm_LK 2 73 true zX2_firstHalf := mm_lkv (i1 := 409) (i2 := 410) (i3 := 411) okX2_firstHalf (by decide +kernel)
theorem lk2_77 : mm_LK 2 77 true zX2_endOf := mm_lkv (i1 := 370) (i2 := 371) (i3 := 372) okX2_endOf (by decide +kernel)
theorem lk2_80 : mm_LK 2 80 false zX2_areFour := mm_lks (i1 := 374) (i2 := 375) okX2_areFour (by decide +kernel)
theorem lk2_84 : mm_LK 2 84 true zX2_unlink := mm_lkv (i1 := 389) (i2 := 391) (i3 := 3) okX2_unlink (by decide +kernel)
theorem lk2_88 : mm_LK 2 88 true zX2_insert := mm_lkv (i1 := 393) (i2 := 395) (i3 := 4) okX2_insert (by decide +kernel)
theorem lk2_91 : mm_LK 2 91 true zX2_hasWall := mm_lkv (i1 := 425) (i2 := 359) (i3 := 360) okX2_hasWall (by decide +kernel)
theorem lk2_95 : mm_LK 2 95 true zX2_easing := mm_lkv (i1 := 570) (i2 := 378) (i3 := 379) okX2_easing (by decide +kernel)
theorem lk2_98 : mm_LK 2 98 true zX2_canFlip := mm_lkv (i1 := 554) (i2 := 367) (i3 := 368) okX2_canFlip (by decide +kernel)
theorem lk2_101 : mm_LK 2 101 true zX2_across := mm_lkv (i1 := 413) (i2 := 414) (i3 := 415) okX2_across (by decide +kernel)
theorem lk2_104 : mm_LK 2 104 true zX2_greater := mm_lkv (i1 := 426) (i2 := 428) (i3 := 5) okX2_greater (by decide +kernel)
theorem lk2_107 : mm_LK 2 107 true zX2_dropWall := mm_lkv (i1 := 433) (i2 := 435) (i3 := 6) okX2_dropWall (by decide +kernel)
theorem lk2_110 : mm_LK 2 110 true zX2_dropCell := mm_lkv (i1 := 437) (i2 := 439) (i3 := 7) okX2_dropCell (by decide +kernel)
theorem lk2_113 : mm_LK 2 113 false zJ9_min_7cf53 := mm_lks (i1 := 430) (i2 := 431) okJ9_min_7cf53 (by decide +kernel)
theorem lk2_116 : mm_LK 2 116 true zX2_freeCell := mm_lkv (i1 := 457) (i2 := 459) (i3 := 8) okX2_freeCell (by decide +kernel)
theorem lk2_120 : mm_LK 2 120 true zX2_howManyWalls := mm_lkv (i1 := 461) (i2 := 462) (i3 := 463) okX2_howManyWalls (by decide +kernel)
theorem lk2_123 : mm_LK 2 123 true zX2_handOver := mm_lkv (i1 := 465) (i2 := 467) (i3 := 9) okX2_handOver (by decide +kernel)
theorem lk2_127 : mm_LK 2 127 true zX2_halve := mm_lkv (i1 := 469) (i2 := 471) (i3 := 10) okX2_halve (by decide +kernel)
theorem lk2_130 : mm_LK 2 130 true zX2_addWall := mm_lkv (i1 := 473) (i2 := 475) (i3 := 11) okX2_addWall (by decide +kernel)
theorem lk2_134 : mm_LK 2 134 false zJ9_floorDiv_7cf53 := mm_lks (i1 := 477) (i2 := 478) okJ9_floorDiv_7cf53 (by decide +kernel)
theorem lk2_137 : mm_LK 2 137 true zX2_wallsBetween := mm_lkv (i1 := 488) (i2 := 489) (i3 := 490) okX2_wallsBetween (by decide +kernel)
theorem lk2_140 : mm_LK 2 140 true zX2_makeOne := mm_lkv (i1 := 504) (i2 := 506) (i3 := 13) okX2_makeOne (by decide +kernel)
theorem lk2_143 : mm_LK 2 143 true zX2_liesBetween := mm_lkv (i1 := 492) (i2 := 494) (i3 := 12) okX2_liesBetween (by decide +kernel)
theorem lk2_147 : mm_LK 2 147 true zX2_leastBetween := mm_lkv (i1 := 996) (i2 := 613) (i3 := 614) okX2_leastBetween (by decide +kernel)
theorem lk2_150 : mm_LK 2 150 true zX2_hasCell := mm_lkv (i1 := 537) (i2 := 351) (i3 := 352) okX2_hasCell (by decide +kernel)
theorem lk2_156 : mm_LK 2 156 false zJ9_max_7cf53 := mm_lks (i1 := 542) (i2 := 543) okJ9_max_7cf53 (by decide +kernel)
set_option maxRecDepth 100000 in
theorem mm_okM2 : ∀ e ∈ mm_M2, mm_LK 2 e.1 e.2.1 e.2.2 := List.forall_mem_cons.mpr ⟨lk2_42, List.forall_mem_cons.mpr ⟨lk2_46, List.forall_mem_cons.mpr ⟨lk2_50, List.forall_mem_cons.mpr ⟨lk2_57, List.forall_mem_cons.mpr ⟨lk2_64, List.forall_mem_cons.mpr ⟨lk2_68, List.forall_mem_cons.mpr ⟨lk2_73, List.forall_mem_cons.mpr ⟨lk2_77, List.forall_mem_cons.mpr ⟨lk2_80, List.forall_mem_cons.mpr ⟨lk2_84, List.forall_mem_cons.mpr ⟨lk2_88, List.forall_mem_cons.mpr ⟨lk2_91, List.forall_mem_cons.mpr ⟨lk2_95, List.forall_mem_cons.mpr ⟨lk2_98, List.forall_mem_cons.mpr ⟨lk2_101, List.forall_mem_cons.mpr ⟨lk2_104, List.forall_mem_cons.mpr ⟨lk2_107, List.forall_mem_cons.mpr ⟨lk2_110, List.forall_mem_cons.mpr ⟨lk2_113, List.forall_mem_cons.mpr ⟨lk2_116, List.forall_mem_cons.mpr ⟨lk2_120, List.forall_mem_cons.mpr ⟨lk2_123, List.forall_mem_cons.mpr ⟨lk2_127, List.forall_mem_cons.mpr ⟨lk2_130, List.forall_mem_cons.mpr ⟨lk2_134, List.forall_mem_cons.mpr ⟨lk2_137, List.forall_mem_cons.mpr ⟨lk2_140, List.forall_mem_cons.mpr ⟨lk2_143, List.forall_mem_cons.mpr ⟨lk2_147, List.forall_mem_cons.mpr ⟨lk2_150, List.forall_mem_cons.mpr ⟨lk2_156, fun _ h => absurd h List.not_mem_nil⟩⟩⟩⟩⟩⟩⟩⟩⟩⟩⟩⟩⟩⟩⟩⟩⟩⟩⟩⟩⟩⟩⟩⟩⟩⟩⟩⟩⟩⟩⟩
theorem lk3_18 : mm_LK 3 18 true zX1_copyOf := mm_lkv (i1 := 797) (i2 := 576) (i3 := 577) okX1_copyOf (by decide +kernel)
theorem lk3_26 : mm_LK 3 26 true zX2_strain := mm_lkv (i1 := 798) (i2 := 747) (i3 := 748) okX2_strain (by decide +kernel)
theorem lk3_32 : mm_LK 3 32 false zX3_mostEased := mm_lks (i1 := 799) (i2 := 800) okX3_mostEased (by decide +kernel)
theorem lk3_36 : mm_LK 3 36 true zX2_hasWall := mm_lkv (i1 := 804) (i2 := 359) (i3 := 360) okX2_hasWall (by decide +kernel)
theorem lk3_40 : mm_LK 3 40 true zX2_canFlip := mm_lkv (i1 := 805) (i2 := 367) (i3 := 368) okX2_canFlip (by decide +kernel)
theorem lk3_43 : mm_LK 3 43 true zX2_easing := mm_lkv (i1 := 803) (i2 := 378) (i3 := 379) okX2_easing (by decide +kernel)
theorem lk3_47 : mm_LK 3 47 true zX2_flip := mm_lkv (i1 := 806) (i2 := 386) (i3 := 387) okX2_flip (by decide +kernel)
theorem lk3_51 : mm_LK 3 51 false zJ9_max_7cf53 := mm_lks (i1 := 807) (i2 := 543) okJ9_max_7cf53 (by decide +kernel)
theorem lk3_57 : mm_LK 3 57 true zX2_easiestWall := mm_lkv (i1 := 802) (i2 := 567) (i3 := 568) okX2_easiestWall (by decide +kernel)
theorem lk3_60 : mm_LK 3 60 false zX3_swapTo := mm_lks (i1 := 816) (i2 := 817) okX3_swapTo (by decide +kernel)
theorem lk3_68 : mm_LK 3 68 false zX3_gain := mm_lks (i1 := 819) (i2 := 820) okX3_gain (by decide +kernel)
theorem lk3_74 : mm_LK 3 74 true zX2_endOf := mm_lkv (i1 := 822) (i2 := 371) (i3 := 372) okX2_endOf (by decide +kernel)
theorem lk3_77 : mm_LK 3 77 true zX1_goOn := mm_lkv (i1 := 835) (i2 := 530) (i3 := 531) okX1_goOn (by decide +kernel)
theorem lk3_80 : mm_LK 3 80 true zX2_hasSidesOf := mm_lkv (i1 := 836) (i2 := 837) (i3 := 838) okX2_hasSidesOf (by decide +kernel)
theorem lk3_84 : mm_LK 3 84 true zX2_howManyCells := mm_lkv (i1 := 848) (i2 := 849) (i3 := 850) okX2_howManyCells (by decide +kernel)
theorem lk3_87 : mm_LK 3 87 true zX1_jolt := mm_lkv (i1 := 860) (i2 := 517) (i3 := 518) okX1_jolt (by decide +kernel)
theorem lk3_91 : mm_LK 3 91 true zX1_calm := mm_lkv (i1 := 861) (i2 := 562) (i3 := 563) okX1_calm (by decide +kernel)
theorem lk3_98 : mm_LK 3 98 true zX2_hasCell := mm_lkv (i1 := 887) (i2 := 351) (i3 := 352) okX2_hasCell (by decide +kernel)
set_option maxRecDepth 100000 in
theorem mm_okM3 : ∀ e ∈ mm_M3, mm_LK 3 e.1 e.2.1 e.2.2 := List.forall_mem_cons.mpr ⟨lk3_18, List.forall_mem_cons.mpr ⟨lk3_26, List.forall_mem_cons.mpr ⟨lk3_32, List.forall_mem_cons.mpr ⟨lk3_36, List.forall_mem_cons.mpr ⟨lk3_40, List.forall_mem_cons.mpr ⟨lk3_43, List.forall_mem_cons.mpr ⟨lk3_47, List.forall_mem_cons.mpr ⟨lk3_51, List.forall_mem_cons.mpr ⟨lk3_57, List.forall_mem_cons.mpr ⟨lk3_60, List.forall_mem_cons.mpr ⟨lk3_68, List.forall_mem_cons.mpr ⟨lk3_74, List.forall_mem_cons.mpr ⟨lk3_77, List.forall_mem_cons.mpr ⟨lk3_80, List.forall_mem_cons.mpr ⟨lk3_84, List.forall_mem_cons.mpr ⟨lk3_87, List.forall_mem_cons.mpr ⟨lk3_91, List.forall_mem_cons.mpr ⟨lk3_98, fun _ h => absurd h List.not_mem_nil⟩⟩⟩⟩⟩⟩⟩⟩⟩⟩⟩⟩⟩⟩⟩⟩⟩⟩
theorem lk4_24 : mm_LK 4 24 true zX2_hasCell := mm_lkv (i1 := 628) (i2 := 351) (i3 := 352) okX2_hasCell (by decide +kernel)
theorem lk4_30 : mm_LK 4 30 true zX2_firstHalf := mm_lkv (i1 := 629) (i2 := 410) (i3 := 411) okX2_firstHalf (by decide +kernel)
theorem lk4_34 : mm_LK 4 34 true zX4_clearDistances := mm_lkv (i1 := 624) (i2 := 626) (i3 := 16) okX4_clearDistances (by decide +kernel)
theorem lk4_38 : mm_LK 4 38 true zX4_spreadWithin := mm_lkv (i1 := 630) (i2 := 632) (i3 := 17) okX4_spreadWithin (by decide +kernel)
theorem lk4_49 : mm_LK 4 49 true zX2_across := mm_lkv (i1 := 634) (i2 := 414) (i3 := 415) okX2_across (by decide +kernel)
theorem lk4_55 : mm_LK 4 55 true zX4_leastNearer := mm_lkv (i1 := 659) (i2 := 661) (i3 := 18) okX4_leastNearer (by decide +kernel)
theorem lk4_68 : mm_LK 4 68 false zX4_spot := mm_lks (i1 := 711) (i2 := 712) okX4_spot (by decide +kernel)
theorem lk4_72 : mm_LK 4 72 true zX4_put := mm_lkv (i1 := 714) (i2 := 716) (i3 := 19) okX4_put (by decide +kernel)
theorem lk4_76 : mm_LK 4 76 true zX4_goRound := mm_lkv (i1 := 718) (i2 := 720) (i3 := 20) okX4_goRound (by decide +kernel)
theorem lk4_86 : mm_LK 4 86 false zX4_isNear := mm_lks (i1 := 722) (i2 := 723) okX4_isNear (by decide +kernel)
set_option maxRecDepth 100000 in
theorem mm_okM4 : ∀ e ∈ mm_M4, mm_LK 4 e.1 e.2.1 e.2.2 := List.forall_mem_cons.mpr ⟨lk4_24, List.forall_mem_cons.mpr ⟨lk4_30, List.forall_mem_cons.mpr ⟨lk4_34, List.forall_mem_cons.mpr ⟨lk4_38, List.forall_mem_cons.mpr ⟨lk4_49, List.forall_mem_cons.mpr ⟨lk4_55, List.forall_mem_cons.mpr ⟨lk4_68, List.forall_mem_cons.mpr ⟨lk4_72, List.forall_mem_cons.mpr ⟨lk4_76, List.forall_mem_cons.mpr ⟨lk4_86, fun _ h => absurd h List.not_mem_nil⟩⟩⟩⟩⟩⟩⟩⟩⟩⟩
theorem lk5_34 : mm_LK 5 34 true zX1_begin := mm_lkv (i1 := 284) (i2 := 285) (i3 := 286) okX1_begin (by decide +kernel)
theorem lk5_38 : mm_LK 5 38 true zX1_refuse := mm_lkv (i1 := 338) (i2 := 339) (i3 := 340) okX1_refuse (by decide +kernel)
theorem lk5_50 : mm_LK 5 50 true zX2_hasCell := mm_lkv (i1 := 350) (i2 := 351) (i3 := 352) okX2_hasCell (by decide +kernel)
theorem lk5_60 : mm_LK 5 60 true zX2_hasWall := mm_lkv (i1 := 358) (i2 := 359) (i3 := 360) okX2_hasWall (by decide +kernel)
theorem lk5_66 : mm_LK 5 66 true zX2_canFlip := mm_lkv (i1 := 366) (i2 := 367) (i3 := 368) okX2_canFlip (by decide +kernel)
theorem lk5_69 : mm_LK 5 69 true zX2_easing := mm_lkv (i1 := 377) (i2 := 378) (i3 := 379) okX2_easing (by decide +kernel)
theorem lk5_72 : mm_LK 5 72 true zX1_flipWall := mm_lkv (i1 := 381) (i2 := 382) (i3 := 383) okX1_flipWall (by decide +kernel)
theorem lk5_76 : mm_LK 5 76 true zX2_canShrink := mm_lkv (i1 := 405) (i2 := 406) (i3 := 407) okX2_canShrink (by decide +kernel)
theorem lk5_79 : mm_LK 5 79 true zX1_shrinkCell := mm_lkv (i1 := 417) (i2 := 418) (i3 := 419) okX1_shrinkCell (by decide +kernel)
theorem lk5_82 : mm_LK 5 82 true zX2_halfAt := mm_lkv (i1 := 445) (i2 := 446) (i3 := 447) okX2_halfAt (by decide +kernel)
theorem lk5_86 : mm_LK 5 86 true zX1_splitCell := mm_lkv (i1 := 449) (i2 := 450) (i3 := 451) okX1_splitCell (by decide +kernel)
theorem lk5_90 : mm_LK 5 90 true zX2_canJoin := mm_lkv (i1 := 484) (i2 := 485) (i3 := 486) okX2_canJoin (by decide +kernel)
theorem lk5_93 : mm_LK 5 93 true zX1_joinAcross := mm_lkv (i1 := 496) (i2 := 497) (i3 := 498) okX1_joinAcross (by decide +kernel)
theorem lk5_96 : mm_LK 5 96 false zX5_isShake := mm_lks (i1 := 512) (i2 := 513) okX5_isShake (by decide +kernel)
theorem lk5_100 : mm_LK 5 100 true zX1_jolt := mm_lkv (i1 := 516) (i2 := 517) (i3 := 518) okX1_jolt (by decide +kernel)
theorem lk5_109 : mm_LK 5 109 true zX1_goOn := mm_lkv (i1 := 529) (i2 := 530) (i3 := 531) okX1_goOn (by decide +kernel)
theorem lk5_112 : mm_LK 5 112 true zX1_calm := mm_lkv (i1 := 561) (i2 := 562) (i3 := 563) okX1_calm (by decide +kernel)
theorem lk5_145 : mm_LK 5 145 true zX2_endOf := mm_lkv (i1 := 600) (i2 := 371) (i3 := 372) okX2_endOf (by decide +kernel)
theorem lk5_151 : mm_LK 5 151 false zJ9_min_7cf53 := mm_lks (i1 := 601) (i2 := 431) okJ9_min_7cf53 (by decide +kernel)
theorem lk5_156 : mm_LK 5 156 false zJ9_max_7cf53 := mm_lks (i1 := 602) (i2 := 543) okJ9_max_7cf53 (by decide +kernel)
theorem lk5_159 : mm_LK 5 159 true zX5_areTwo := mm_lkv (i1 := 607) (i2 := 609) (i3 := 15) okX5_areTwo (by decide +kernel)
theorem lk5_163 : mm_LK 5 163 true zX2_wallsBetween := mm_lkv (i1 := 611) (i2 := 489) (i3 := 490) okX2_wallsBetween (by decide +kernel)
theorem lk5_166 : mm_LK 5 166 true zX2_leastBetween := mm_lkv (i1 := 612) (i2 := 613) (i3 := 614) okX2_leastBetween (by decide +kernel)
theorem lk5_169 : mm_LK 5 169 true zX4_spread := mm_lkv (i1 := 620) (i2 := 621) (i3 := 622) okX4_spread (by decide +kernel)
theorem lk5_176 : mm_LK 5 176 true zX4_howManyAt := mm_lkv (i1 := 639) (i2 := 640) (i3 := 641) okX4_howManyAt (by decide +kernel)
theorem lk5_179 : mm_LK 5 179 true zX4_whichAt := mm_lkv (i1 := 647) (i2 := 648) (i3 := 649) okX4_whichAt (by decide +kernel)
theorem lk5_182 : mm_LK 5 182 true zX4_comeNearer := mm_lkv (i1 := 655) (i2 := 656) (i3 := 657) okX4_comeNearer (by decide +kernel)
theorem lk5_186 : mm_LK 5 186 true zX2_howMany := mm_lkv (i1 := 671) (i2 := 672) (i3 := 673) okX2_howMany (by decide +kernel)
theorem lk5_189 : mm_LK 5 189 true zX2_sidesAboutAll := mm_lkv (i1 := 675) (i2 := 676) (i3 := 677) okX2_sidesAboutAll (by decide +kernel)
theorem lk5_192 : mm_LK 5 192 false zX5_commonDivisor := mm_lks (i1 := 679) (i2 := 680) okX5_commonDivisor (by decide +kernel)
theorem lk5_195 : mm_LK 5 195 true zX2_areaOfAll := mm_lkv (i1 := 686) (i2 := 687) (i3 := 688) okX2_areaOfAll (by decide +kernel)
theorem lk5_198 : mm_LK 5 198 true zX2_rankOf := mm_lkv (i1 := 699) (i2 := 700) (i3 := 701) okX2_rankOf (by decide +kernel)
theorem lk5_201 : mm_LK 5 201 true zX4_spreadRound := mm_lkv (i1 := 707) (i2 := 708) (i3 := 709) okX4_spreadRound (by decide +kernel)
theorem lk5_208 : mm_LK 5 208 false zX4_spot := mm_lks (i1 := 725) (i2 := 712) okX4_spot (by decide +kernel)
theorem lk5_217 : mm_LK 5 217 true zX4_gatherPieces := mm_lkv (i1 := 738) (i2 := 739) (i3 := 740) okX4_gatherPieces (by decide +kernel)
theorem lk5_229 : mm_LK 5 229 true zX2_strain := mm_lkv (i1 := 746) (i2 := 747) (i3 := 748) okX2_strain (by decide +kernel)
theorem lk5_232 : mm_LK 5 232 true zX2_turns := mm_lkv (i1 := 750) (i2 := 751) (i3 := 752) okX2_turns (by decide +kernel)
theorem lk5_235 : mm_LK 5 235 true zX2_sumOfAreas := mm_lkv (i1 := 754) (i2 := 755) (i3 := 756) okX2_sumOfAreas (by decide +kernel)
theorem lk5_238 : mm_LK 5 238 true zX2_greatestArea := mm_lkv (i1 := 758) (i2 := 759) (i3 := 760) okX2_greatestArea (by decide +kernel)
theorem lk5_241 : mm_LK 5 241 true zX2_leastArea := mm_lkv (i1 := 763) (i2 := 764) (i3 := 765) okX2_leastArea (by decide +kernel)
theorem lk5_244 : mm_LK 5 244 true zX2_sumOfLengths := mm_lkv (i1 := 768) (i2 := 769) (i3 := 770) okX2_sumOfLengths (by decide +kernel)
theorem lk5_247 : mm_LK 5 247 true zX2_easiestWall := mm_lkv (i1 := 772) (i2 := 567) (i3 := 568) okX2_easiestWall (by decide +kernel)
theorem lk5_250 : mm_LK 5 250 true zX2_flippable := mm_lkv (i1 := 773) (i2 := 774) (i3 := 775) okX2_flippable (by decide +kernel)
theorem lk5_253 : mm_LK 5 253 true zX2_mostSides := mm_lkv (i1 := 777) (i2 := 778) (i3 := 779) okX2_mostSides (by decide +kernel)
theorem lk5_256 : mm_LK 5 256 true zX2_fewestSides := mm_lkv (i1 := 781) (i2 := 782) (i3 := 783) okX2_fewestSides (by decide +kernel)
theorem lk5_259 : mm_LK 5 259 true zX3_leastStrain := mm_lkv (i1 := 793) (i2 := 794) (i3 := 795) okX3_leastStrain (by decide +kernel)
theorem lk5_263 : mm_LK 5 263 true zX3_oneSwapTo := mm_lkv (i1 := 812) (i2 := 813) (i3 := 814) okX3_oneSwapTo (by decide +kernel)
theorem lk5_267 : mm_LK 5 267 true zX3_twoSwapsTo := mm_lkv (i1 := 823) (i2 := 824) (i3 := 825) okX3_twoSwapsTo (by decide +kernel)
theorem lk5_270 : mm_LK 5 270 true zX3_stepsToAlike := mm_lkv (i1 := 831) (i2 := 832) (i3 := 833) okX3_stepsToAlike (by decide +kernel)
theorem lk5_274 : mm_LK 5 274 true zX3_stepsToFew := mm_lkv (i1 := 844) (i2 := 845) (i3 := 846) okX3_stepsToFew (by decide +kernel)
theorem lk5_278 : mm_LK 5 278 true zX3_bestSeed := mm_lkv (i1 := 856) (i2 := 857) (i3 := 858) okX3_bestSeed (by decide +kernel)
theorem lk5_285 : mm_LK 5 285 true zX3_swapsToRest := mm_lkv (i1 := 866) (i2 := 867) (i3 := 868) okX3_swapsToRest (by decide +kernel)
theorem lk5_291 : mm_LK 5 291 true zX3_goOnFrom := mm_lkv (i1 := 874) (i2 := 875) (i3 := 876) okX3_goOnFrom (by decide +kernel)
theorem lk5_295 : mm_LK 5 295 true zX2_howManyCells := mm_lkv (i1 := 878) (i2 := 849) (i3 := 850) okX2_howManyCells (by decide +kernel)
theorem lk5_298 : mm_LK 5 298 true zX3_stepsToGone := mm_lkv (i1 := 883) (i2 := 884) (i3 := 885) okX3_stepsToGone (by decide +kernel)
theorem lk5_301 : mm_LK 5 301 true zX3_stepsToFirst := mm_lkv (i1 := 892) (i2 := 893) (i3 := 894) okX3_stepsToFirst (by decide +kernel)
theorem lk5_308 : mm_LK 5 308 true zX0_read := mm_lkv (i1 := 900) (i2 := 901) (i3 := 902) okX0_read (by decide +kernel)
theorem lk5_313 : mm_LK 5 313 true zX2_howManyWalls := mm_lkv (i1 := 909) (i2 := 462) (i3 := 463) okX2_howManyWalls (by decide +kernel)
set_option maxRecDepth 100000 in
theorem mm_okM5 : ∀ e ∈ mm_M5, mm_LK 5 e.1 e.2.1 e.2.2 := List.forall_mem_cons.mpr ⟨lk5_34, List.forall_mem_cons.mpr ⟨lk5_38, List.forall_mem_cons.mpr ⟨lk5_50, List.forall_mem_cons.mpr ⟨lk5_60, List.forall_mem_cons.mpr ⟨lk5_66, List.forall_mem_cons.mpr ⟨lk5_69, List.forall_mem_cons.mpr ⟨lk5_72, List.forall_mem_cons.mpr ⟨lk5_76, List.forall_mem_cons.mpr ⟨lk5_79, List.forall_mem_cons.mpr ⟨lk5_82, List.forall_mem_cons.mpr ⟨lk5_86, List.forall_mem_cons.mpr ⟨lk5_90, List.forall_mem_cons.mpr ⟨lk5_93, List.forall_mem_cons.mpr ⟨lk5_96, List.forall_mem_cons.mpr ⟨lk5_100, List.forall_mem_cons.mpr ⟨lk5_109, List.forall_mem_cons.mpr ⟨lk5_112, List.forall_mem_cons.mpr ⟨lk5_145, List.forall_mem_cons.mpr ⟨lk5_151, List.forall_mem_cons.mpr ⟨lk5_156, List.forall_mem_cons.mpr ⟨lk5_159, List.forall_mem_cons.mpr ⟨lk5_163, List.forall_mem_cons.mpr ⟨lk5_166, List.forall_mem_cons.mpr ⟨lk5_169, List.forall_mem_cons.mpr ⟨lk5_176, List.forall_mem_cons.mpr ⟨lk5_179, List.forall_mem_cons.mpr ⟨lk5_182, List.forall_mem_cons.mpr ⟨lk5_186, List.forall_mem_cons.mpr ⟨lk5_189, List.forall_mem_cons.mpr ⟨lk5_192, List.forall_mem_cons.mpr ⟨lk5_195, List.forall_mem_cons.mpr ⟨lk5_198, List.forall_mem_cons.mpr ⟨lk5_201, List.forall_mem_cons.mpr ⟨lk5_208, List.forall_mem_cons.mpr ⟨lk5_217, List.forall_mem_cons.mpr ⟨lk5_229, List.forall_mem_cons.mpr ⟨lk5_232, List.forall_mem_cons.mpr ⟨lk5_235, List.forall_mem_cons.mpr ⟨lk5_238, List.forall_mem_cons.mpr ⟨lk5_241, List.forall_mem_cons.mpr ⟨lk5_244, List.forall_mem_cons.mpr ⟨lk5_247, List.forall_mem_cons.mpr ⟨lk5_250, List.forall_mem_cons.mpr ⟨lk5_253, List.forall_mem_cons.mpr ⟨lk5_256, List.forall_mem_cons.mpr ⟨lk5_259, List.forall_mem_cons.mpr ⟨lk5_263, List.forall_mem_cons.mpr ⟨lk5_267, List.forall_mem_cons.mpr ⟨lk5_270, List.forall_mem_cons.mpr ⟨lk5_274, List.forall_mem_cons.mpr ⟨lk5_278, List.forall_mem_cons.mpr ⟨lk5_285, List.forall_mem_cons.mpr ⟨lk5_291, List.forall_mem_cons.mpr ⟨lk5_295, List.forall_mem_cons.mpr ⟨lk5_298, List.forall_mem_cons.mpr ⟨lk5_301, List.forall_mem_cons.mpr ⟨lk5_308, List.forall_mem_cons.mpr ⟨lk5_313, fun _ h => absurd h List.not_mem_nil⟩⟩⟩⟩⟩⟩⟩⟩⟩⟩⟩⟩⟩⟩⟩⟩⟩⟩⟩⟩⟩⟩⟩⟩⟩⟩⟩⟩⟩⟩⟩⟩⟩⟩⟩⟩⟩⟩⟩⟩⟩⟩⟩⟩⟩⟩⟩⟩⟩⟩⟩⟩⟩⟩⟩⟩⟩⟩
theorem lk6_40 : mm_LK 6 40 true zX6_lay := mm_lkv (i1 := 1011) (i2 := 1013) (i3 := 22) okX6_lay (by decide +kernel)
theorem lk6_52 : mm_LK 6 52 false zX6_copy := mm_lks (i1 := 1072) (i2 := 1073) okX6_copy (by decide +kernel)
theorem lk6_60 : mm_LK 6 60 false zX6_halfOf := mm_lks (i1 := 1020) (i2 := 1021) okX6_halfOf (by decide +kernel)
theorem lk6_64 : mm_LK 6 64 false zX6_sign := mm_lks (i1 := 1023) (i2 := 1024) okX6_sign (by decide +kernel)
theorem lk6_72 : mm_LK 6 72 true zX6_refuse := mm_lkv (i1 := 1085) (i2 := 1087) (i3 := 23) okX6_refuse (by decide +kernel)
theorem lk6_80 : mm_LK 6 80 true zX6_isWall := mm_lkv (i1 := 1109) (i2 := 1111) (i3 := 25) okX6_isWall (by decide +kernel)
theorem lk6_84 : mm_LK 6 84 true zX6_cellOf := mm_lkv (i1 := 1126) (i2 := 1128) (i3 := 28) okX6_cellOf (by decide +kernel)
theorem lk6_87 : mm_LK 6 87 true zX6_firstSide := mm_lkv (i1 := 1196) (i2 := 1198) (i3 := 43) okX6_firstSide (by decide +kernel)
theorem lk6_90 : mm_LK 6 90 true zX6_next := mm_lkv (i1 := 1134) (i2 := 1136) (i3 := 30) okX6_next (by decide +kernel)
theorem lk6_93 : mm_LK 6 93 true zX6_isCell := mm_lkv (i1 := 1099) (i2 := 1101) (i3 := 24) okX6_isCell (by decide +kernel)
theorem lk6_96 : mm_LK 6 96 true zX6_before := mm_lkv (i1 := 1138) (i2 := 1140) (i3 := 31) okX6_before (by decide +kernel)
theorem lk6_99 : mm_LK 6 99 true zX6_join := mm_lkv (i1 := 1172) (i2 := 1174) (i3 := 38) okX6_join (by decide +kernel)
theorem lk6_105 : mm_LK 6 105 true zX6_over := mm_lkv (i1 := 1130) (i2 := 1132) (i3 := 29) okX6_over (by decide +kernel)
theorem lk6_108 : mm_LK 6 108 false zX6_areFour := mm_lks (i1 := 1142) (i2 := 1143) okX6_areFour (by decide +kernel)
theorem lk6_112 : mm_LK 6 112 true zX6_hasFour := mm_lkv (i1 := 1122) (i2 := 1124) (i3 := 27) okX6_hasFour (by decide +kernel)
theorem lk6_115 : mm_LK 6 115 true zX6_sidesOf := mm_lkv (i1 := 1145) (i2 := 1147) (i3 := 32) okX6_sidesOf (by decide +kernel)
theorem lk6_118 : mm_LK 6 118 true zX6_turn := mm_lkv (i1 := 1153) (i2 := 1155) (i3 := 34) okX6_turn (by decide +kernel)
theorem lk6_121 : mm_LK 6 121 false zX6_square := mm_lks (i1 := 1157) (i2 := 1158) okX6_square (by decide +kernel)
theorem lk6_124 : mm_LK 6 124 true zX6_leave := mm_lkv (i1 := 1168) (i2 := 1170) (i3 := 37) okX6_leave (by decide +kernel)
theorem lk6_128 : mm_LK 6 128 true zX6_enter := mm_lkv (i1 := 1176) (i2 := 1178) (i3 := 39) okX6_enter (by decide +kernel)
theorem lk6_131 : mm_LK 6 131 true zX6_counts := mm_lkv (i1 := 1180) (i2 := 1182) (i3 := 40) okX6_counts (by decide +kernel)
theorem lk6_135 : mm_LK 6 135 true zX6_turnWall := mm_lkv (i1 := 1164) (i2 := 1166) (i3 := 36) okX6_turnWall (by decide +kernel)
theorem lk6_138 : mm_LK 6 138 true zX6_notes := mm_lkv (i1 := 1184) (i2 := 1186) (i3 := 41) okX6_notes (by decide +kernel)
theorem lk6_147 : mm_LK 6 147 true zX6_canSwap := mm_lkv (i1 := 1118) (i2 := 1120) (i3 := 26) okX6_canSwap (by decide +kernel)
theorem lk6_150 : mm_LK 6 150 true zX6_easing := mm_lkv (i1 := 1149) (i2 := 1151) (i3 := 33) okX6_easing (by decide +kernel)
theorem lk6_153 : mm_LK 6 153 true zX6_swaps := mm_lkv (i1 := 1160) (i2 := 1162) (i3 := 35) okX6_swaps (by decide +kernel)
theorem lk6_156 : mm_LK 6 156 true zX6_isRicher := mm_lkv (i1 := 1204) (i2 := 1206) (i3 := 45) okX6_isRicher (by decide +kernel)
theorem lk6_160 : mm_LK 6 160 true zX6_canVanish := mm_lkv (i1 := 1192) (i2 := 1194) (i3 := 42) okX6_canVanish (by decide +kernel)
theorem lk6_163 : mm_LK 6 163 true zX6_vanishes := mm_lkv (i1 := 1200) (i2 := 1202) (i3 := 44) okX6_vanishes (by decide +kernel)
theorem lk6_166 : mm_LK 6 166 true zX6_freeWall := mm_lkv (i1 := 1232) (i2 := 1234) (i3 := 51) okX6_freeWall (by decide +kernel)
theorem lk6_170 : mm_LK 6 170 true zX6_freeCell := mm_lkv (i1 := 1212) (i2 := 1214) (i3 := 46) okX6_freeCell (by decide +kernel)
theorem lk6_173 : mm_LK 6 173 true zX6_sideAt := mm_lkv (i1 := 1216) (i2 := 1218) (i3 := 47) okX6_sideAt (by decide +kernel)
theorem lk6_177 : mm_LK 6 177 true zX6_cutBy := mm_lkv (i1 := 1220) (i2 := 1222) (i3 := 48) okX6_cutBy (by decide +kernel)
theorem lk6_181 : mm_LK 6 181 true zX6_halves := mm_lkv (i1 := 1224) (i2 := 1226) (i3 := 49) okX6_halves (by decide +kernel)
theorem lk6_184 : mm_LK 6 184 true zX6_newWall := mm_lkv (i1 := 1228) (i2 := 1230) (i3 := 50) okX6_newWall (by decide +kernel)
theorem lk6_187 : mm_LK 6 187 true zX6_countRound := mm_lkv (i1 := 1236) (i2 := 1238) (i3 := 52) okX6_countRound (by decide +kernel)
theorem lk6_190 : mm_LK 6 190 true zX6_wallsBetween := mm_lkv (i1 := 1248) (i2 := 1250) (i3 := 54) okX6_wallsBetween (by decide +kernel)
theorem lk6_193 : mm_LK 6 193 true zX6_canBurst := mm_lkv (i1 := 1244) (i2 := 1246) (i3 := 53) okX6_canBurst (by decide +kernel)
theorem lk6_196 : mm_LK 6 196 true zX6_melt := mm_lkv (i1 := 1252) (i2 := 1254) (i3 := 55) okX6_melt (by decide +kernel)
theorem lk6_209 : mm_LK 6 209 true zX6_draw := mm_lkv (i1 := 1265) (i2 := 1267) (i3 := 57) okX6_draw (by decide +kernel)
theorem lk6_214 : mm_LK 6 214 true zX6_shakes := mm_lkv (i1 := 1261) (i2 := 1263) (i3 := 56) okX6_shakes (by decide +kernel)
theorem lk6_217 : mm_LK 6 217 true zX6_grows := mm_lkv (i1 := 1281) (i2 := 1283) (i3 := 59) okX6_grows (by decide +kernel)
theorem lk6_220 : mm_LK 6 220 true zX6_shrinks := mm_lkv (i1 := 1285) (i2 := 1287) (i3 := 60) okX6_shrinks (by decide +kernel)
theorem lk6_223 : mm_LK 6 223 true zX6_shortest := mm_lkv (i1 := 1289) (i2 := 1291) (i3 := 61) okX6_shortest (by decide +kernel)
theorem lk6_228 : mm_LK 6 228 true zX6_step := mm_lkv (i1 := 1277) (i2 := 1279) (i3 := 58) okX6_step (by decide +kernel)
theorem lk6_231 : mm_LK 6 231 true zX6_easier := mm_lkv (i1 := 1301) (i2 := 1303) (i3 := 63) okX6_easier (by decide +kernel)
theorem lk6_234 : mm_LK 6 234 true zX6_relaxes := mm_lkv (i1 := 1297) (i2 := 1299) (i3 := 62) okX6_relaxes (by decide +kernel)
theorem lk6_237 : mm_LK 6 237 true zX6_areBeside := mm_lkv (i1 := 1325) (i2 := 1327) (i3 := 68) okX6_areBeside (by decide +kernel)
theorem lk6_240 : mm_LK 6 240 true zX6_isThere := mm_lkv (i1 := 1309) (i2 := 1311) (i3 := 64) okX6_isThere (by decide +kernel)
theorem lk6_243 : mm_LK 6 243 true zX6_lengthsOf := mm_lkv (i1 := 1313) (i2 := 1315) (i3 := 65) okX6_lengthsOf (by decide +kernel)
theorem lk6_246 : mm_LK 6 246 true zX6_aboutOf := mm_lkv (i1 := 1317) (i2 := 1319) (i3 := 66) okX6_aboutOf (by decide +kernel)
theorem lk6_249 : mm_LK 6 249 true zX6_neighbours := mm_lkv (i1 := 1321) (i2 := 1323) (i3 := 67) okX6_neighbours (by decide +kernel)
theorem lk6_255 : mm_LK 6 255 false zX6_lesser := mm_lks (i1 := 1339) (i2 := 1340) okX6_lesser (by decide +kernel)
theorem lk6_258 : mm_LK 6 258 false zX6_greater := mm_lks (i1 := 1342) (i2 := 1343) okX6_greater (by decide +kernel)
theorem lk6_261 : mm_LK 6 261 true zX6_layFar := mm_lkv (i1 := 1353) (i2 := 1355) (i3 := 69) okX6_layFar (by decide +kernel)
theorem lk6_264 : mm_LK 6 264 true zX6_ofKind := mm_lkv (i1 := 1377) (i2 := 1379) (i3 := 70) okX6_ofKind (by decide +kernel)
theorem lk6_267 : mm_LK 6 267 false zX6_common := mm_lks (i1 := 1381) (i2 := 1382) okX6_common (by decide +kernel)
theorem lk6_270 : mm_LK 6 270 false zX6_stateOf := mm_lks (i1 := 1405) (i2 := 1406) okX6_stateOf (by decide +kernel)
theorem lk6_273 : mm_LK 6 273 true zX6_spread := mm_lkv (i1 := 1408) (i2 := 1410) (i3 := 72) okX6_spread (by decide +kernel)
theorem lk6_281 : mm_LK 6 281 true zX6_layWays := mm_lkv (i1 := 1401) (i2 := 1403) (i3 := 71) okX6_layWays (by decide +kernel)
theorem lk6_284 : mm_LK 6 284 true zX6_layPieces := mm_lkv (i1 := 1425) (i2 := 1427) (i3 := 73) okX6_layPieces (by decide +kernel)
theorem lk6_288 : mm_LK 6 288 true zX6_strain := mm_lkv (i1 := 1433) (i2 := 1435) (i3 := 74) okX6_strain (by decide +kernel)
theorem lk6_291 : mm_LK 6 291 true zX6_ofWalls := mm_lkv (i1 := 1437) (i2 := 1439) (i3 := 75) okX6_ofWalls (by decide +kernel)
theorem lk6_295 : mm_LK 6 295 true zX6_ofCells := mm_lkv (i1 := 1441) (i2 := 1443) (i3 := 76) okX6_ofCells (by decide +kernel)
theorem lk6_298 : mm_LK 6 298 true zX6_eased := mm_lkv (i1 := 1454) (i2 := 1456) (i3 := 77) okX6_eased (by decide +kernel)
theorem lk6_301 : mm_LK 6 301 true zX6_think := mm_lkv (i1 := 1458) (i2 := 1460) (i3 := 78) okX6_think (by decide +kernel)
theorem lk6_304 : mm_LK 6 304 true zX6_changes := mm_lkv (i1 := 1470) (i2 := 1472) (i3 := 80) okX6_changes (by decide +kernel)
theorem lk6_307 : mm_LK 6 307 true zX6_bringsTo := mm_lkv (i1 := 1466) (i2 := 1468) (i3 := 79) okX6_bringsTo (by decide +kernel)
theorem lk6_310 : mm_LK 6 310 true zX6_areAlike := mm_lkv (i1 := 1478) (i2 := 1480) (i3 := 81) okX6_areAlike (by decide +kernel)
theorem lk6_314 : mm_LK 6 314 true zX6_endThought := mm_lkv (i1 := 1482) (i2 := 1484) (i3 := 82) okX6_endThought (by decide +kernel)
theorem lk6_317 : mm_LK 6 317 true zX6_many := mm_lkv (i1 := 1490) (i2 := 1492) (i3 := 83) okX6_many (by decide +kernel)
set_option maxRecDepth 100000 in
theorem mm_okM6 : ∀ e ∈ mm_M6, mm_LK 6 e.1 e.2.1 e.2.2 := List.forall_mem_cons.mpr ⟨lk6_40, List.forall_mem_cons.mpr ⟨lk6_52, List.forall_mem_cons.mpr ⟨lk6_60, List.forall_mem_cons.mpr ⟨lk6_64, List.forall_mem_cons.mpr ⟨lk6_72, List.forall_mem_cons.mpr ⟨lk6_80, List.forall_mem_cons.mpr ⟨lk6_84, List.forall_mem_cons.mpr ⟨lk6_87, List.forall_mem_cons.mpr ⟨lk6_90, List.forall_mem_cons.mpr ⟨lk6_93, List.forall_mem_cons.mpr ⟨lk6_96, List.forall_mem_cons.mpr ⟨lk6_99, List.forall_mem_cons.mpr ⟨lk6_105, List.forall_mem_cons.mpr ⟨lk6_108, List.forall_mem_cons.mpr ⟨lk6_112, List.forall_mem_cons.mpr ⟨lk6_115, List.forall_mem_cons.mpr ⟨lk6_118, List.forall_mem_cons.mpr ⟨lk6_121, List.forall_mem_cons.mpr ⟨lk6_124, List.forall_mem_cons.mpr ⟨lk6_128, List.forall_mem_cons.mpr ⟨lk6_131, List.forall_mem_cons.mpr ⟨lk6_135, List.forall_mem_cons.mpr ⟨lk6_138, List.forall_mem_cons.mpr ⟨lk6_147, List.forall_mem_cons.mpr ⟨lk6_150, List.forall_mem_cons.mpr ⟨lk6_153, List.forall_mem_cons.mpr ⟨lk6_156, List.forall_mem_cons.mpr ⟨lk6_160, List.forall_mem_cons.mpr ⟨lk6_163, List.forall_mem_cons.mpr ⟨lk6_166, List.forall_mem_cons.mpr ⟨lk6_170, List.forall_mem_cons.mpr ⟨lk6_173, List.forall_mem_cons.mpr ⟨lk6_177, List.forall_mem_cons.mpr ⟨lk6_181, List.forall_mem_cons.mpr ⟨lk6_184, List.forall_mem_cons.mpr ⟨lk6_187, List.forall_mem_cons.mpr ⟨lk6_190, List.forall_mem_cons.mpr ⟨lk6_193, List.forall_mem_cons.mpr ⟨lk6_196, List.forall_mem_cons.mpr ⟨lk6_209, List.forall_mem_cons.mpr ⟨lk6_214, List.forall_mem_cons.mpr ⟨lk6_217, List.forall_mem_cons.mpr ⟨lk6_220, List.forall_mem_cons.mpr ⟨lk6_223, List.forall_mem_cons.mpr ⟨lk6_228, List.forall_mem_cons.mpr ⟨lk6_231, List.forall_mem_cons.mpr ⟨lk6_234, List.forall_mem_cons.mpr ⟨lk6_237, List.forall_mem_cons.mpr ⟨lk6_240, List.forall_mem_cons.mpr ⟨lk6_243, List.forall_mem_cons.mpr ⟨lk6_246, List.forall_mem_cons.mpr ⟨lk6_249, List.forall_mem_cons.mpr ⟨lk6_255, List.forall_mem_cons.mpr ⟨lk6_258, List.forall_mem_cons.mpr ⟨lk6_261, List.forall_mem_cons.mpr ⟨lk6_264, List.forall_mem_cons.mpr ⟨lk6_267, List.forall_mem_cons.mpr ⟨lk6_270, List.forall_mem_cons.mpr ⟨lk6_273, List.forall_mem_cons.mpr ⟨lk6_281, List.forall_mem_cons.mpr ⟨lk6_284, List.forall_mem_cons.mpr ⟨lk6_288, List.forall_mem_cons.mpr ⟨lk6_291, List.forall_mem_cons.mpr ⟨lk6_295, List.forall_mem_cons.mpr ⟨lk6_298, List.forall_mem_cons.mpr ⟨lk6_301, List.forall_mem_cons.mpr ⟨lk6_304, List.forall_mem_cons.mpr ⟨lk6_307, List.forall_mem_cons.mpr ⟨lk6_310, List.forall_mem_cons.mpr ⟨lk6_314, List.forall_mem_cons.mpr ⟨lk6_317, fun _ h => absurd h List.not_mem_nil⟩⟩⟩⟩⟩⟩⟩⟩⟩⟩⟩⟩⟩⟩⟩⟩⟩⟩⟩⟩⟩⟩⟩⟩⟩⟩⟩⟩⟩⟩⟩⟩⟩⟩⟩⟩⟩⟩⟩⟩⟩⟩⟩⟩⟩⟩⟩⟩⟩⟩⟩⟩⟩⟩⟩⟩⟩⟩⟩⟩⟩⟩⟩⟩⟩⟩⟩⟩⟩⟩⟩
set_option maxRecDepth 100000 in
theorem mm_okM7 : ∀ e ∈ mm_M7, mm_LK 7 e.1 e.2.1 e.2.2 := fun _ h => absurd h List.not_mem_nil
theorem mm_okM {o idx : Nat} {b : Bool} {z : mm_Y} (h : mm_lk (mm_M o) idx = some (b, z)) : mm_LK o idx b z := by
  have hm := mm_lk_mem h
  match o, hm with
  | 0, hm => exact mm_okM0 _ hm
  | 1, hm => exact mm_okM1 _ hm
  | 2, hm => exact mm_okM2 _ hm
  | 3, hm => exact mm_okM3 _ hm
  | 4, hm => exact mm_okM4 _ hm
  | 5, hm => exact mm_okM5 _ hm
  | 6, hm => exact mm_okM6 _ hm
  | 7, hm => exact mm_okM7 _ hm
  | n + 8, hm => exact absurd hm List.not_mem_nil
/-- a field's link -/
def mm_FK (o idx ci k : Nat) : Prop := ∃ q, vwCl[ci]? = some q ∧ k < q.2.2 ∧ Cond.fieldLink (mm_cn o) idx (q.2.1 k).1 (q.2.1 k).2.1 (q.2.1 k).2.2.1 ∈ mm_tb
def mm_fkb (o idx ci k i : Nat) : Bool := match vwCl[ci]? with
  | some q => decide (k < q.2.2) && mm_has i (Cond.fieldLink (mm_cn o) idx (q.2.1 k).1 (q.2.1 k).2.1 (q.2.1 k).2.2.1)
  | none => false
theorem mm_fk {o idx ci k i : Nat} (h : mm_fkb o idx ci k i = true) : mm_FK o idx ci k := by
  unfold mm_fkb at h
  cases hq : vwCl[ci]? with
  | none => rw [hq] at h; cases h
  | some q =>
    rw [hq] at h
    dsimp only at h
    rw [Bool.and_eq_true, decide_eq_true_eq] at h
    exact ⟨q, hq, h.1, mm_of h.2⟩
theorem fk0_9 : mm_FK 0 9 0 0 := mm_fk (i := 165) (by decide +kernel)
theorem fk0_15 : mm_FK 0 15 0 1 := mm_fk (i := 166) (by decide +kernel)
theorem fk0_18 : mm_FK 0 18 0 2 := mm_fk (i := 167) (by decide +kernel)
theorem fk0_21 : mm_FK 0 21 0 3 := mm_fk (i := 168) (by decide +kernel)
theorem fk0_25 : mm_FK 0 25 0 4 := mm_fk (i := 170) (by decide +kernel)
theorem mm_okF0 : ∀ e ∈ mm_F0, mm_FK 0 e.1 e.2.1 e.2.2 := List.forall_mem_cons.mpr ⟨fk0_9, List.forall_mem_cons.mpr ⟨fk0_15, List.forall_mem_cons.mpr ⟨fk0_18, List.forall_mem_cons.mpr ⟨fk0_21, List.forall_mem_cons.mpr ⟨fk0_25, fun _ h => absurd h List.not_mem_nil⟩⟩⟩⟩⟩
theorem mm_okC0 : ∀ e ∈ mm_C0, Cond.constant (mm_cn 0) e.1 e.2 ∈ mm_tb := fun _ h => absurd h List.not_mem_nil
theorem mm_okL0 : ∀ e ∈ mm_L0, Cond.constantLong (mm_cn 0) e.1 e.2 ∈ mm_tb := fun _ h => absurd h List.not_mem_nil
theorem fk1_103 : mm_FK 1 103 2 5 := mm_fk (i := 132) (by decide +kernel)
theorem fk1_121 : mm_FK 1 121 2 6 := mm_fk (i := 136) (by decide +kernel)
theorem fk1_115 : mm_FK 1 115 2 7 := mm_fk (i := 140) (by decide +kernel)
theorem fk1_12 : mm_FK 1 12 1 0 := mm_fk (i := 182) (by decide +kernel)
theorem fk1_21 : mm_FK 1 21 1 1 := mm_fk (i := 185) (by decide +kernel)
theorem fk1_25 : mm_FK 1 25 1 2 := mm_fk (i := 187) (by decide +kernel)
theorem fk1_33 : mm_FK 1 33 1 3 := mm_fk (i := 189) (by decide +kernel)
theorem fk1_36 : mm_FK 1 36 1 4 := mm_fk (i := 191) (by decide +kernel)
theorem fk1_29 : mm_FK 1 29 1 5 := mm_fk (i := 193) (by decide +kernel)
theorem fk1_39 : mm_FK 1 39 1 6 := mm_fk (i := 195) (by decide +kernel)
theorem fk1_42 : mm_FK 1 42 1 7 := mm_fk (i := 197) (by decide +kernel)
theorem fk1_45 : mm_FK 1 45 1 8 := mm_fk (i := 200) (by decide +kernel)
theorem fk1_48 : mm_FK 1 48 1 9 := mm_fk (i := 203) (by decide +kernel)
theorem fk1_51 : mm_FK 1 51 1 10 := mm_fk (i := 205) (by decide +kernel)
theorem mm_okF1 : ∀ e ∈ mm_F1, mm_FK 1 e.1 e.2.1 e.2.2 := List.forall_mem_cons.mpr ⟨fk1_103, List.forall_mem_cons.mpr ⟨fk1_121, List.forall_mem_cons.mpr ⟨fk1_115, List.forall_mem_cons.mpr ⟨fk1_12, List.forall_mem_cons.mpr ⟨fk1_21, List.forall_mem_cons.mpr ⟨fk1_25, List.forall_mem_cons.mpr ⟨fk1_33, List.forall_mem_cons.mpr ⟨fk1_36, List.forall_mem_cons.mpr ⟨fk1_29, List.forall_mem_cons.mpr ⟨fk1_39, List.forall_mem_cons.mpr ⟨fk1_42, List.forall_mem_cons.mpr ⟨fk1_45, List.forall_mem_cons.mpr ⟨fk1_48, List.forall_mem_cons.mpr ⟨fk1_51, fun _ h => absurd h List.not_mem_nil⟩⟩⟩⟩⟩⟩⟩⟩⟩⟩⟩⟩⟩⟩
theorem mm_okC1 : ∀ e ∈ mm_C1, Cond.constant (mm_cn 1) e.1 e.2 ∈ mm_tb := List.forall_mem_cons.mpr ⟨mm_of (i := 520) (by decide +kernel), List.forall_mem_cons.mpr ⟨mm_of (i := 565) (by decide +kernel), fun _ h => absurd h List.not_mem_nil⟩⟩
theorem mm_okL1 : ∀ e ∈ mm_L1, Cond.constantLong (mm_cn 1) e.1 e.2 ∈ mm_tb := fun _ h => absurd h List.not_mem_nil
theorem fk2_9 : mm_FK 2 9 2 0 := mm_fk (i := 118) (by decide +kernel)
theorem fk2_15 : mm_FK 2 15 2 1 := mm_fk (i := 121) (by decide +kernel)
theorem fk2_18 : mm_FK 2 18 2 2 := mm_fk (i := 123) (by decide +kernel)
theorem fk2_21 : mm_FK 2 21 2 3 := mm_fk (i := 124) (by decide +kernel)
theorem fk2_24 : mm_FK 2 24 2 4 := mm_fk (i := 127) (by decide +kernel)
theorem fk2_27 : mm_FK 2 27 2 5 := mm_fk (i := 130) (by decide +kernel)
theorem fk2_30 : mm_FK 2 30 2 6 := mm_fk (i := 133) (by decide +kernel)
theorem fk2_33 : mm_FK 2 33 2 7 := mm_fk (i := 138) (by decide +kernel)
theorem mm_okF2 : ∀ e ∈ mm_F2, mm_FK 2 e.1 e.2.1 e.2.2 := List.forall_mem_cons.mpr ⟨fk2_9, List.forall_mem_cons.mpr ⟨fk2_15, List.forall_mem_cons.mpr ⟨fk2_18, List.forall_mem_cons.mpr ⟨fk2_21, List.forall_mem_cons.mpr ⟨fk2_24, List.forall_mem_cons.mpr ⟨fk2_27, List.forall_mem_cons.mpr ⟨fk2_30, List.forall_mem_cons.mpr ⟨fk2_33, fun _ h => absurd h List.not_mem_nil⟩⟩⟩⟩⟩⟩⟩⟩
theorem mm_okC2 : ∀ e ∈ mm_C2, Cond.constant (mm_cn 2) e.1 e.2 ∈ mm_tb := List.forall_mem_cons.mpr ⟨mm_of (i := 762) (by decide +kernel), List.forall_mem_cons.mpr ⟨mm_of (i := 767) (by decide +kernel), fun _ h => absurd h List.not_mem_nil⟩⟩
theorem mm_okL2 : ∀ e ∈ mm_L2, Cond.constantLong (mm_cn 2) e.1 e.2 ∈ mm_tb := fun _ h => absurd h List.not_mem_nil
theorem fk3_71 : mm_FK 3 71 2 0 := mm_fk (i := 119) (by decide +kernel)
theorem fk3_64 : mm_FK 3 64 2 6 := mm_fk (i := 135) (by decide +kernel)
theorem fk3_22 : mm_FK 3 22 1 0 := mm_fk (i := 183) (by decide +kernel)
theorem fk3_101 : mm_FK 3 101 1 7 := mm_fk (i := 199) (by decide +kernel)
theorem fk3_104 : mm_FK 3 104 1 8 := mm_fk (i := 202) (by decide +kernel)
theorem fk3_12 : mm_FK 3 12 3 0 := mm_fk (i := 238) (by decide +kernel)
theorem fk3_94 : mm_FK 3 94 3 1 := mm_fk (i := 240) (by decide +kernel)
theorem mm_okF3 : ∀ e ∈ mm_F3, mm_FK 3 e.1 e.2.1 e.2.2 := List.forall_mem_cons.mpr ⟨fk3_71, List.forall_mem_cons.mpr ⟨fk3_64, List.forall_mem_cons.mpr ⟨fk3_22, List.forall_mem_cons.mpr ⟨fk3_101, List.forall_mem_cons.mpr ⟨fk3_104, List.forall_mem_cons.mpr ⟨fk3_12, List.forall_mem_cons.mpr ⟨fk3_94, fun _ h => absurd h List.not_mem_nil⟩⟩⟩⟩⟩⟩⟩
theorem mm_okC3 : ∀ e ∈ mm_C3, Cond.constant (mm_cn 3) e.1 e.2 ∈ mm_tb := fun _ h => absurd h List.not_mem_nil
theorem mm_okL3 : ∀ e ∈ mm_L3, Cond.constantLong (mm_cn 3) e.1 e.2 ∈ mm_tb := fun _ h => absurd h List.not_mem_nil
theorem fk4_52 : mm_FK 4 52 2 1 := mm_fk (i := 122) (by decide +kernel)
theorem fk4_80 : mm_FK 4 80 2 3 := mm_fk (i := 125) (by decide +kernel)
theorem fk4_83 : mm_FK 4 83 2 4 := mm_fk (i := 128) (by decide +kernel)
theorem fk4_46 : mm_FK 4 46 2 6 := mm_fk (i := 134) (by decide +kernel)
theorem fk4_9 : mm_FK 4 9 4 0 := mm_fk (i := 253) (by decide +kernel)
theorem fk4_15 : mm_FK 4 15 4 1 := mm_fk (i := 255) (by decide +kernel)
theorem fk4_18 : mm_FK 4 18 4 2 := mm_fk (i := 257) (by decide +kernel)
theorem fk4_21 : mm_FK 4 21 4 3 := mm_fk (i := 258) (by decide +kernel)
theorem fk4_42 : mm_FK 4 42 4 4 := mm_fk (i := 259) (by decide +kernel)
theorem fk4_59 : mm_FK 4 59 4 5 := mm_fk (i := 260) (by decide +kernel)
theorem fk4_62 : mm_FK 4 62 4 6 := mm_fk (i := 262) (by decide +kernel)
theorem fk4_65 : mm_FK 4 65 4 7 := mm_fk (i := 264) (by decide +kernel)
theorem mm_okF4 : ∀ e ∈ mm_F4, mm_FK 4 e.1 e.2.1 e.2.2 := List.forall_mem_cons.mpr ⟨fk4_52, List.forall_mem_cons.mpr ⟨fk4_80, List.forall_mem_cons.mpr ⟨fk4_83, List.forall_mem_cons.mpr ⟨fk4_46, List.forall_mem_cons.mpr ⟨fk4_9, List.forall_mem_cons.mpr ⟨fk4_15, List.forall_mem_cons.mpr ⟨fk4_18, List.forall_mem_cons.mpr ⟨fk4_21, List.forall_mem_cons.mpr ⟨fk4_42, List.forall_mem_cons.mpr ⟨fk4_59, List.forall_mem_cons.mpr ⟨fk4_62, List.forall_mem_cons.mpr ⟨fk4_65, fun _ h => absurd h List.not_mem_nil⟩⟩⟩⟩⟩⟩⟩⟩⟩⟩⟩⟩
theorem mm_okC4 : ∀ e ∈ mm_C4, Cond.constant (mm_cn 4) e.1 e.2 ∈ mm_tb := fun _ h => absurd h List.not_mem_nil
theorem mm_okL4 : ∀ e ∈ mm_L4, Cond.constantLong (mm_cn 4) e.1 e.2 ∈ mm_tb := fun _ h => absurd h List.not_mem_nil
theorem fk5_148 : mm_FK 5 148 2 0 := mm_fk (i := 120) (by decide +kernel)
theorem fk5_211 : mm_FK 5 211 2 3 := mm_fk (i := 126) (by decide +kernel)
theorem fk5_214 : mm_FK 5 214 2 4 := mm_fk (i := 129) (by decide +kernel)
theorem fk5_63 : mm_FK 5 63 2 5 := mm_fk (i := 131) (by decide +kernel)
theorem fk5_127 : mm_FK 5 127 2 6 := mm_fk (i := 137) (by decide +kernel)
theorem fk5_56 : mm_FK 5 56 2 7 := mm_fk (i := 139) (by decide +kernel)
theorem fk5_328 : mm_FK 5 328 0 3 := mm_fk (i := 169) (by decide +kernel)
theorem fk5_46 : mm_FK 5 46 1 0 := mm_fk (i := 184) (by decide +kernel)
theorem fk5_304 : mm_FK 5 304 1 1 := mm_fk (i := 186) (by decide +kernel)
theorem fk5_331 : mm_FK 5 331 1 2 := mm_fk (i := 188) (by decide +kernel)
theorem fk5_322 : mm_FK 5 322 1 3 := mm_fk (i := 190) (by decide +kernel)
theorem fk5_325 : mm_FK 5 325 1 4 := mm_fk (i := 192) (by decide +kernel)
theorem fk5_42 : mm_FK 5 42 1 5 := mm_fk (i := 194) (by decide +kernel)
theorem fk5_316 : mm_FK 5 316 1 6 := mm_fk (i := 196) (by decide +kernel)
theorem fk5_103 : mm_FK 5 103 1 7 := mm_fk (i := 198) (by decide +kernel)
theorem fk5_106 : mm_FK 5 106 1 8 := mm_fk (i := 201) (by decide +kernel)
theorem fk5_319 : mm_FK 5 319 1 9 := mm_fk (i := 204) (by decide +kernel)
theorem fk5_334 : mm_FK 5 334 1 10 := mm_fk (i := 206) (by decide +kernel)
theorem fk5_288 : mm_FK 5 288 3 0 := mm_fk (i := 239) (by decide +kernel)
theorem fk5_282 : mm_FK 5 282 3 1 := mm_fk (i := 241) (by decide +kernel)
theorem fk5_173 : mm_FK 5 173 4 0 := mm_fk (i := 254) (by decide +kernel)
theorem fk5_205 : mm_FK 5 205 4 1 := mm_fk (i := 256) (by decide +kernel)
theorem fk5_220 : mm_FK 5 220 4 5 := mm_fk (i := 261) (by decide +kernel)
theorem fk5_223 : mm_FK 5 223 4 6 := mm_fk (i := 263) (by decide +kernel)
theorem fk5_226 : mm_FK 5 226 4 7 := mm_fk (i := 265) (by decide +kernel)
theorem fk5_10 : mm_FK 5 10 5 0 := mm_fk (i := 321) (by decide +kernel)
theorem fk5_19 : mm_FK 5 19 5 1 := mm_fk (i := 322) (by decide +kernel)
theorem fk5_26 : mm_FK 5 26 5 2 := mm_fk (i := 323) (by decide +kernel)
theorem fk5_30 : mm_FK 5 30 5 3 := mm_fk (i := 324) (by decide +kernel)
theorem mm_okF5 : ∀ e ∈ mm_F5, mm_FK 5 e.1 e.2.1 e.2.2 := List.forall_mem_cons.mpr ⟨fk5_148, List.forall_mem_cons.mpr ⟨fk5_211, List.forall_mem_cons.mpr ⟨fk5_214, List.forall_mem_cons.mpr ⟨fk5_63, List.forall_mem_cons.mpr ⟨fk5_127, List.forall_mem_cons.mpr ⟨fk5_56, List.forall_mem_cons.mpr ⟨fk5_328, List.forall_mem_cons.mpr ⟨fk5_46, List.forall_mem_cons.mpr ⟨fk5_304, List.forall_mem_cons.mpr ⟨fk5_331, List.forall_mem_cons.mpr ⟨fk5_322, List.forall_mem_cons.mpr ⟨fk5_325, List.forall_mem_cons.mpr ⟨fk5_42, List.forall_mem_cons.mpr ⟨fk5_316, List.forall_mem_cons.mpr ⟨fk5_103, List.forall_mem_cons.mpr ⟨fk5_106, List.forall_mem_cons.mpr ⟨fk5_319, List.forall_mem_cons.mpr ⟨fk5_334, List.forall_mem_cons.mpr ⟨fk5_288, List.forall_mem_cons.mpr ⟨fk5_282, List.forall_mem_cons.mpr ⟨fk5_173, List.forall_mem_cons.mpr ⟨fk5_205, List.forall_mem_cons.mpr ⟨fk5_220, List.forall_mem_cons.mpr ⟨fk5_223, List.forall_mem_cons.mpr ⟨fk5_226, List.forall_mem_cons.mpr ⟨fk5_10, List.forall_mem_cons.mpr ⟨fk5_19, List.forall_mem_cons.mpr ⟨fk5_26, List.forall_mem_cons.mpr ⟨fk5_30, fun _ h => absurd h List.not_mem_nil⟩⟩⟩⟩⟩⟩⟩⟩⟩⟩⟩⟩⟩⟩⟩⟩⟩⟩⟩⟩⟩⟩⟩⟩⟩⟩⟩⟩⟩
theorem mm_okC5 : ∀ e ∈ mm_C5, Cond.constant (mm_cn 5) e.1 e.2 ∈ mm_tb := List.forall_mem_cons.mpr ⟨mm_of (i := 515) (by decide +kernel), List.forall_mem_cons.mpr ⟨mm_of (i := 690) (by decide +kernel), fun _ h => absurd h List.not_mem_nil⟩⟩
theorem mm_okL5 : ∀ e ∈ mm_L5, Cond.constantLong (mm_cn 5) e.1 e.2 ∈ mm_tb := fun _ h => absurd h List.not_mem_nil
theorem fk6_44 : mm_FK 6 44 6 0 := mm_fk (i := 1026) (by decide +kernel)
theorem fk6_9 : mm_FK 6 9 6 1 := mm_fk (i := 1027) (by decide +kernel)
theorem fk6_15 : mm_FK 6 15 6 2 := mm_fk (i := 1028) (by decide +kernel)
theorem fk6_18 : mm_FK 6 18 6 3 := mm_fk (i := 1029) (by decide +kernel)
theorem fk6_21 : mm_FK 6 21 6 4 := mm_fk (i := 1030) (by decide +kernel)
theorem fk6_25 : mm_FK 6 25 6 5 := mm_fk (i := 1031) (by decide +kernel)
theorem fk6_28 : mm_FK 6 28 6 6 := mm_fk (i := 1032) (by decide +kernel)
theorem fk6_102 : mm_FK 6 102 6 7 := mm_fk (i := 1033) (by decide +kernel)
theorem fk6_199 : mm_FK 6 199 6 8 := mm_fk (i := 1034) (by decide +kernel)
theorem fk6_31 : mm_FK 6 31 6 9 := mm_fk (i := 1035) (by decide +kernel)
theorem fk6_34 : mm_FK 6 34 6 10 := mm_fk (i := 1036) (by decide +kernel)
theorem fk6_37 : mm_FK 6 37 6 11 := mm_fk (i := 1037) (by decide +kernel)
theorem mm_okF6 : ∀ e ∈ mm_F6, mm_FK 6 e.1 e.2.1 e.2.2 := List.forall_mem_cons.mpr ⟨fk6_44, List.forall_mem_cons.mpr ⟨fk6_9, List.forall_mem_cons.mpr ⟨fk6_15, List.forall_mem_cons.mpr ⟨fk6_18, List.forall_mem_cons.mpr ⟨fk6_21, List.forall_mem_cons.mpr ⟨fk6_25, List.forall_mem_cons.mpr ⟨fk6_28, List.forall_mem_cons.mpr ⟨fk6_102, List.forall_mem_cons.mpr ⟨fk6_199, List.forall_mem_cons.mpr ⟨fk6_31, List.forall_mem_cons.mpr ⟨fk6_34, List.forall_mem_cons.mpr ⟨fk6_37, fun _ h => absurd h List.not_mem_nil⟩⟩⟩⟩⟩⟩⟩⟩⟩⟩⟩⟩
theorem mm_okC6 : ∀ e ∈ mm_C6, Cond.constant (mm_cn 6) e.1 e.2 ∈ mm_tb := List.forall_mem_cons.mpr ⟨mm_of (i := 1329) (by decide +kernel), List.forall_mem_cons.mpr ⟨mm_of (i := 1445) (by decide +kernel), fun _ h => absurd h List.not_mem_nil⟩⟩
theorem mm_okL6 : ∀ e ∈ mm_L6, Cond.constantLong (mm_cn 6) e.1 e.2 ∈ mm_tb := List.forall_mem_cons.mpr ⟨mm_of (i := 1015) (by decide +kernel), List.forall_mem_cons.mpr ⟨mm_of (i := 1016) (by decide +kernel), List.forall_mem_cons.mpr ⟨mm_of (i := 1083) (by decide +kernel), List.forall_mem_cons.mpr ⟨mm_of (i := 1084) (by decide +kernel), List.forall_mem_cons.mpr ⟨mm_of (i := 1097) (by decide +kernel), List.forall_mem_cons.mpr ⟨mm_of (i := 1098) (by decide +kernel), List.forall_mem_cons.mpr ⟨mm_of (i := 1103) (by decide +kernel), List.forall_mem_cons.mpr ⟨mm_of (i := 1108) (by decide +kernel), List.forall_mem_cons.mpr ⟨mm_of (i := 1113) (by decide +kernel), List.forall_mem_cons.mpr ⟨mm_of (i := 1260) (by decide +kernel), List.forall_mem_cons.mpr ⟨mm_of (i := 1269) (by decide +kernel), List.forall_mem_cons.mpr ⟨mm_of (i := 1270) (by decide +kernel), List.forall_mem_cons.mpr ⟨mm_of (i := 1271) (by decide +kernel), List.forall_mem_cons.mpr ⟨mm_of (i := 1276) (by decide +kernel), List.forall_mem_cons.mpr ⟨mm_of (i := 1334) (by decide +kernel), List.forall_mem_cons.mpr ⟨mm_of (i := 1400) (by decide +kernel), List.forall_mem_cons.mpr ⟨mm_of (i := 1412) (by decide +kernel), List.forall_mem_cons.mpr ⟨mm_of (i := 1498) (by decide +kernel), List.forall_mem_cons.mpr ⟨mm_of (i := 1499) (by decide +kernel), List.forall_mem_cons.mpr ⟨mm_of (i := 1508) (by decide +kernel), List.forall_mem_cons.mpr ⟨mm_of (i := 1525) (by decide +kernel), List.forall_mem_cons.mpr ⟨mm_of (i := 1526) (by decide +kernel), fun _ h => absurd h List.not_mem_nil⟩⟩⟩⟩⟩⟩⟩⟩⟩⟩⟩⟩⟩⟩⟩⟩⟩⟩⟩⟩⟩⟩
theorem mm_okF7 : ∀ e ∈ mm_F7, mm_FK 7 e.1 e.2.1 e.2.2 := fun _ h => absurd h List.not_mem_nil
theorem mm_okC7 : ∀ e ∈ mm_C7, Cond.constant (mm_cn 7) e.1 e.2 ∈ mm_tb := fun _ h => absurd h List.not_mem_nil
theorem mm_okL7 : ∀ e ∈ mm_L7, Cond.constantLong (mm_cn 7) e.1 e.2 ∈ mm_tb := fun _ h => absurd h List.not_mem_nil
theorem mm_okF {o idx : Nat} {x : Nat × Nat} (h : mm_lk (mm_F o) idx = some x) : mm_FK o idx x.1 x.2 := by
  have hm := mm_lk_mem h
  match o, hm with
  | 0, hm => exact mm_okF0 _ hm
  | 1, hm => exact mm_okF1 _ hm
  | 2, hm => exact mm_okF2 _ hm
  | 3, hm => exact mm_okF3 _ hm
  | 4, hm => exact mm_okF4 _ hm
  | 5, hm => exact mm_okF5 _ hm
  | 6, hm => exact mm_okF6 _ hm
  | 7, hm => exact mm_okF7 _ hm
  | n + 8, hm => exact absurd hm List.not_mem_nil
theorem mm_okC {o idx : Nat} {x : Int32} (h : mm_lk (mm_C o) idx = some x) : Cond.constant (mm_cn o) idx x ∈ mm_tb := by
  have hm := mm_lk_mem h
  match o, hm with
  | 0, hm => exact mm_okC0 _ hm
  | 1, hm => exact mm_okC1 _ hm
  | 2, hm => exact mm_okC2 _ hm
  | 3, hm => exact mm_okC3 _ hm
  | 4, hm => exact mm_okC4 _ hm
  | 5, hm => exact mm_okC5 _ hm
  | 6, hm => exact mm_okC6 _ hm
  | 7, hm => exact mm_okC7 _ hm
  | n + 8, hm => exact absurd hm List.not_mem_nil
theorem mm_okL {o idx : Nat} {x : Int64} (h : mm_lk (mm_L o) idx = some x) : Cond.constantLong (mm_cn o) idx x ∈ mm_tb := by
  have hm := mm_lk_mem h
  match o, hm with
  | 0, hm => exact mm_okL0 _ hm
  | 1, hm => exact mm_okL1 _ hm
  | 2, hm => exact mm_okL2 _ hm
  | 3, hm => exact mm_okL3 _ hm
  | 4, hm => exact mm_okL4 _ hm
  | 5, hm => exact mm_okL5 _ hm
  | 6, hm => exact mm_okL6 _ hm
  | 7, hm => exact mm_okL7 _ hm
  | n + 8, hm => exact absurd hm List.not_mem_nil
def mm_sn (t : Nat) : String := if t = 0 then "TO_X" else "TO_Y"
theorem mm_okS {o idx t : Nat} (h : mm_lk (mm_S o) idx = some t) : Cond.fieldLinkNest (mm_cn o) idx "FoamCells" (mm_sn t) "[I" "FoamCells" ∈ lw_tbl ∧ t < 2 := by
  have hm := mm_lk_mem h
  match o, hm with
  | 2, hm =>
    have e : ∀ e ∈ mm_S2, Cond.fieldLinkNest (mm_cn 2) e.1 "FoamCells" (mm_sn e.2) "[I" "FoamCells" ∈ lw_tbl ∧ e.2 < 2 := List.forall_mem_cons.mpr ⟨⟨List.mem_of_getElem? (i := 303) (by decide +kernel), by decide⟩, List.forall_mem_cons.mpr ⟨⟨List.mem_of_getElem? (i := 308) (by decide +kernel), by decide⟩, fun _ h => absurd h List.not_mem_nil⟩⟩
    exact e _ hm
  | 0, hm => exact absurd hm List.not_mem_nil
  | 1, hm => exact absurd hm List.not_mem_nil
  | 3, hm => exact absurd hm List.not_mem_nil
  | 4, hm => exact absurd hm List.not_mem_nil
  | 5, hm => exact absurd hm List.not_mem_nil
  | 6, hm => exact absurd hm List.not_mem_nil
  | 7, hm => exact absurd hm List.not_mem_nil
  | n + 8, hm => exact absurd hm List.not_mem_nil
theorem mm_uw0 : ∀ w ∈ u_ws RX0 TX0 5, w ∈ mm_tb := by
  have e : u_ws RX0 TX0 5 = [171, 173, 175, 177, 179].filterMap (fun i => lw_tbl[i]?) := by decide +kernel
  have g : (u_ws RX0 TX0 5).all goodWord = true := by decide +kernel
  intro w hw
  refine List.mem_filter.mpr ⟨?_, List.all_eq_true.mp g w hw⟩
  rw [e] at hw
  obtain ⟨i, -, hi⟩ := List.mem_filterMap.mp hw
  exact List.mem_of_getElem? hi
theorem mm_uw1 : ∀ w ∈ u_ws RX1 TX1 11, w ∈ mm_tb := by
  have e : u_ws RX1 TX1 11 = [207, 209, 211, 213, 215, 217, 219, 221, 223, 225, 227].filterMap (fun i => lw_tbl[i]?) := by decide +kernel
  have g : (u_ws RX1 TX1 11).all goodWord = true := by decide +kernel
  intro w hw
  refine List.mem_filter.mpr ⟨?_, List.all_eq_true.mp g w hw⟩
  rw [e] at hw
  obtain ⟨i, -, hi⟩ := List.mem_filterMap.mp hw
  exact List.mem_of_getElem? hi
theorem mm_uw2 : ∀ w ∈ u_ws RX2 TX2 8, w ∈ mm_tb := by
  have e : u_ws RX2 TX2 8 = [141, 143, 145, 147, 149, 151, 153, 155].filterMap (fun i => lw_tbl[i]?) := by decide +kernel
  have g : (u_ws RX2 TX2 8).all goodWord = true := by decide +kernel
  intro w hw
  refine List.mem_filter.mpr ⟨?_, List.all_eq_true.mp g w hw⟩
  rw [e] at hw
  obtain ⟨i, -, hi⟩ := List.mem_filterMap.mp hw
  exact List.mem_of_getElem? hi
theorem mm_uw3 : ∀ w ∈ u_ws RX3 TX3 2, w ∈ mm_tb := by
  have e : u_ws RX3 TX3 2 = [242, 244].filterMap (fun i => lw_tbl[i]?) := by decide +kernel
  have g : (u_ws RX3 TX3 2).all goodWord = true := by decide +kernel
  intro w hw
  refine List.mem_filter.mpr ⟨?_, List.all_eq_true.mp g w hw⟩
  rw [e] at hw
  obtain ⟨i, -, hi⟩ := List.mem_filterMap.mp hw
  exact List.mem_of_getElem? hi
theorem mm_uw4 : ∀ w ∈ u_ws RX4 TX4 8, w ∈ mm_tb := by
  have e : u_ws RX4 TX4 8 = [266, 268, 270, 272, 274, 276, 278, 280].filterMap (fun i => lw_tbl[i]?) := by decide +kernel
  have g : (u_ws RX4 TX4 8).all goodWord = true := by decide +kernel
  intro w hw
  refine List.mem_filter.mpr ⟨?_, List.all_eq_true.mp g w hw⟩
  rw [e] at hw
  obtain ⟨i, -, hi⟩ := List.mem_filterMap.mp hw
  exact List.mem_of_getElem? hi
theorem mm_uw5 : ∀ w ∈ u_ws RX5 TX5 4, w ∈ mm_tb := by
  have e : u_ws RX5 TX5 4 = [325, 327, 329, 331].filterMap (fun i => lw_tbl[i]?) := by decide +kernel
  have g : (u_ws RX5 TX5 4).all goodWord = true := by decide +kernel
  intro w hw
  refine List.mem_filter.mpr ⟨?_, List.all_eq_true.mp g w hw⟩
  rw [e] at hw
  obtain ⟨i, -, hi⟩ := List.mem_filterMap.mp hw
  exact List.mem_of_getElem? hi
theorem mm_uw6 : ∀ w ∈ u_ws RX6 TX6 12, w ∈ mm_tb := by
  have e : u_ws RX6 TX6 12 = [1038, 1040, 1042, 1044, 1046, 1048, 1050, 1052, 1054, 1056, 1058, 1060].filterMap (fun i => lw_tbl[i]?) := by decide +kernel
  have g : (u_ws RX6 TX6 12).all goodWord = true := by decide +kernel
  intro w hw
  refine List.mem_filter.mpr ⟨?_, List.all_eq_true.mp g w hw⟩
  rw [e] at hw
  obtain ⟨i, -, hi⟩ := List.mem_filterMap.mp hw
  exact List.mem_of_getElem? hi
/-- what the rows of a class need -/
theorem mm_cf {ci : Nat} {q : vw_C} (h : vwCl[ci]? = some q) : (∀ w ∈ u_ws q.1 q.2.1 q.2.2, w ∈ mm_tb) ∧ ∃ ty : Nat → FieldType, (∀ k, k < q.2.2 → parseFieldDescriptor (q.2.1 k).2.2.1 = some (ty k)) ∧ ∀ a, a < q.2.2 → ∀ b, b < q.2.2 → a ≠ b → (q.2.1 a).2.1 ≠ (q.2.1 b).2.1 := by
  match ci, h with
  | 0, h => cases h; exact ⟨mm_uw0, tyX0, tyX0_ok, nmX0⟩
  | 1, h => cases h; exact ⟨mm_uw1, tyX1, tyX1_ok, nmX1⟩
  | 2, h => cases h; exact ⟨mm_uw2, tyX2, tyX2_ok, nmX2⟩
  | 3, h => cases h; exact ⟨mm_uw3, tyX3, tyX3_ok, nmX3⟩
  | 4, h => cases h; exact ⟨mm_uw4, tyX4, tyX4_ok, nmX4⟩
  | 5, h => cases h; exact ⟨mm_uw5, tyX5, tyX5_ok, nmX5⟩
  | 6, h => cases h; exact ⟨mm_uw6, tyX6, tyX6_ok, nmX6⟩
theorem mm_okP {o idx : Nat} (h : mm_lk (mm_P o) idx = some 0) : Cond.methodLink (mm_cn o) idx arraycopyName ∈ mm_tb := by
  have hm := mm_lk_mem h
  match o, hm with
  | 0, hm => cases List.mem_singleton.mp hm; exact mm_of (i := 590) (by decide +kernel)
  | 1, hm => cases List.mem_singleton.mp hm; exact mm_of (i := 591) (by decide +kernel)
  | 2, hm => cases List.mem_singleton.mp hm; exact mm_of (i := 583) (by decide +kernel)
  | 3, hm => exact absurd hm List.not_mem_nil
  | 4, hm => exact absurd hm List.not_mem_nil
  | 5, hm => exact absurd hm List.not_mem_nil
  | 6, hm => cases List.mem_singleton.mp hm
  | 7, hm => exact absurd hm List.not_mem_nil
  | n + 8, hm => exact absurd hm List.not_mem_nil
theorem mm_ac1 : Cond.native arraycopyName ∈ mm_tb := mm_of (i := 585) (by decide +kernel)
theorem mm_ac2 : Cond.static arraycopyName ∈ mm_tb := mm_of (i := 584) (by decide +kernel)
theorem mm_ac3 : Cond.initialized "java/lang/System" ∈ mm_tb := mm_of (i := 93) (by decide +kernel)
theorem mm_okI {o idx : Nat} (h : mm_lk (mm_P o) idx = some 1) : o = 6 ∧ Cond.methodLink (mm_cn o) idx yX6_in ∈ mm_tb := by
  have hm := mm_lk_mem h
  match o, hm with
  | 0, hm => cases List.mem_singleton.mp hm
  | 1, hm => cases List.mem_singleton.mp hm
  | 2, hm => cases List.mem_singleton.mp hm
  | 3, hm => exact absurd hm List.not_mem_nil
  | 4, hm => exact absurd hm List.not_mem_nil
  | 5, hm => exact absurd hm List.not_mem_nil
  | 6, hm => cases List.mem_singleton.mp hm; exact ⟨rfl, mm_of (i := 1017) (by decide +kernel)⟩
  | 7, hm => exact absurd hm List.not_mem_nil
  | n + 8, hm => exact absurd hm List.not_mem_nil
theorem mm_in1 : Cond.static yX6_in ∈ mm_tb := mm_of (i := 1018) (by decide +kernel)
theorem mm_in2 : Cond.code yX6_in cX6_in 6 (some .boolean) ∈ mm_tb := mm_of (i := 1019) (by decide +kernel)
theorem mm_in3 : Cond.initialized RX6 ∈ mm_tb := mm_of (i := 92) (by decide +kernel)
