/-! The system's meaning, by depth of calls; each method keeps to it. -/
def hv_in : Nat → List Value → hv_L
  | n, [] => List.replicate n none
  | n, v :: vs => match v with
    | .long x => some (.long x) :: none :: hv_in (n - 2) vs
    | .double x => some (.double x) :: none :: hv_in (n - 2) vs
    | v => some v :: hv_in (n - 1) vs
theorem hv_in_len : ∀ (as : List Value) (n : Nat), hv_w as ≤ n → (hv_in n as).length = n
  | [], n, _ => by simp [hv_in]
  | v :: vs, n, h => by
    simp only [hv_w] at h
    have ih := hv_in_len vs
    cases v <;> simp only [Value.category] at h <;> simp only [hv_in, List.length_cons]
    all_goals (rw [ih _ (by omega)]; omega)
theorem hv_in_args {b : Nat} {sa : Nat → Nat} : ∀ (as : List Value) (n o i : Nat) (v : Value), (hv_in n as)[i]? = some (some v) → (o + i, hv_cv b sa v) ∈ lv_args o (as.map (hv_cv b sa))
  | [], n, o, i, v, h => by
    simp only [hv_in] at h
    rw [List.getElem?_replicate] at h
    split at h <;> cases h
  | w :: ws, n, o, i, v, h => by
    have ih := hv_in_args (b := b) (sa := sa) ws
    have k1 : ∀ x, hv_in n (w :: ws) = some x :: hv_in (n - 1) ws → x = w → w.category = 1 → (o + i, hv_cv b sa v) ∈ lv_args o ((w :: ws).map (hv_cv b sa)) := by
      intro x hx hxw hc
      subst hxw
      rw [hx] at h
      simp only [List.map_cons, lv_args, hv_cv_cat]
      rw [if_neg (by omega)]
      cases i with
      | zero =>
        cases Option.some.inj (Option.some.inj h)
        exact List.mem_cons_self
      | succ i =>
        refine List.mem_cons_of_mem _ ?_
        have := ih (n - 1) (o + 1) i v h
        rwa [show o + 1 + i = o + (i + 1) by omega] at this
    have k2 : ∀ x, hv_in n (w :: ws) = some x :: none :: hv_in (n - 2) ws → x = w → w.category = 2 → (o + i, hv_cv b sa v) ∈ lv_args o ((w :: ws).map (hv_cv b sa)) := by
      intro x hx hxw hc
      subst hxw
      rw [hx] at h
      simp only [List.map_cons, lv_args, hv_cv_cat]
      rw [if_pos hc]
      match i, h with
      | 0, h =>
        cases Option.some.inj (Option.some.inj h)
        exact List.mem_cons_self
      | 1, h => cases Option.some.inj h
      | i + 2, h =>
        refine List.mem_cons_of_mem _ ?_
        have := ih (n - 2) (o + 2) i v h
        rwa [show o + 2 + i = o + (i + 2) by omega] at this
    cases w with
    | int x => exact k1 _ rfl rfl rfl
    | long x => exact k2 _ rfl rfl rfl
    | float x => exact k1 _ rfl rfl rfl
    | double x => exact k2 _ rfl rfl rfl
    | null => exact k1 _ rfl rfl rfl
    | ref x => exact k1 _ rfl rfl rfl
    | retAddr x => exact k1 _ rfl rfl rfl
theorem hv_sl_len (b : Nat) (sa : Nat → Nat) : ∀ (as : List Value), (lg_sl (as.map (hv_cv b sa))).length = hv_w as
  | [] => rfl
  | v :: vs => by
    have ih := hv_sl_len b sa vs
    unfold lg_sl at ih ⊢
    rw [List.map_cons, List.flatMap_cons, List.length_append, ih, hv_w, hv_cv_cat]
    cases v <;> rfl
theorem hv_entry {b : Nat} {sa : Nat → Nat} {as : List Value} {n : Nat} (h : hv_w as ≤ n) : hv_Lr b sa ((lg_sl (as.map (hv_cv b sa)) ++ List.replicate (n - (lg_sl (as.map (hv_cv b sa))).length) Slot.unset).toArray) n (hv_in n as) := by
  have h1 := lv_entry (as.map (hv_cv b sa)) (n := n) (by rw [hv_sl_len]; exact h)
  refine ⟨hv_in_len as n h, h1.1, h1.2.1, fun i v hi => ?_⟩
  have h2 := hv_in_args (b := b) (sa := sa) as n 0 i v hi
  rw [Nat.zero_add] at h2
  exact h1.2.2 _ h2
noncomputable def hv_BD : List ((Instr → hv_M) → hv_M) := [hb_V_init, hb_V_monk, hb_V_put, hb_V_of, hb_V_has, hb_V_terms, hb_V_feed, hb_V_addBytes, hb_V_end, hb_V_row, hb_V_isRow, hb_V_addMonkOfRow, hb_V_crumbs, hb_V_law, hb_V_orders, hb_V_fault, hb_V_stopped, hb_V_force, hb_V_give, hb_V_lay, hb_V_swap, hb_V_pass, hb_V_undo, hb_V_best, hb_V_chosenOrTotal, hb_V_fair, hb_V_wished, hb_V_swaps, hb_V_hide, hb_V_soft, hb_V_kept, hb_V_seen, hb_V_forget, hb_V_who, hb_V_look, hb_V_compare, hb_V_years, hb_V_drawn, hb_V_image, hb_V_back, hb_V_count, hb_V_status, hb_V_rulesNow, hb_V_accept, hb_V_acceptDeed, hb_V_refuse, hb_V_isVow, hb_V_isHard, hb_M_lies, hb_M_lesser, hb_M_greater, hb_M_refuses, hb_M_good, hb_M_settled, hb_M_isIn, hb_M_init, hb_M_laysAside, hb_M_takesBack, hb_M_image, hb_M_back, hb_M_isMonk, hb_M_isVow, hb_M_isHard, hb_M_hardOf, hb_M_hasOne, hb_M_heldOf, hb_M_holderOf, hb_M_adds, hb_M_monk, hb_M_put, hb_M_of, hb_M_has, hb_M_terms, hb_M_areHard, hb_M_row, hb_M_crumbs, hb_M_feed, hb_M_end, hb_M_isSmall, hb_M_isDigit, hb_M_wordOf, hb_M_splits, hb_M_fine, hb_M_faults, hb_M_takes0, hb_M_must, hb_M_leaf, hb_M_sign, hb_M_mustNumber, hb_M_readClause, hb_M_readOrder, hb_M_readOne, hb_M_readTest, hb_M_readBoth, hb_M_readPlain, hb_M_readSum, hb_M_readTerm, hb_M_readPart, hb_M_reads, hb_M_readsAs, hb_M_lays, hb_M_law, hb_M_fault, hb_M_isLaw, hb_M_force, hb_M_codeAt, hb_M_passes0, hb_M_bounded, hb_M_sumOf, hb_M_termOf, hb_M_partOf, hb_M_orderValue, hb_M_testOf, hb_M_bothOf, hb_M_plainOf, hb_M_positiveOf, hb_M_tells, hb_M_fallsBy, hb_M_risesBy, hb_M_showsOf, hb_M_breaksIn, hb_M_isBarred, hb_M_givenNow, hb_M_hardNow, hb_M_canGive, hb_M_gives, hb_M_yearPasses, hb_M_keeps, hb_M_undo, hb_M_goodOr, hb_M_givesKept, hb_M_laysKept, hb_M_canSwap, hb_M_swapsKept, hb_M_passesKept, hb_M_give, hb_M_lay, hb_M_swap, hb_M_pass, hb_M_laysShown, hb_M_shownBy, hb_M_laysBest, hb_M_best, hb_M_compare, hb_M_hardByBest, hb_M_hide, hb_M_sumByBest, hb_M_obeysBest, hb_M_soft, hb_M_triesFair, hb_M_fair, hb_M_isKept, hb_M_wishOf, hb_M_nextAsker, hb_M_wished, hb_M_isHarder, hb_M_swaps, hb_M_kept, hb_M_seen, hb_M_forget, hb_M_canBe, hb_M_who, hb_M_mostAlike, hb_M_look, hb_M_stopped, hb_M_orders, hb_M_goesAlong, hb_M_small, hb_M_obeys, hb_M_runs, hb_M_draws, hb_M_yearIsDrawn, hb_M_years, hb_M_drawn, hb_M_count, hb_M_status, hb_Chooser_init, hb_Chooser_chosen, hb_Chooser_total, hb_Chooser_chooseBest, hb_Chooser_chooseWeighed, hb_Chooser_weighShown, hb_Chooser_worthOf, hb_Chooser_setWorth, hb_Chooser_chooseFair, hb_Chooser_weighHard, hb_Chooser_fillMost, hb_Chooser_mostFrom, hb_Chooser_mostWith, hb_Chooser_fillRow, hb_Chooser_chooseWished, hb_Chooser_lowestToAsk, hb_Chooser_nextWish, hb_Chooser_askFor, hb_Code_init_0, hb_Code_init_1, hb_Code_clear, hb_Code_addClause, hb_Code_mark, hb_Code_marked, hb_Code_addStep, hb_Code_leadHere, hb_Deeds_init, hb_Deeds_giveVow, hb_Deeds_layDown, hb_Deeds_swapVows, hb_Deeds_passYear, hb_Deeds_takeBack, hb_Deeds_run, hb_Deeds_isWanted, hb_Deeds_carryOut, hb_Deeds_setWords, hb_House_init, hb_House_monks, hb_House_isMonk, hb_House_addMonk, hb_House_hardOf, hb_House_setHard, hb_House_vowOf, hb_House_setVow, hb_House_heldOf, hb_House_holdOneMore, hb_House_isHad, hb_House_given, hb_House_hardOfAllHad, hb_House_year, hb_House_setYear, hb_House_mood, hb_House_setMood, hb_House_copyFrom, hb_Machine_init, hb_Machine_told, hb_Machine_works, hb_Machine_endsWell, hb_Machine_push, hb_Machine_turn, hb_Machine_isSettled, hb_Machine_combines, hb_Paper_init, hb_Paper_hidden, hb_Paper_hardOfChosen, hb_Paper_firstSoftYear, hb_Paper_takeSheet, hb_Paper_takeChosen, hb_Paper_chanceKept, hb_Paper_possibleMonks, hb_Paper_showsAllSeen, hb_Paper_nextToSee, hb_Paper_mostAlike, hb_Paper_drawYears, hb_Paper_draw, hb_Reader_init, hb_Reader_faultOf, hb_Reader_readsRule, hb_Reader_readsOrder, hb_Reader_readsMarkedSum, hb_Reader_readsTimes, hb_Reader_readsCondition, hb_Reader_readsTest, hb_Reader_readsBoth, hb_Reader_readsPlain, hb_Reader_readsInner, hb_Reader_readsComparison, hb_Reader_readsSum, hb_Reader_readsTerm, hb_Reader_readsPart, hb_Reader_readsWord, hb_Reader_takes, hb_Reader_takesWord, hb_Reader_placeIn, hb_Reader_step, hb_Reader_isLetter, hb_Reader_isDigit, hb_Rules_init, hb_Rules_take, hb_Rules_shownBy, hb_Rules_breaksOf, hb_Rules_fallOf, hb_Rules_riseOf, hb_Rules_isBarred, hb_Rules_told, hb_Rules_toldWithout, hb_Rules_setWords, hb_Rules_refusalToGive, hb_Rules_refusalToSwap, hb_Rules_isHarderSwapped, hb_Rules_passYear, hb_Rules_passYearOf, hb_Trail_init, hb_Trail_length, hb_Trail_clear, hb_Trail_keep, hb_Trail_takeBack, hb_Trail_copyFrom, hb_Whole_init, hb_Whole_isLaw, hb_Whole_lawOf, hb_Whole_addLaw, hb_Whole_addSeen, hb_Whole_copyFrom, hb_Integer_bitCount, hb_Math_max, hb_Math_min, hb_Arrays_copyOf, hb_Arrays_fill]
def hv_fin (r : Option hv_O) : Option hv_R := match r with
  | some (.inr r) => some r
  | _ => none
noncomputable def hv_sem : Nat → hv_F
  | 0 => fun _ _ _ => none
  | d + 1 => fun j as h => match hv_BD[j]? with
    | some B => if hv_w as ≤ hv_nL j then hv_fin (B (hv_step hv_cm hv_vk hv_dv hv_ft (hv_cm j).1 (hv_cm j).2 (hv_rt j) (hv_sem d)) (hv_in (hv_nL j) as, [], h, 0, 0)) else none
    | none => if d < 5 then none else match j, as with
      | 305, [.retAddr k] => if k < 11 then some (some (.int (Int32.ofNat (hv_SL.getD k 0))), h) else none
      | 306, [.retAddr k, .int i] => if k < 11 ∧ ¬ i < 0 ∧ i.toNatClampNeg < hv_SL.getD k 0 then some (some (.int ((hv_SB.getD k []).getD i.toNatClampNeg 0)), h) else none
      | _, _ => none
def hv_BOK (j : Nat) : Prop := ∃ B, hv_BD[j]? = some B ∧ ∀ (Sf : Nat → hv_S → Prop) (Fn : hv_R → Prop) (f : Instr → hv_M), (∀ (lb : List Nat) (pc : Nat) (i : Instr) (pc' : Nat), hv_ck (hv_ow j) (hv_ii j) (hv_rt j) (hv_cc j) lb pc i = some pc' → hv_I Sf Fn pc lb (f i) pc') → ∃ e, hv_I Sf Fn 0 [] (B f) e
theorem hbo_0 : hv_BOK 0 := ⟨hb_V_init, rfl, fun _ _ _ hst => ⟨_, hbk_V_init hst⟩⟩
theorem hbo_1 : hv_BOK 1 := ⟨hb_V_monk, rfl, fun _ _ _ hst => ⟨_, hbk_V_monk hst⟩⟩
theorem hbo_2 : hv_BOK 2 := ⟨hb_V_put, rfl, fun _ _ _ hst => ⟨_, hbk_V_put hst⟩⟩
theorem hbo_3 : hv_BOK 3 := ⟨hb_V_of, rfl, fun _ _ _ hst => ⟨_, hbk_V_of hst⟩⟩
theorem hbo_4 : hv_BOK 4 := ⟨hb_V_has, rfl, fun _ _ _ hst => ⟨_, hbk_V_has hst⟩⟩
theorem hbo_5 : hv_BOK 5 := ⟨hb_V_terms, rfl, fun _ _ _ hst => ⟨_, hbk_V_terms hst⟩⟩
theorem hbo_6 : hv_BOK 6 := ⟨hb_V_feed, rfl, fun _ _ _ hst => ⟨_, hbk_V_feed hst⟩⟩
theorem hbo_7 : hv_BOK 7 := ⟨hb_V_addBytes, rfl, fun _ _ _ hst => ⟨_, hbk_V_addBytes hst⟩⟩
theorem hbo_8 : hv_BOK 8 := ⟨hb_V_end, rfl, fun _ _ _ hst => ⟨_, hbk_V_end hst⟩⟩
theorem hbo_9 : hv_BOK 9 := ⟨hb_V_row, rfl, fun _ _ _ hst => ⟨_, hbk_V_row hst⟩⟩
theorem hbo_10 : hv_BOK 10 := ⟨hb_V_isRow, rfl, fun _ _ _ hst => ⟨_, hbk_V_isRow hst⟩⟩
theorem hbo_11 : hv_BOK 11 := ⟨hb_V_addMonkOfRow, rfl, fun _ _ _ hst => ⟨_, hbk_V_addMonkOfRow hst⟩⟩
theorem hbo_12 : hv_BOK 12 := ⟨hb_V_crumbs, rfl, fun _ _ _ hst => ⟨_, hbk_V_crumbs hst⟩⟩
theorem hbo_13 : hv_BOK 13 := ⟨hb_V_law, rfl, fun _ _ _ hst => ⟨_, hbk_V_law hst⟩⟩
theorem hbo_14 : hv_BOK 14 := ⟨hb_V_orders, rfl, fun _ _ _ hst => ⟨_, hbk_V_orders hst⟩⟩
theorem hbo_15 : hv_BOK 15 := ⟨hb_V_fault, rfl, fun _ _ _ hst => ⟨_, hbk_V_fault hst⟩⟩
theorem hbo_16 : hv_BOK 16 := ⟨hb_V_stopped, rfl, fun _ _ _ hst => ⟨_, hbk_V_stopped hst⟩⟩
theorem hbo_17 : hv_BOK 17 := ⟨hb_V_force, rfl, fun _ _ _ hst => ⟨_, hbk_V_force hst⟩⟩
theorem hbo_18 : hv_BOK 18 := ⟨hb_V_give, rfl, fun _ _ _ hst => ⟨_, hbk_V_give hst⟩⟩
theorem hbo_19 : hv_BOK 19 := ⟨hb_V_lay, rfl, fun _ _ _ hst => ⟨_, hbk_V_lay hst⟩⟩
theorem hbo_20 : hv_BOK 20 := ⟨hb_V_swap, rfl, fun _ _ _ hst => ⟨_, hbk_V_swap hst⟩⟩
theorem hbo_21 : hv_BOK 21 := ⟨hb_V_pass, rfl, fun _ _ _ hst => ⟨_, hbk_V_pass hst⟩⟩
theorem hbo_22 : hv_BOK 22 := ⟨hb_V_undo, rfl, fun _ _ _ hst => ⟨_, hbk_V_undo hst⟩⟩
theorem hbo_23 : hv_BOK 23 := ⟨hb_V_best, rfl, fun _ _ _ hst => ⟨_, hbk_V_best hst⟩⟩
theorem hbo_24 : hv_BOK 24 := ⟨hb_V_chosenOrTotal, rfl, fun _ _ _ hst => ⟨_, hbk_V_chosenOrTotal hst⟩⟩
theorem hbo_25 : hv_BOK 25 := ⟨hb_V_fair, rfl, fun _ _ _ hst => ⟨_, hbk_V_fair hst⟩⟩
theorem hbo_26 : hv_BOK 26 := ⟨hb_V_wished, rfl, fun _ _ _ hst => ⟨_, hbk_V_wished hst⟩⟩
theorem hbo_27 : hv_BOK 27 := ⟨hb_V_swaps, rfl, fun _ _ _ hst => ⟨_, hbk_V_swaps hst⟩⟩
theorem hbo_28 : hv_BOK 28 := ⟨hb_V_hide, rfl, fun _ _ _ hst => ⟨_, hbk_V_hide hst⟩⟩
theorem hbo_29 : hv_BOK 29 := ⟨hb_V_soft, rfl, fun _ _ _ hst => ⟨_, hbk_V_soft hst⟩⟩
theorem hbo_30 : hv_BOK 30 := ⟨hb_V_kept, rfl, fun _ _ _ hst => ⟨_, hbk_V_kept hst⟩⟩
theorem hbo_31 : hv_BOK 31 := ⟨hb_V_seen, rfl, fun _ _ _ hst => ⟨_, hbk_V_seen hst⟩⟩
theorem hbo_32 : hv_BOK 32 := ⟨hb_V_forget, rfl, fun _ _ _ hst => ⟨_, hbk_V_forget hst⟩⟩
theorem hbo_33 : hv_BOK 33 := ⟨hb_V_who, rfl, fun _ _ _ hst => ⟨_, hbk_V_who hst⟩⟩
theorem hbo_34 : hv_BOK 34 := ⟨hb_V_look, rfl, fun _ _ _ hst => ⟨_, hbk_V_look hst⟩⟩
theorem hbo_35 : hv_BOK 35 := ⟨hb_V_compare, rfl, fun _ _ _ hst => ⟨_, hbk_V_compare hst⟩⟩
theorem hbo_36 : hv_BOK 36 := ⟨hb_V_years, rfl, fun _ _ _ hst => ⟨_, hbk_V_years hst⟩⟩
theorem hbo_37 : hv_BOK 37 := ⟨hb_V_drawn, rfl, fun _ _ _ hst => ⟨_, hbk_V_drawn hst⟩⟩
theorem hbo_38 : hv_BOK 38 := ⟨hb_V_image, rfl, fun _ _ _ hst => ⟨_, hbk_V_image hst⟩⟩
theorem hbo_39 : hv_BOK 39 := ⟨hb_V_back, rfl, fun _ _ _ hst => ⟨_, hbk_V_back hst⟩⟩
theorem hbo_40 : hv_BOK 40 := ⟨hb_V_count, rfl, fun _ _ _ hst => ⟨_, hbk_V_count hst⟩⟩
theorem hbo_41 : hv_BOK 41 := ⟨hb_V_status, rfl, fun _ _ _ hst => ⟨_, hbk_V_status hst⟩⟩
theorem hbo_42 : hv_BOK 42 := ⟨hb_V_rulesNow, rfl, fun _ _ _ hst => ⟨_, hbk_V_rulesNow hst⟩⟩
theorem hbo_43 : hv_BOK 43 := ⟨hb_V_accept, rfl, fun _ _ _ hst => ⟨_, hbk_V_accept hst⟩⟩
theorem hbo_44 : hv_BOK 44 := ⟨hb_V_acceptDeed, rfl, fun _ _ _ hst => ⟨_, hbk_V_acceptDeed hst⟩⟩
theorem hbo_45 : hv_BOK 45 := ⟨hb_V_refuse, rfl, fun _ _ _ hst => ⟨_, hbk_V_refuse hst⟩⟩
theorem hbo_46 : hv_BOK 46 := ⟨hb_V_isVow, rfl, fun _ _ _ hst => ⟨_, hbk_V_isVow hst⟩⟩
theorem hbo_47 : hv_BOK 47 := ⟨hb_V_isHard, rfl, fun _ _ _ hst => ⟨_, hbk_V_isHard hst⟩⟩
theorem hbo_48 : hv_BOK 48 := ⟨hb_M_lies, rfl, fun _ _ _ hst => ⟨_, hbk_M_lies hst⟩⟩
theorem hbo_49 : hv_BOK 49 := ⟨hb_M_lesser, rfl, fun _ _ _ hst => ⟨_, hbk_M_lesser hst⟩⟩
theorem hbo_50 : hv_BOK 50 := ⟨hb_M_greater, rfl, fun _ _ _ hst => ⟨_, hbk_M_greater hst⟩⟩
theorem hbo_51 : hv_BOK 51 := ⟨hb_M_refuses, rfl, fun _ _ _ hst => ⟨_, hbk_M_refuses hst⟩⟩
theorem hbo_52 : hv_BOK 52 := ⟨hb_M_good, rfl, fun _ _ _ hst => ⟨_, hbk_M_good hst⟩⟩
theorem hbo_53 : hv_BOK 53 := ⟨hb_M_settled, rfl, fun _ _ _ hst => ⟨_, hbk_M_settled hst⟩⟩
theorem hbo_54 : hv_BOK 54 := ⟨hb_M_isIn, rfl, fun _ _ _ hst => ⟨_, hbk_M_isIn hst⟩⟩
theorem hbo_55 : hv_BOK 55 := ⟨hb_M_init, rfl, fun _ _ _ hst => ⟨_, hbk_M_init hst⟩⟩
theorem hbo_56 : hv_BOK 56 := ⟨hb_M_laysAside, rfl, fun _ _ _ hst => ⟨_, hbk_M_laysAside hst⟩⟩
theorem hbo_57 : hv_BOK 57 := ⟨hb_M_takesBack, rfl, fun _ _ _ hst => ⟨_, hbk_M_takesBack hst⟩⟩
theorem hbo_58 : hv_BOK 58 := ⟨hb_M_image, rfl, fun _ _ _ hst => ⟨_, hbk_M_image hst⟩⟩
theorem hbo_59 : hv_BOK 59 := ⟨hb_M_back, rfl, fun _ _ _ hst => ⟨_, hbk_M_back hst⟩⟩
theorem hbo_60 : hv_BOK 60 := ⟨hb_M_isMonk, rfl, fun _ _ _ hst => ⟨_, hbk_M_isMonk hst⟩⟩
theorem hbo_61 : hv_BOK 61 := ⟨hb_M_isVow, rfl, fun _ _ _ hst => ⟨_, hbk_M_isVow hst⟩⟩
theorem hbo_62 : hv_BOK 62 := ⟨hb_M_isHard, rfl, fun _ _ _ hst => ⟨_, hbk_M_isHard hst⟩⟩
theorem hbo_63 : hv_BOK 63 := ⟨hb_M_hardOf, rfl, fun _ _ _ hst => ⟨_, hbk_M_hardOf hst⟩⟩
theorem hbo_64 : hv_BOK 64 := ⟨hb_M_hasOne, rfl, fun _ _ _ hst => ⟨_, hbk_M_hasOne hst⟩⟩
theorem hbo_65 : hv_BOK 65 := ⟨hb_M_heldOf, rfl, fun _ _ _ hst => ⟨_, hbk_M_heldOf hst⟩⟩
theorem hbo_66 : hv_BOK 66 := ⟨hb_M_holderOf, rfl, fun _ _ _ hst => ⟨_, hbk_M_holderOf hst⟩⟩
theorem hbo_67 : hv_BOK 67 := ⟨hb_M_adds, rfl, fun _ _ _ hst => ⟨_, hbk_M_adds hst⟩⟩
theorem hbo_68 : hv_BOK 68 := ⟨hb_M_monk, rfl, fun _ _ _ hst => ⟨_, hbk_M_monk hst⟩⟩
theorem hbo_69 : hv_BOK 69 := ⟨hb_M_put, rfl, fun _ _ _ hst => ⟨_, hbk_M_put hst⟩⟩
theorem hbo_70 : hv_BOK 70 := ⟨hb_M_of, rfl, fun _ _ _ hst => ⟨_, hbk_M_of hst⟩⟩
theorem hbo_71 : hv_BOK 71 := ⟨hb_M_has, rfl, fun _ _ _ hst => ⟨_, hbk_M_has hst⟩⟩
theorem hbo_72 : hv_BOK 72 := ⟨hb_M_terms, rfl, fun _ _ _ hst => ⟨_, hbk_M_terms hst⟩⟩
theorem hbo_73 : hv_BOK 73 := ⟨hb_M_areHard, rfl, fun _ _ _ hst => ⟨_, hbk_M_areHard hst⟩⟩
theorem hbo_74 : hv_BOK 74 := ⟨hb_M_row, rfl, fun _ _ _ hst => ⟨_, hbk_M_row hst⟩⟩
theorem hbo_75 : hv_BOK 75 := ⟨hb_M_crumbs, rfl, fun _ _ _ hst => ⟨_, hbk_M_crumbs hst⟩⟩
theorem hbo_76 : hv_BOK 76 := ⟨hb_M_feed, rfl, fun _ _ _ hst => ⟨_, hbk_M_feed hst⟩⟩
theorem hbo_77 : hv_BOK 77 := ⟨hb_M_end, rfl, fun _ _ _ hst => ⟨_, hbk_M_end hst⟩⟩
theorem hbo_78 : hv_BOK 78 := ⟨hb_M_isSmall, rfl, fun _ _ _ hst => ⟨_, hbk_M_isSmall hst⟩⟩
theorem hbo_79 : hv_BOK 79 := ⟨hb_M_isDigit, rfl, fun _ _ _ hst => ⟨_, hbk_M_isDigit hst⟩⟩
theorem hbo_80 : hv_BOK 80 := ⟨hb_M_wordOf, rfl, fun _ _ _ hst => ⟨_, hbk_M_wordOf hst⟩⟩
theorem hbo_81 : hv_BOK 81 := ⟨hb_M_splits, rfl, fun _ _ _ hst => ⟨_, hbk_M_splits hst⟩⟩
theorem hbo_82 : hv_BOK 82 := ⟨hb_M_fine, rfl, fun _ _ _ hst => ⟨_, hbk_M_fine hst⟩⟩
theorem hbo_83 : hv_BOK 83 := ⟨hb_M_faults, rfl, fun _ _ _ hst => ⟨_, hbk_M_faults hst⟩⟩
theorem hbo_84 : hv_BOK 84 := ⟨hb_M_takes0, rfl, fun _ _ _ hst => ⟨_, hbk_M_takes0 hst⟩⟩
theorem hbo_85 : hv_BOK 85 := ⟨hb_M_must, rfl, fun _ _ _ hst => ⟨_, hbk_M_must hst⟩⟩
theorem hbo_86 : hv_BOK 86 := ⟨hb_M_leaf, rfl, fun _ _ _ hst => ⟨_, hbk_M_leaf hst⟩⟩
theorem hbo_87 : hv_BOK 87 := ⟨hb_M_sign, rfl, fun _ _ _ hst => ⟨_, hbk_M_sign hst⟩⟩
theorem hbo_88 : hv_BOK 88 := ⟨hb_M_mustNumber, rfl, fun _ _ _ hst => ⟨_, hbk_M_mustNumber hst⟩⟩
theorem hbo_89 : hv_BOK 89 := ⟨hb_M_readClause, rfl, fun _ _ _ hst => ⟨_, hbk_M_readClause hst⟩⟩
theorem hbo_90 : hv_BOK 90 := ⟨hb_M_readOrder, rfl, fun _ _ _ hst => ⟨_, hbk_M_readOrder hst⟩⟩
theorem hbo_91 : hv_BOK 91 := ⟨hb_M_readOne, rfl, fun _ _ _ hst => ⟨_, hbk_M_readOne hst⟩⟩
theorem hbo_92 : hv_BOK 92 := ⟨hb_M_readTest, rfl, fun _ _ _ hst => ⟨_, hbk_M_readTest hst⟩⟩
theorem hbo_93 : hv_BOK 93 := ⟨hb_M_readBoth, rfl, fun _ _ _ hst => ⟨_, hbk_M_readBoth hst⟩⟩
theorem hbo_94 : hv_BOK 94 := ⟨hb_M_readPlain, rfl, fun _ _ _ hst => ⟨_, hbk_M_readPlain hst⟩⟩
theorem hbo_95 : hv_BOK 95 := ⟨hb_M_readSum, rfl, fun _ _ _ hst => ⟨_, hbk_M_readSum hst⟩⟩
theorem hbo_96 : hv_BOK 96 := ⟨hb_M_readTerm, rfl, fun _ _ _ hst => ⟨_, hbk_M_readTerm hst⟩⟩
theorem hbo_97 : hv_BOK 97 := ⟨hb_M_readPart, rfl, fun _ _ _ hst => ⟨_, hbk_M_readPart hst⟩⟩
theorem hbo_98 : hv_BOK 98 := ⟨hb_M_reads, rfl, fun _ _ _ hst => ⟨_, hbk_M_reads hst⟩⟩
theorem hbo_99 : hv_BOK 99 := ⟨hb_M_readsAs, rfl, fun _ _ _ hst => ⟨_, hbk_M_readsAs hst⟩⟩
theorem hbo_100 : hv_BOK 100 := ⟨hb_M_lays, rfl, fun _ _ _ hst => ⟨_, hbk_M_lays hst⟩⟩
theorem hbo_101 : hv_BOK 101 := ⟨hb_M_law, rfl, fun _ _ _ hst => ⟨_, hbk_M_law hst⟩⟩
theorem hbo_102 : hv_BOK 102 := ⟨hb_M_fault, rfl, fun _ _ _ hst => ⟨_, hbk_M_fault hst⟩⟩
theorem hbo_103 : hv_BOK 103 := ⟨hb_M_isLaw, rfl, fun _ _ _ hst => ⟨_, hbk_M_isLaw hst⟩⟩
theorem hbo_104 : hv_BOK 104 := ⟨hb_M_force, rfl, fun _ _ _ hst => ⟨_, hbk_M_force hst⟩⟩
theorem hbo_105 : hv_BOK 105 := ⟨hb_M_codeAt, rfl, fun _ _ _ hst => ⟨_, hbk_M_codeAt hst⟩⟩
theorem hbo_106 : hv_BOK 106 := ⟨hb_M_passes0, rfl, fun _ _ _ hst => ⟨_, hbk_M_passes0 hst⟩⟩
theorem hbo_107 : hv_BOK 107 := ⟨hb_M_bounded, rfl, fun _ _ _ hst => ⟨_, hbk_M_bounded hst⟩⟩
theorem hbo_108 : hv_BOK 108 := ⟨hb_M_sumOf, rfl, fun _ _ _ hst => ⟨_, hbk_M_sumOf hst⟩⟩
theorem hbo_109 : hv_BOK 109 := ⟨hb_M_termOf, rfl, fun _ _ _ hst => ⟨_, hbk_M_termOf hst⟩⟩
theorem hbo_110 : hv_BOK 110 := ⟨hb_M_partOf, rfl, fun _ _ _ hst => ⟨_, hbk_M_partOf hst⟩⟩
theorem hbo_111 : hv_BOK 111 := ⟨hb_M_orderValue, rfl, fun _ _ _ hst => ⟨_, hbk_M_orderValue hst⟩⟩
theorem hbo_112 : hv_BOK 112 := ⟨hb_M_testOf, rfl, fun _ _ _ hst => ⟨_, hbk_M_testOf hst⟩⟩
theorem hbo_113 : hv_BOK 113 := ⟨hb_M_bothOf, rfl, fun _ _ _ hst => ⟨_, hbk_M_bothOf hst⟩⟩
theorem hbo_114 : hv_BOK 114 := ⟨hb_M_plainOf, rfl, fun _ _ _ hst => ⟨_, hbk_M_plainOf hst⟩⟩
theorem hbo_115 : hv_BOK 115 := ⟨hb_M_positiveOf, rfl, fun _ _ _ hst => ⟨_, hbk_M_positiveOf hst⟩⟩
theorem hbo_116 : hv_BOK 116 := ⟨hb_M_tells, rfl, fun _ _ _ hst => ⟨_, hbk_M_tells hst⟩⟩
theorem hbo_117 : hv_BOK 117 := ⟨hb_M_fallsBy, rfl, fun _ _ _ hst => ⟨_, hbk_M_fallsBy hst⟩⟩
theorem hbo_118 : hv_BOK 118 := ⟨hb_M_risesBy, rfl, fun _ _ _ hst => ⟨_, hbk_M_risesBy hst⟩⟩
theorem hbo_119 : hv_BOK 119 := ⟨hb_M_showsOf, rfl, fun _ _ _ hst => ⟨_, hbk_M_showsOf hst⟩⟩
theorem hbo_120 : hv_BOK 120 := ⟨hb_M_breaksIn, rfl, fun _ _ _ hst => ⟨_, hbk_M_breaksIn hst⟩⟩
theorem hbo_121 : hv_BOK 121 := ⟨hb_M_isBarred, rfl, fun _ _ _ hst => ⟨_, hbk_M_isBarred hst⟩⟩
theorem hbo_122 : hv_BOK 122 := ⟨hb_M_givenNow, rfl, fun _ _ _ hst => ⟨_, hbk_M_givenNow hst⟩⟩
theorem hbo_123 : hv_BOK 123 := ⟨hb_M_hardNow, rfl, fun _ _ _ hst => ⟨_, hbk_M_hardNow hst⟩⟩
theorem hbo_124 : hv_BOK 124 := ⟨hb_M_canGive, rfl, fun _ _ _ hst => ⟨_, hbk_M_canGive hst⟩⟩
theorem hbo_125 : hv_BOK 125 := ⟨hb_M_gives, rfl, fun _ _ _ hst => ⟨_, hbk_M_gives hst⟩⟩
theorem hbo_126 : hv_BOK 126 := ⟨hb_M_yearPasses, rfl, fun _ _ _ hst => ⟨_, hbk_M_yearPasses hst⟩⟩
theorem hbo_127 : hv_BOK 127 := ⟨hb_M_keeps, rfl, fun _ _ _ hst => ⟨_, hbk_M_keeps hst⟩⟩
theorem hbo_128 : hv_BOK 128 := ⟨hb_M_undo, rfl, fun _ _ _ hst => ⟨_, hbk_M_undo hst⟩⟩
theorem hbo_129 : hv_BOK 129 := ⟨hb_M_goodOr, rfl, fun _ _ _ hst => ⟨_, hbk_M_goodOr hst⟩⟩
theorem hbo_130 : hv_BOK 130 := ⟨hb_M_givesKept, rfl, fun _ _ _ hst => ⟨_, hbk_M_givesKept hst⟩⟩
theorem hbo_131 : hv_BOK 131 := ⟨hb_M_laysKept, rfl, fun _ _ _ hst => ⟨_, hbk_M_laysKept hst⟩⟩
theorem hbo_132 : hv_BOK 132 := ⟨hb_M_canSwap, rfl, fun _ _ _ hst => ⟨_, hbk_M_canSwap hst⟩⟩
theorem hbo_133 : hv_BOK 133 := ⟨hb_M_swapsKept, rfl, fun _ _ _ hst => ⟨_, hbk_M_swapsKept hst⟩⟩
theorem hbo_134 : hv_BOK 134 := ⟨hb_M_passesKept, rfl, fun _ _ _ hst => ⟨_, hbk_M_passesKept hst⟩⟩
theorem hbo_135 : hv_BOK 135 := ⟨hb_M_give, rfl, fun _ _ _ hst => ⟨_, hbk_M_give hst⟩⟩
theorem hbo_136 : hv_BOK 136 := ⟨hb_M_lay, rfl, fun _ _ _ hst => ⟨_, hbk_M_lay hst⟩⟩
theorem hbo_137 : hv_BOK 137 := ⟨hb_M_swap, rfl, fun _ _ _ hst => ⟨_, hbk_M_swap hst⟩⟩
theorem hbo_138 : hv_BOK 138 := ⟨hb_M_pass, rfl, fun _ _ _ hst => ⟨_, hbk_M_pass hst⟩⟩
theorem hbo_139 : hv_BOK 139 := ⟨hb_M_laysShown, rfl, fun _ _ _ hst => ⟨_, hbk_M_laysShown hst⟩⟩
theorem hbo_140 : hv_BOK 140 := ⟨hb_M_shownBy, rfl, fun _ _ _ hst => ⟨_, hbk_M_shownBy hst⟩⟩
theorem hbo_141 : hv_BOK 141 := ⟨hb_M_laysBest, rfl, fun _ _ _ hst => ⟨_, hbk_M_laysBest hst⟩⟩
theorem hbo_142 : hv_BOK 142 := ⟨hb_M_best, rfl, fun _ _ _ hst => ⟨_, hbk_M_best hst⟩⟩
theorem hbo_143 : hv_BOK 143 := ⟨hb_M_compare, rfl, fun _ _ _ hst => ⟨_, hbk_M_compare hst⟩⟩
theorem hbo_144 : hv_BOK 144 := ⟨hb_M_hardByBest, rfl, fun _ _ _ hst => ⟨_, hbk_M_hardByBest hst⟩⟩
theorem hbo_145 : hv_BOK 145 := ⟨hb_M_hide, rfl, fun _ _ _ hst => ⟨_, hbk_M_hide hst⟩⟩
theorem hbo_146 : hv_BOK 146 := ⟨hb_M_sumByBest, rfl, fun _ _ _ hst => ⟨_, hbk_M_sumByBest hst⟩⟩
theorem hbo_147 : hv_BOK 147 := ⟨hb_M_obeysBest, rfl, fun _ _ _ hst => ⟨_, hbk_M_obeysBest hst⟩⟩
theorem hbo_148 : hv_BOK 148 := ⟨hb_M_soft, rfl, fun _ _ _ hst => ⟨_, hbk_M_soft hst⟩⟩
theorem hbo_149 : hv_BOK 149 := ⟨hb_M_triesFair, rfl, fun _ _ _ hst => ⟨_, hbk_M_triesFair hst⟩⟩
theorem hbo_150 : hv_BOK 150 := ⟨hb_M_fair, rfl, fun _ _ _ hst => ⟨_, hbk_M_fair hst⟩⟩
theorem hbo_151 : hv_BOK 151 := ⟨hb_M_isKept, rfl, fun _ _ _ hst => ⟨_, hbk_M_isKept hst⟩⟩
theorem hbo_152 : hv_BOK 152 := ⟨hb_M_wishOf, rfl, fun _ _ _ hst => ⟨_, hbk_M_wishOf hst⟩⟩
theorem hbo_153 : hv_BOK 153 := ⟨hb_M_nextAsker, rfl, fun _ _ _ hst => ⟨_, hbk_M_nextAsker hst⟩⟩
theorem hbo_154 : hv_BOK 154 := ⟨hb_M_wished, rfl, fun _ _ _ hst => ⟨_, hbk_M_wished hst⟩⟩
theorem hbo_155 : hv_BOK 155 := ⟨hb_M_isHarder, rfl, fun _ _ _ hst => ⟨_, hbk_M_isHarder hst⟩⟩
theorem hbo_156 : hv_BOK 156 := ⟨hb_M_swaps, rfl, fun _ _ _ hst => ⟨_, hbk_M_swaps hst⟩⟩
theorem hbo_157 : hv_BOK 157 := ⟨hb_M_kept, rfl, fun _ _ _ hst => ⟨_, hbk_M_kept hst⟩⟩
theorem hbo_158 : hv_BOK 158 := ⟨hb_M_seen, rfl, fun _ _ _ hst => ⟨_, hbk_M_seen hst⟩⟩
theorem hbo_159 : hv_BOK 159 := ⟨hb_M_forget, rfl, fun _ _ _ hst => ⟨_, hbk_M_forget hst⟩⟩
theorem hbo_160 : hv_BOK 160 := ⟨hb_M_canBe, rfl, fun _ _ _ hst => ⟨_, hbk_M_canBe hst⟩⟩
theorem hbo_161 : hv_BOK 161 := ⟨hb_M_who, rfl, fun _ _ _ hst => ⟨_, hbk_M_who hst⟩⟩
theorem hbo_162 : hv_BOK 162 := ⟨hb_M_mostAlike, rfl, fun _ _ _ hst => ⟨_, hbk_M_mostAlike hst⟩⟩
theorem hbo_163 : hv_BOK 163 := ⟨hb_M_look, rfl, fun _ _ _ hst => ⟨_, hbk_M_look hst⟩⟩
theorem hbo_164 : hv_BOK 164 := ⟨hb_M_stopped, rfl, fun _ _ _ hst => ⟨_, hbk_M_stopped hst⟩⟩
theorem hbo_165 : hv_BOK 165 := ⟨hb_M_orders, rfl, fun _ _ _ hst => ⟨_, hbk_M_orders hst⟩⟩
theorem hbo_166 : hv_BOK 166 := ⟨hb_M_goesAlong, rfl, fun _ _ _ hst => ⟨_, hbk_M_goesAlong hst⟩⟩
theorem hbo_167 : hv_BOK 167 := ⟨hb_M_small, rfl, fun _ _ _ hst => ⟨_, hbk_M_small hst⟩⟩
theorem hbo_168 : hv_BOK 168 := ⟨hb_M_obeys, rfl, fun _ _ _ hst => ⟨_, hbk_M_obeys hst⟩⟩
theorem hbo_169 : hv_BOK 169 := ⟨hb_M_runs, rfl, fun _ _ _ hst => ⟨_, hbk_M_runs hst⟩⟩
theorem hbo_170 : hv_BOK 170 := ⟨hb_M_draws, rfl, fun _ _ _ hst => ⟨_, hbk_M_draws hst⟩⟩
theorem hbo_171 : hv_BOK 171 := ⟨hb_M_yearIsDrawn, rfl, fun _ _ _ hst => ⟨_, hbk_M_yearIsDrawn hst⟩⟩
theorem hbo_172 : hv_BOK 172 := ⟨hb_M_years, rfl, fun _ _ _ hst => ⟨_, hbk_M_years hst⟩⟩
theorem hbo_173 : hv_BOK 173 := ⟨hb_M_drawn, rfl, fun _ _ _ hst => ⟨_, hbk_M_drawn hst⟩⟩
theorem hbo_174 : hv_BOK 174 := ⟨hb_M_count, rfl, fun _ _ _ hst => ⟨_, hbk_M_count hst⟩⟩
theorem hbo_175 : hv_BOK 175 := ⟨hb_M_status, rfl, fun _ _ _ hst => ⟨_, hbk_M_status hst⟩⟩
theorem hbo_176 : hv_BOK 176 := ⟨hb_Chooser_init, rfl, fun _ _ _ hst => ⟨_, hbk_Chooser_init hst⟩⟩
theorem hbo_177 : hv_BOK 177 := ⟨hb_Chooser_chosen, rfl, fun _ _ _ hst => ⟨_, hbk_Chooser_chosen hst⟩⟩
theorem hbo_178 : hv_BOK 178 := ⟨hb_Chooser_total, rfl, fun _ _ _ hst => ⟨_, hbk_Chooser_total hst⟩⟩
theorem hbo_179 : hv_BOK 179 := ⟨hb_Chooser_chooseBest, rfl, fun _ _ _ hst => ⟨_, hbk_Chooser_chooseBest hst⟩⟩
theorem hbo_180 : hv_BOK 180 := ⟨hb_Chooser_chooseWeighed, rfl, fun _ _ _ hst => ⟨_, hbk_Chooser_chooseWeighed hst⟩⟩
theorem hbo_181 : hv_BOK 181 := ⟨hb_Chooser_weighShown, rfl, fun _ _ _ hst => ⟨_, hbk_Chooser_weighShown hst⟩⟩
theorem hbo_182 : hv_BOK 182 := ⟨hb_Chooser_worthOf, rfl, fun _ _ _ hst => ⟨_, hbk_Chooser_worthOf hst⟩⟩
theorem hbo_183 : hv_BOK 183 := ⟨hb_Chooser_setWorth, rfl, fun _ _ _ hst => ⟨_, hbk_Chooser_setWorth hst⟩⟩
theorem hbo_184 : hv_BOK 184 := ⟨hb_Chooser_chooseFair, rfl, fun _ _ _ hst => ⟨_, hbk_Chooser_chooseFair hst⟩⟩
theorem hbo_185 : hv_BOK 185 := ⟨hb_Chooser_weighHard, rfl, fun _ _ _ hst => ⟨_, hbk_Chooser_weighHard hst⟩⟩
theorem hbo_186 : hv_BOK 186 := ⟨hb_Chooser_fillMost, rfl, fun _ _ _ hst => ⟨_, hbk_Chooser_fillMost hst⟩⟩
theorem hbo_187 : hv_BOK 187 := ⟨hb_Chooser_mostFrom, rfl, fun _ _ _ hst => ⟨_, hbk_Chooser_mostFrom hst⟩⟩
theorem hbo_188 : hv_BOK 188 := ⟨hb_Chooser_mostWith, rfl, fun _ _ _ hst => ⟨_, hbk_Chooser_mostWith hst⟩⟩
theorem hbo_189 : hv_BOK 189 := ⟨hb_Chooser_fillRow, rfl, fun _ _ _ hst => ⟨_, hbk_Chooser_fillRow hst⟩⟩
theorem hbo_190 : hv_BOK 190 := ⟨hb_Chooser_chooseWished, rfl, fun _ _ _ hst => ⟨_, hbk_Chooser_chooseWished hst⟩⟩
theorem hbo_191 : hv_BOK 191 := ⟨hb_Chooser_lowestToAsk, rfl, fun _ _ _ hst => ⟨_, hbk_Chooser_lowestToAsk hst⟩⟩
theorem hbo_192 : hv_BOK 192 := ⟨hb_Chooser_nextWish, rfl, fun _ _ _ hst => ⟨_, hbk_Chooser_nextWish hst⟩⟩
theorem hbo_193 : hv_BOK 193 := ⟨hb_Chooser_askFor, rfl, fun _ _ _ hst => ⟨_, hbk_Chooser_askFor hst⟩⟩
theorem hbo_194 : hv_BOK 194 := ⟨hb_Code_init_0, rfl, fun _ _ _ hst => ⟨_, hbk_Code_init_0 hst⟩⟩
theorem hbo_195 : hv_BOK 195 := ⟨hb_Code_init_1, rfl, fun _ _ _ hst => ⟨_, hbk_Code_init_1 hst⟩⟩
theorem hbo_196 : hv_BOK 196 := ⟨hb_Code_clear, rfl, fun _ _ _ hst => ⟨_, hbk_Code_clear hst⟩⟩
theorem hbo_197 : hv_BOK 197 := ⟨hb_Code_addClause, rfl, fun _ _ _ hst => ⟨_, hbk_Code_addClause hst⟩⟩
theorem hbo_198 : hv_BOK 198 := ⟨hb_Code_mark, rfl, fun _ _ _ hst => ⟨_, hbk_Code_mark hst⟩⟩
theorem hbo_199 : hv_BOK 199 := ⟨hb_Code_marked, rfl, fun _ _ _ hst => ⟨_, hbk_Code_marked hst⟩⟩
theorem hbo_200 : hv_BOK 200 := ⟨hb_Code_addStep, rfl, fun _ _ _ hst => ⟨_, hbk_Code_addStep hst⟩⟩
theorem hbo_201 : hv_BOK 201 := ⟨hb_Code_leadHere, rfl, fun _ _ _ hst => ⟨_, hbk_Code_leadHere hst⟩⟩
theorem hbo_202 : hv_BOK 202 := ⟨hb_Deeds_init, rfl, fun _ _ _ hst => ⟨_, hbk_Deeds_init hst⟩⟩
theorem hbo_203 : hv_BOK 203 := ⟨hb_Deeds_giveVow, rfl, fun _ _ _ hst => ⟨_, hbk_Deeds_giveVow hst⟩⟩
theorem hbo_204 : hv_BOK 204 := ⟨hb_Deeds_layDown, rfl, fun _ _ _ hst => ⟨_, hbk_Deeds_layDown hst⟩⟩
theorem hbo_205 : hv_BOK 205 := ⟨hb_Deeds_swapVows, rfl, fun _ _ _ hst => ⟨_, hbk_Deeds_swapVows hst⟩⟩
theorem hbo_206 : hv_BOK 206 := ⟨hb_Deeds_passYear, rfl, fun _ _ _ hst => ⟨_, hbk_Deeds_passYear hst⟩⟩
theorem hbo_207 : hv_BOK 207 := ⟨hb_Deeds_takeBack, rfl, fun _ _ _ hst => ⟨_, hbk_Deeds_takeBack hst⟩⟩
theorem hbo_208 : hv_BOK 208 := ⟨hb_Deeds_run, rfl, fun _ _ _ hst => ⟨_, hbk_Deeds_run hst⟩⟩
theorem hbo_209 : hv_BOK 209 := ⟨hb_Deeds_isWanted, rfl, fun _ _ _ hst => ⟨_, hbk_Deeds_isWanted hst⟩⟩
theorem hbo_210 : hv_BOK 210 := ⟨hb_Deeds_carryOut, rfl, fun _ _ _ hst => ⟨_, hbk_Deeds_carryOut hst⟩⟩
theorem hbo_211 : hv_BOK 211 := ⟨hb_Deeds_setWords, rfl, fun _ _ _ hst => ⟨_, hbk_Deeds_setWords hst⟩⟩
theorem hbo_212 : hv_BOK 212 := ⟨hb_House_init, rfl, fun _ _ _ hst => ⟨_, hbk_House_init hst⟩⟩
theorem hbo_213 : hv_BOK 213 := ⟨hb_House_monks, rfl, fun _ _ _ hst => ⟨_, hbk_House_monks hst⟩⟩
theorem hbo_214 : hv_BOK 214 := ⟨hb_House_isMonk, rfl, fun _ _ _ hst => ⟨_, hbk_House_isMonk hst⟩⟩
theorem hbo_215 : hv_BOK 215 := ⟨hb_House_addMonk, rfl, fun _ _ _ hst => ⟨_, hbk_House_addMonk hst⟩⟩
theorem hbo_216 : hv_BOK 216 := ⟨hb_House_hardOf, rfl, fun _ _ _ hst => ⟨_, hbk_House_hardOf hst⟩⟩
theorem hbo_217 : hv_BOK 217 := ⟨hb_House_setHard, rfl, fun _ _ _ hst => ⟨_, hbk_House_setHard hst⟩⟩
theorem hbo_218 : hv_BOK 218 := ⟨hb_House_vowOf, rfl, fun _ _ _ hst => ⟨_, hbk_House_vowOf hst⟩⟩
theorem hbo_219 : hv_BOK 219 := ⟨hb_House_setVow, rfl, fun _ _ _ hst => ⟨_, hbk_House_setVow hst⟩⟩
theorem hbo_220 : hv_BOK 220 := ⟨hb_House_heldOf, rfl, fun _ _ _ hst => ⟨_, hbk_House_heldOf hst⟩⟩
theorem hbo_221 : hv_BOK 221 := ⟨hb_House_holdOneMore, rfl, fun _ _ _ hst => ⟨_, hbk_House_holdOneMore hst⟩⟩
theorem hbo_222 : hv_BOK 222 := ⟨hb_House_isHad, rfl, fun _ _ _ hst => ⟨_, hbk_House_isHad hst⟩⟩
theorem hbo_223 : hv_BOK 223 := ⟨hb_House_given, rfl, fun _ _ _ hst => ⟨_, hbk_House_given hst⟩⟩
theorem hbo_224 : hv_BOK 224 := ⟨hb_House_hardOfAllHad, rfl, fun _ _ _ hst => ⟨_, hbk_House_hardOfAllHad hst⟩⟩
theorem hbo_225 : hv_BOK 225 := ⟨hb_House_year, rfl, fun _ _ _ hst => ⟨_, hbk_House_year hst⟩⟩
theorem hbo_226 : hv_BOK 226 := ⟨hb_House_setYear, rfl, fun _ _ _ hst => ⟨_, hbk_House_setYear hst⟩⟩
theorem hbo_227 : hv_BOK 227 := ⟨hb_House_mood, rfl, fun _ _ _ hst => ⟨_, hbk_House_mood hst⟩⟩
theorem hbo_228 : hv_BOK 228 := ⟨hb_House_setMood, rfl, fun _ _ _ hst => ⟨_, hbk_House_setMood hst⟩⟩
theorem hbo_229 : hv_BOK 229 := ⟨hb_House_copyFrom, rfl, fun _ _ _ hst => ⟨_, hbk_House_copyFrom hst⟩⟩
theorem hbo_230 : hv_BOK 230 := ⟨hb_Machine_init, rfl, fun _ _ _ hst => ⟨_, hbk_Machine_init hst⟩⟩
theorem hbo_231 : hv_BOK 231 := ⟨hb_Machine_told, rfl, fun _ _ _ hst => ⟨_, hbk_Machine_told hst⟩⟩
theorem hbo_232 : hv_BOK 232 := ⟨hb_Machine_works, rfl, fun _ _ _ hst => ⟨_, hbk_Machine_works hst⟩⟩
theorem hbo_233 : hv_BOK 233 := ⟨hb_Machine_endsWell, rfl, fun _ _ _ hst => ⟨_, hbk_Machine_endsWell hst⟩⟩
theorem hbo_234 : hv_BOK 234 := ⟨hb_Machine_push, rfl, fun _ _ _ hst => ⟨_, hbk_Machine_push hst⟩⟩
theorem hbo_235 : hv_BOK 235 := ⟨hb_Machine_turn, rfl, fun _ _ _ hst => ⟨_, hbk_Machine_turn hst⟩⟩
theorem hbo_236 : hv_BOK 236 := ⟨hb_Machine_isSettled, rfl, fun _ _ _ hst => ⟨_, hbk_Machine_isSettled hst⟩⟩
theorem hbo_237 : hv_BOK 237 := ⟨hb_Machine_combines, rfl, fun _ _ _ hst => ⟨_, hbk_Machine_combines hst⟩⟩
theorem hbo_238 : hv_BOK 238 := ⟨hb_Paper_init, rfl, fun _ _ _ hst => ⟨_, hbk_Paper_init hst⟩⟩
theorem hbo_239 : hv_BOK 239 := ⟨hb_Paper_hidden, rfl, fun _ _ _ hst => ⟨_, hbk_Paper_hidden hst⟩⟩
theorem hbo_240 : hv_BOK 240 := ⟨hb_Paper_hardOfChosen, rfl, fun _ _ _ hst => ⟨_, hbk_Paper_hardOfChosen hst⟩⟩
theorem hbo_241 : hv_BOK 241 := ⟨hb_Paper_firstSoftYear, rfl, fun _ _ _ hst => ⟨_, hbk_Paper_firstSoftYear hst⟩⟩
theorem hbo_242 : hv_BOK 242 := ⟨hb_Paper_takeSheet, rfl, fun _ _ _ hst => ⟨_, hbk_Paper_takeSheet hst⟩⟩
theorem hbo_243 : hv_BOK 243 := ⟨hb_Paper_takeChosen, rfl, fun _ _ _ hst => ⟨_, hbk_Paper_takeChosen hst⟩⟩
theorem hbo_244 : hv_BOK 244 := ⟨hb_Paper_chanceKept, rfl, fun _ _ _ hst => ⟨_, hbk_Paper_chanceKept hst⟩⟩
theorem hbo_245 : hv_BOK 245 := ⟨hb_Paper_possibleMonks, rfl, fun _ _ _ hst => ⟨_, hbk_Paper_possibleMonks hst⟩⟩
theorem hbo_246 : hv_BOK 246 := ⟨hb_Paper_showsAllSeen, rfl, fun _ _ _ hst => ⟨_, hbk_Paper_showsAllSeen hst⟩⟩
theorem hbo_247 : hv_BOK 247 := ⟨hb_Paper_nextToSee, rfl, fun _ _ _ hst => ⟨_, hbk_Paper_nextToSee hst⟩⟩
theorem hbo_248 : hv_BOK 248 := ⟨hb_Paper_mostAlike, rfl, fun _ _ _ hst => ⟨_, hbk_Paper_mostAlike hst⟩⟩
theorem hbo_249 : hv_BOK 249 := ⟨hb_Paper_drawYears, rfl, fun _ _ _ hst => ⟨_, hbk_Paper_drawYears hst⟩⟩
theorem hbo_250 : hv_BOK 250 := ⟨hb_Paper_draw, rfl, fun _ _ _ hst => ⟨_, hbk_Paper_draw hst⟩⟩
theorem hbo_251 : hv_BOK 251 := ⟨hb_Reader_init, rfl, fun _ _ _ hst => ⟨_, hbk_Reader_init hst⟩⟩
theorem hbo_252 : hv_BOK 252 := ⟨hb_Reader_faultOf, rfl, fun _ _ _ hst => ⟨_, hbk_Reader_faultOf hst⟩⟩
theorem hbo_253 : hv_BOK 253 := ⟨hb_Reader_readsRule, rfl, fun _ _ _ hst => ⟨_, hbk_Reader_readsRule hst⟩⟩
theorem hbo_254 : hv_BOK 254 := ⟨hb_Reader_readsOrder, rfl, fun _ _ _ hst => ⟨_, hbk_Reader_readsOrder hst⟩⟩
theorem hbo_255 : hv_BOK 255 := ⟨hb_Reader_readsMarkedSum, rfl, fun _ _ _ hst => ⟨_, hbk_Reader_readsMarkedSum hst⟩⟩
theorem hbo_256 : hv_BOK 256 := ⟨hb_Reader_readsTimes, rfl, fun _ _ _ hst => ⟨_, hbk_Reader_readsTimes hst⟩⟩
theorem hbo_257 : hv_BOK 257 := ⟨hb_Reader_readsCondition, rfl, fun _ _ _ hst => ⟨_, hbk_Reader_readsCondition hst⟩⟩
theorem hbo_258 : hv_BOK 258 := ⟨hb_Reader_readsTest, rfl, fun _ _ _ hst => ⟨_, hbk_Reader_readsTest hst⟩⟩
theorem hbo_259 : hv_BOK 259 := ⟨hb_Reader_readsBoth, rfl, fun _ _ _ hst => ⟨_, hbk_Reader_readsBoth hst⟩⟩
theorem hbo_260 : hv_BOK 260 := ⟨hb_Reader_readsPlain, rfl, fun _ _ _ hst => ⟨_, hbk_Reader_readsPlain hst⟩⟩
theorem hbo_261 : hv_BOK 261 := ⟨hb_Reader_readsInner, rfl, fun _ _ _ hst => ⟨_, hbk_Reader_readsInner hst⟩⟩
theorem hbo_262 : hv_BOK 262 := ⟨hb_Reader_readsComparison, rfl, fun _ _ _ hst => ⟨_, hbk_Reader_readsComparison hst⟩⟩
theorem hbo_263 : hv_BOK 263 := ⟨hb_Reader_readsSum, rfl, fun _ _ _ hst => ⟨_, hbk_Reader_readsSum hst⟩⟩
theorem hbo_264 : hv_BOK 264 := ⟨hb_Reader_readsTerm, rfl, fun _ _ _ hst => ⟨_, hbk_Reader_readsTerm hst⟩⟩
theorem hbo_265 : hv_BOK 265 := ⟨hb_Reader_readsPart, rfl, fun _ _ _ hst => ⟨_, hbk_Reader_readsPart hst⟩⟩
theorem hbo_266 : hv_BOK 266 := ⟨hb_Reader_readsWord, rfl, fun _ _ _ hst => ⟨_, hbk_Reader_readsWord hst⟩⟩
theorem hbo_267 : hv_BOK 267 := ⟨hb_Reader_takes, rfl, fun _ _ _ hst => ⟨_, hbk_Reader_takes hst⟩⟩
theorem hbo_268 : hv_BOK 268 := ⟨hb_Reader_takesWord, rfl, fun _ _ _ hst => ⟨_, hbk_Reader_takesWord hst⟩⟩
theorem hbo_269 : hv_BOK 269 := ⟨hb_Reader_placeIn, rfl, fun _ _ _ hst => ⟨_, hbk_Reader_placeIn hst⟩⟩
theorem hbo_270 : hv_BOK 270 := ⟨hb_Reader_step, rfl, fun _ _ _ hst => ⟨_, hbk_Reader_step hst⟩⟩
theorem hbo_271 : hv_BOK 271 := ⟨hb_Reader_isLetter, rfl, fun _ _ _ hst => ⟨_, hbk_Reader_isLetter hst⟩⟩
theorem hbo_272 : hv_BOK 272 := ⟨hb_Reader_isDigit, rfl, fun _ _ _ hst => ⟨_, hbk_Reader_isDigit hst⟩⟩
theorem hbo_273 : hv_BOK 273 := ⟨hb_Rules_init, rfl, fun _ _ _ hst => ⟨_, hbk_Rules_init hst⟩⟩
theorem hbo_274 : hv_BOK 274 := ⟨hb_Rules_take, rfl, fun _ _ _ hst => ⟨_, hbk_Rules_take hst⟩⟩
theorem hbo_275 : hv_BOK 275 := ⟨hb_Rules_shownBy, rfl, fun _ _ _ hst => ⟨_, hbk_Rules_shownBy hst⟩⟩
theorem hbo_276 : hv_BOK 276 := ⟨hb_Rules_breaksOf, rfl, fun _ _ _ hst => ⟨_, hbk_Rules_breaksOf hst⟩⟩
theorem hbo_277 : hv_BOK 277 := ⟨hb_Rules_fallOf, rfl, fun _ _ _ hst => ⟨_, hbk_Rules_fallOf hst⟩⟩
theorem hbo_278 : hv_BOK 278 := ⟨hb_Rules_riseOf, rfl, fun _ _ _ hst => ⟨_, hbk_Rules_riseOf hst⟩⟩
theorem hbo_279 : hv_BOK 279 := ⟨hb_Rules_isBarred, rfl, fun _ _ _ hst => ⟨_, hbk_Rules_isBarred hst⟩⟩
theorem hbo_280 : hv_BOK 280 := ⟨hb_Rules_told, rfl, fun _ _ _ hst => ⟨_, hbk_Rules_told hst⟩⟩
theorem hbo_281 : hv_BOK 281 := ⟨hb_Rules_toldWithout, rfl, fun _ _ _ hst => ⟨_, hbk_Rules_toldWithout hst⟩⟩
theorem hbo_282 : hv_BOK 282 := ⟨hb_Rules_setWords, rfl, fun _ _ _ hst => ⟨_, hbk_Rules_setWords hst⟩⟩
theorem hbo_283 : hv_BOK 283 := ⟨hb_Rules_refusalToGive, rfl, fun _ _ _ hst => ⟨_, hbk_Rules_refusalToGive hst⟩⟩
theorem hbo_284 : hv_BOK 284 := ⟨hb_Rules_refusalToSwap, rfl, fun _ _ _ hst => ⟨_, hbk_Rules_refusalToSwap hst⟩⟩
theorem hbo_285 : hv_BOK 285 := ⟨hb_Rules_isHarderSwapped, rfl, fun _ _ _ hst => ⟨_, hbk_Rules_isHarderSwapped hst⟩⟩
theorem hbo_286 : hv_BOK 286 := ⟨hb_Rules_passYear, rfl, fun _ _ _ hst => ⟨_, hbk_Rules_passYear hst⟩⟩
theorem hbo_287 : hv_BOK 287 := ⟨hb_Rules_passYearOf, rfl, fun _ _ _ hst => ⟨_, hbk_Rules_passYearOf hst⟩⟩
theorem hbo_288 : hv_BOK 288 := ⟨hb_Trail_init, rfl, fun _ _ _ hst => ⟨_, hbk_Trail_init hst⟩⟩
theorem hbo_289 : hv_BOK 289 := ⟨hb_Trail_length, rfl, fun _ _ _ hst => ⟨_, hbk_Trail_length hst⟩⟩
theorem hbo_290 : hv_BOK 290 := ⟨hb_Trail_clear, rfl, fun _ _ _ hst => ⟨_, hbk_Trail_clear hst⟩⟩
theorem hbo_291 : hv_BOK 291 := ⟨hb_Trail_keep, rfl, fun _ _ _ hst => ⟨_, hbk_Trail_keep hst⟩⟩
theorem hbo_292 : hv_BOK 292 := ⟨hb_Trail_takeBack, rfl, fun _ _ _ hst => ⟨_, hbk_Trail_takeBack hst⟩⟩
theorem hbo_293 : hv_BOK 293 := ⟨hb_Trail_copyFrom, rfl, fun _ _ _ hst => ⟨_, hbk_Trail_copyFrom hst⟩⟩
theorem hbo_294 : hv_BOK 294 := ⟨hb_Whole_init, rfl, fun _ _ _ hst => ⟨_, hbk_Whole_init hst⟩⟩
theorem hbo_295 : hv_BOK 295 := ⟨hb_Whole_isLaw, rfl, fun _ _ _ hst => ⟨_, hbk_Whole_isLaw hst⟩⟩
theorem hbo_296 : hv_BOK 296 := ⟨hb_Whole_lawOf, rfl, fun _ _ _ hst => ⟨_, hbk_Whole_lawOf hst⟩⟩
theorem hbo_297 : hv_BOK 297 := ⟨hb_Whole_addLaw, rfl, fun _ _ _ hst => ⟨_, hbk_Whole_addLaw hst⟩⟩
theorem hbo_298 : hv_BOK 298 := ⟨hb_Whole_addSeen, rfl, fun _ _ _ hst => ⟨_, hbk_Whole_addSeen hst⟩⟩
theorem hbo_299 : hv_BOK 299 := ⟨hb_Whole_copyFrom, rfl, fun _ _ _ hst => ⟨_, hbk_Whole_copyFrom hst⟩⟩
theorem hbo_300 : hv_BOK 300 := ⟨hb_Integer_bitCount, rfl, fun _ _ _ hst => ⟨_, hbk_Integer_bitCount hst⟩⟩
theorem hbo_301 : hv_BOK 301 := ⟨hb_Math_max, rfl, fun _ _ _ hst => ⟨_, hbk_Math_max hst⟩⟩
theorem hbo_302 : hv_BOK 302 := ⟨hb_Math_min, rfl, fun _ _ _ hst => ⟨_, hbk_Math_min hst⟩⟩
theorem hbo_303 : hv_BOK 303 := ⟨hb_Arrays_copyOf, rfl, fun _ _ _ hst => ⟨_, hbk_Arrays_copyOf hst⟩⟩
theorem hbo_304 : hv_BOK 304 := ⟨hb_Arrays_fill, rfl, fun _ _ _ hst => ⟨_, hbk_Arrays_fill hst⟩⟩
theorem hv_bok {j : Nat} (h : j < 305) : hv_BOK j := by
  by_cases h0_305 : j < 152
  ·
    by_cases h0_152 : j < 76
    ·
      by_cases h0_76 : j < 38
      ·
        by_cases h0_38 : j < 19
        ·
          by_cases h0_19 : j < 9
          ·
            by_cases h0_9 : j < 4
            ·
              by_cases h0_4 : j < 2
              ·
                by_cases h0_2 : j < 1
                ·
                  have : j = 0 := by omega
                  subst this
                  exact hbo_0
                ·
                  have : j = 1 := by omega
                  subst this
                  exact hbo_1
              ·
                by_cases h2_4 : j < 3
                ·
                  have : j = 2 := by omega
                  subst this
                  exact hbo_2
                ·
                  have : j = 3 := by omega
                  subst this
                  exact hbo_3
            ·
              by_cases h4_9 : j < 6
              ·
                by_cases h4_6 : j < 5
                ·
                  have : j = 4 := by omega
                  subst this
                  exact hbo_4
                ·
                  have : j = 5 := by omega
                  subst this
                  exact hbo_5
              ·
                by_cases h6_9 : j < 7
                ·
                  have : j = 6 := by omega
                  subst this
                  exact hbo_6
                ·
                  by_cases h7_9 : j < 8
                  ·
                    have : j = 7 := by omega
                    subst this
                    exact hbo_7
                  ·
                    have : j = 8 := by omega
                    subst this
                    exact hbo_8
          ·
            by_cases h9_19 : j < 14
            ·
              by_cases h9_14 : j < 11
              ·
                by_cases h9_11 : j < 10
                ·
                  have : j = 9 := by omega
                  subst this
                  exact hbo_9
                ·
                  have : j = 10 := by omega
                  subst this
                  exact hbo_10
              ·
                by_cases h11_14 : j < 12
                ·
                  have : j = 11 := by omega
                  subst this
                  exact hbo_11
                ·
                  by_cases h12_14 : j < 13
                  ·
                    have : j = 12 := by omega
                    subst this
                    exact hbo_12
                  ·
                    have : j = 13 := by omega
                    subst this
                    exact hbo_13
            ·
              by_cases h14_19 : j < 16
              ·
                by_cases h14_16 : j < 15
                ·
                  have : j = 14 := by omega
                  subst this
                  exact hbo_14
                ·
                  have : j = 15 := by omega
                  subst this
                  exact hbo_15
              ·
                by_cases h16_19 : j < 17
                ·
                  have : j = 16 := by omega
                  subst this
                  exact hbo_16
                ·
                  by_cases h17_19 : j < 18
                  ·
                    have : j = 17 := by omega
                    subst this
                    exact hbo_17
                  ·
                    have : j = 18 := by omega
                    subst this
                    exact hbo_18
        ·
          by_cases h19_38 : j < 28
          ·
            by_cases h19_28 : j < 23
            ·
              by_cases h19_23 : j < 21
              ·
                by_cases h19_21 : j < 20
                ·
                  have : j = 19 := by omega
                  subst this
                  exact hbo_19
                ·
                  have : j = 20 := by omega
                  subst this
                  exact hbo_20
              ·
                by_cases h21_23 : j < 22
                ·
                  have : j = 21 := by omega
                  subst this
                  exact hbo_21
                ·
                  have : j = 22 := by omega
                  subst this
                  exact hbo_22
            ·
              by_cases h23_28 : j < 25
              ·
                by_cases h23_25 : j < 24
                ·
                  have : j = 23 := by omega
                  subst this
                  exact hbo_23
                ·
                  have : j = 24 := by omega
                  subst this
                  exact hbo_24
              ·
                by_cases h25_28 : j < 26
                ·
                  have : j = 25 := by omega
                  subst this
                  exact hbo_25
                ·
                  by_cases h26_28 : j < 27
                  ·
                    have : j = 26 := by omega
                    subst this
                    exact hbo_26
                  ·
                    have : j = 27 := by omega
                    subst this
                    exact hbo_27
          ·
            by_cases h28_38 : j < 33
            ·
              by_cases h28_33 : j < 30
              ·
                by_cases h28_30 : j < 29
                ·
                  have : j = 28 := by omega
                  subst this
                  exact hbo_28
                ·
                  have : j = 29 := by omega
                  subst this
                  exact hbo_29
              ·
                by_cases h30_33 : j < 31
                ·
                  have : j = 30 := by omega
                  subst this
                  exact hbo_30
                ·
                  by_cases h31_33 : j < 32
                  ·
                    have : j = 31 := by omega
                    subst this
                    exact hbo_31
                  ·
                    have : j = 32 := by omega
                    subst this
                    exact hbo_32
            ·
              by_cases h33_38 : j < 35
              ·
                by_cases h33_35 : j < 34
                ·
                  have : j = 33 := by omega
                  subst this
                  exact hbo_33
                ·
                  have : j = 34 := by omega
                  subst this
                  exact hbo_34
              ·
                by_cases h35_38 : j < 36
                ·
                  have : j = 35 := by omega
                  subst this
                  exact hbo_35
                ·
                  by_cases h36_38 : j < 37
                  ·
                    have : j = 36 := by omega
                    subst this
                    exact hbo_36
                  ·
                    have : j = 37 := by omega
                    subst this
                    exact hbo_37
      ·
        by_cases h38_76 : j < 57
        ·
          by_cases h38_57 : j < 47
          ·
            by_cases h38_47 : j < 42
            ·
              by_cases h38_42 : j < 40
              ·
                by_cases h38_40 : j < 39
                ·
                  have : j = 38 := by omega
                  subst this
                  exact hbo_38
                ·
                  have : j = 39 := by omega
                  subst this
                  exact hbo_39
              ·
                by_cases h40_42 : j < 41
                ·
                  have : j = 40 := by omega
                  subst this
                  exact hbo_40
                ·
                  have : j = 41 := by omega
                  subst this
                  exact hbo_41
            ·
              by_cases h42_47 : j < 44
              ·
                by_cases h42_44 : j < 43
                ·
                  have : j = 42 := by omega
                  subst this
                  exact hbo_42
                ·
                  have : j = 43 := by omega
                  subst this
                  exact hbo_43
              ·
                by_cases h44_47 : j < 45
                ·
                  have : j = 44 := by omega
                  subst this
                  exact hbo_44
                ·
                  by_cases h45_47 : j < 46
                  ·
                    have : j = 45 := by omega
                    subst this
                    exact hbo_45
                  ·
                    have : j = 46 := by omega
                    subst this
                    exact hbo_46
          ·
            by_cases h47_57 : j < 52
            ·
              by_cases h47_52 : j < 49
              ·
                by_cases h47_49 : j < 48
                ·
                  have : j = 47 := by omega
                  subst this
                  exact hbo_47
                ·
                  have : j = 48 := by omega
                  subst this
                  exact hbo_48
              ·
                by_cases h49_52 : j < 50
                ·
                  have : j = 49 := by omega
                  subst this
                  exact hbo_49
                ·
                  by_cases h50_52 : j < 51
                  ·
                    have : j = 50 := by omega
                    subst this
                    exact hbo_50
                  ·
                    have : j = 51 := by omega
                    subst this
                    exact hbo_51
            ·
              by_cases h52_57 : j < 54
              ·
                by_cases h52_54 : j < 53
                ·
                  have : j = 52 := by omega
                  subst this
                  exact hbo_52
                ·
                  have : j = 53 := by omega
                  subst this
                  exact hbo_53
              ·
                by_cases h54_57 : j < 55
                ·
                  have : j = 54 := by omega
                  subst this
                  exact hbo_54
                ·
                  by_cases h55_57 : j < 56
                  ·
                    have : j = 55 := by omega
                    subst this
                    exact hbo_55
                  ·
                    have : j = 56 := by omega
                    subst this
                    exact hbo_56
        ·
          by_cases h57_76 : j < 66
          ·
            by_cases h57_66 : j < 61
            ·
              by_cases h57_61 : j < 59
              ·
                by_cases h57_59 : j < 58
                ·
                  have : j = 57 := by omega
                  subst this
                  exact hbo_57
                ·
                  have : j = 58 := by omega
                  subst this
                  exact hbo_58
              ·
                by_cases h59_61 : j < 60
                ·
                  have : j = 59 := by omega
                  subst this
                  exact hbo_59
                ·
                  have : j = 60 := by omega
                  subst this
                  exact hbo_60
            ·
              by_cases h61_66 : j < 63
              ·
                by_cases h61_63 : j < 62
                ·
                  have : j = 61 := by omega
                  subst this
                  exact hbo_61
                ·
                  have : j = 62 := by omega
                  subst this
                  exact hbo_62
              ·
                by_cases h63_66 : j < 64
                ·
                  have : j = 63 := by omega
                  subst this
                  exact hbo_63
                ·
                  by_cases h64_66 : j < 65
                  ·
                    have : j = 64 := by omega
                    subst this
                    exact hbo_64
                  ·
                    have : j = 65 := by omega
                    subst this
                    exact hbo_65
          ·
            by_cases h66_76 : j < 71
            ·
              by_cases h66_71 : j < 68
              ·
                by_cases h66_68 : j < 67
                ·
                  have : j = 66 := by omega
                  subst this
                  exact hbo_66
                ·
                  have : j = 67 := by omega
                  subst this
                  exact hbo_67
              ·
                by_cases h68_71 : j < 69
                ·
                  have : j = 68 := by omega
                  subst this
                  exact hbo_68
                ·
                  by_cases h69_71 : j < 70
                  ·
                    have : j = 69 := by omega
                    subst this
                    exact hbo_69
                  ·
                    have : j = 70 := by omega
                    subst this
                    exact hbo_70
            ·
              by_cases h71_76 : j < 73
              ·
                by_cases h71_73 : j < 72
                ·
                  have : j = 71 := by omega
                  subst this
                  exact hbo_71
                ·
                  have : j = 72 := by omega
                  subst this
                  exact hbo_72
              ·
                by_cases h73_76 : j < 74
                ·
                  have : j = 73 := by omega
                  subst this
                  exact hbo_73
                ·
                  by_cases h74_76 : j < 75
                  ·
                    have : j = 74 := by omega
                    subst this
                    exact hbo_74
                  ·
                    have : j = 75 := by omega
                    subst this
                    exact hbo_75
    ·
      by_cases h76_152 : j < 114
      ·
        by_cases h76_114 : j < 95
        ·
          by_cases h76_95 : j < 85
          ·
            by_cases h76_85 : j < 80
            ·
              by_cases h76_80 : j < 78
              ·
                by_cases h76_78 : j < 77
                ·
                  have : j = 76 := by omega
                  subst this
                  exact hbo_76
                ·
                  have : j = 77 := by omega
                  subst this
                  exact hbo_77
              ·
                by_cases h78_80 : j < 79
                ·
                  have : j = 78 := by omega
                  subst this
                  exact hbo_78
                ·
                  have : j = 79 := by omega
                  subst this
                  exact hbo_79
            ·
              by_cases h80_85 : j < 82
              ·
                by_cases h80_82 : j < 81
                ·
                  have : j = 80 := by omega
                  subst this
                  exact hbo_80
                ·
                  have : j = 81 := by omega
                  subst this
                  exact hbo_81
              ·
                by_cases h82_85 : j < 83
                ·
                  have : j = 82 := by omega
                  subst this
                  exact hbo_82
                ·
                  by_cases h83_85 : j < 84
                  ·
                    have : j = 83 := by omega
                    subst this
                    exact hbo_83
                  ·
                    have : j = 84 := by omega
                    subst this
                    exact hbo_84
          ·
            by_cases h85_95 : j < 90
            ·
              by_cases h85_90 : j < 87
              ·
                by_cases h85_87 : j < 86
                ·
                  have : j = 85 := by omega
                  subst this
                  exact hbo_85
                ·
                  have : j = 86 := by omega
                  subst this
                  exact hbo_86
              ·
                by_cases h87_90 : j < 88
                ·
                  have : j = 87 := by omega
                  subst this
                  exact hbo_87
                ·
                  by_cases h88_90 : j < 89
                  ·
                    have : j = 88 := by omega
                    subst this
                    exact hbo_88
                  ·
                    have : j = 89 := by omega
                    subst this
                    exact hbo_89
            ·
              by_cases h90_95 : j < 92
              ·
                by_cases h90_92 : j < 91
                ·
                  have : j = 90 := by omega
                  subst this
                  exact hbo_90
                ·
                  have : j = 91 := by omega
                  subst this
                  exact hbo_91
              ·
                by_cases h92_95 : j < 93
                ·
                  have : j = 92 := by omega
                  subst this
                  exact hbo_92
                ·
                  by_cases h93_95 : j < 94
                  ·
                    have : j = 93 := by omega
                    subst this
                    exact hbo_93
                  ·
                    have : j = 94 := by omega
                    subst this
                    exact hbo_94
        ·
          by_cases h95_114 : j < 104
          ·
            by_cases h95_104 : j < 99
            ·
              by_cases h95_99 : j < 97
              ·
                by_cases h95_97 : j < 96
                ·
                  have : j = 95 := by omega
                  subst this
                  exact hbo_95
                ·
                  have : j = 96 := by omega
                  subst this
                  exact hbo_96
              ·
                by_cases h97_99 : j < 98
                ·
                  have : j = 97 := by omega
                  subst this
                  exact hbo_97
                ·
                  have : j = 98 := by omega
                  subst this
                  exact hbo_98
            ·
              by_cases h99_104 : j < 101
              ·
                by_cases h99_101 : j < 100
                ·
                  have : j = 99 := by omega
                  subst this
                  exact hbo_99
                ·
                  have : j = 100 := by omega
                  subst this
                  exact hbo_100
              ·
                by_cases h101_104 : j < 102
                ·
                  have : j = 101 := by omega
                  subst this
                  exact hbo_101
                ·
                  by_cases h102_104 : j < 103
                  ·
                    have : j = 102 := by omega
                    subst this
                    exact hbo_102
                  ·
                    have : j = 103 := by omega
                    subst this
                    exact hbo_103
          ·
            by_cases h104_114 : j < 109
            ·
              by_cases h104_109 : j < 106
              ·
                by_cases h104_106 : j < 105
                ·
                  have : j = 104 := by omega
                  subst this
                  exact hbo_104
                ·
                  have : j = 105 := by omega
                  subst this
                  exact hbo_105
              ·
                by_cases h106_109 : j < 107
                ·
                  have : j = 106 := by omega
                  subst this
                  exact hbo_106
                ·
                  by_cases h107_109 : j < 108
                  ·
                    have : j = 107 := by omega
                    subst this
                    exact hbo_107
                  ·
                    have : j = 108 := by omega
                    subst this
                    exact hbo_108
            ·
              by_cases h109_114 : j < 111
              ·
                by_cases h109_111 : j < 110
                ·
                  have : j = 109 := by omega
                  subst this
                  exact hbo_109
                ·
                  have : j = 110 := by omega
                  subst this
                  exact hbo_110
              ·
                by_cases h111_114 : j < 112
                ·
                  have : j = 111 := by omega
                  subst this
                  exact hbo_111
                ·
                  by_cases h112_114 : j < 113
                  ·
                    have : j = 112 := by omega
                    subst this
                    exact hbo_112
                  ·
                    have : j = 113 := by omega
                    subst this
                    exact hbo_113
      ·
        by_cases h114_152 : j < 133
        ·
          by_cases h114_133 : j < 123
          ·
            by_cases h114_123 : j < 118
            ·
              by_cases h114_118 : j < 116
              ·
                by_cases h114_116 : j < 115
                ·
                  have : j = 114 := by omega
                  subst this
                  exact hbo_114
                ·
                  have : j = 115 := by omega
                  subst this
                  exact hbo_115
              ·
                by_cases h116_118 : j < 117
                ·
                  have : j = 116 := by omega
                  subst this
                  exact hbo_116
                ·
                  have : j = 117 := by omega
                  subst this
                  exact hbo_117
            ·
              by_cases h118_123 : j < 120
              ·
                by_cases h118_120 : j < 119
                ·
                  have : j = 118 := by omega
                  subst this
                  exact hbo_118
                ·
                  have : j = 119 := by omega
                  subst this
                  exact hbo_119
              ·
                by_cases h120_123 : j < 121
                ·
                  have : j = 120 := by omega
                  subst this
                  exact hbo_120
                ·
                  by_cases h121_123 : j < 122
                  ·
                    have : j = 121 := by omega
                    subst this
                    exact hbo_121
                  ·
                    have : j = 122 := by omega
                    subst this
                    exact hbo_122
          ·
            by_cases h123_133 : j < 128
            ·
              by_cases h123_128 : j < 125
              ·
                by_cases h123_125 : j < 124
                ·
                  have : j = 123 := by omega
                  subst this
                  exact hbo_123
                ·
                  have : j = 124 := by omega
                  subst this
                  exact hbo_124
              ·
                by_cases h125_128 : j < 126
                ·
                  have : j = 125 := by omega
                  subst this
                  exact hbo_125
                ·
                  by_cases h126_128 : j < 127
                  ·
                    have : j = 126 := by omega
                    subst this
                    exact hbo_126
                  ·
                    have : j = 127 := by omega
                    subst this
                    exact hbo_127
            ·
              by_cases h128_133 : j < 130
              ·
                by_cases h128_130 : j < 129
                ·
                  have : j = 128 := by omega
                  subst this
                  exact hbo_128
                ·
                  have : j = 129 := by omega
                  subst this
                  exact hbo_129
              ·
                by_cases h130_133 : j < 131
                ·
                  have : j = 130 := by omega
                  subst this
                  exact hbo_130
                ·
                  by_cases h131_133 : j < 132
                  ·
                    have : j = 131 := by omega
                    subst this
                    exact hbo_131
                  ·
                    have : j = 132 := by omega
                    subst this
                    exact hbo_132
        ·
          by_cases h133_152 : j < 142
          ·
            by_cases h133_142 : j < 137
            ·
              by_cases h133_137 : j < 135
              ·
                by_cases h133_135 : j < 134
                ·
                  have : j = 133 := by omega
                  subst this
                  exact hbo_133
                ·
                  have : j = 134 := by omega
                  subst this
                  exact hbo_134
              ·
                by_cases h135_137 : j < 136
                ·
                  have : j = 135 := by omega
                  subst this
                  exact hbo_135
                ·
                  have : j = 136 := by omega
                  subst this
                  exact hbo_136
            ·
              by_cases h137_142 : j < 139
              ·
                by_cases h137_139 : j < 138
                ·
                  have : j = 137 := by omega
                  subst this
                  exact hbo_137
                ·
                  have : j = 138 := by omega
                  subst this
                  exact hbo_138
              ·
                by_cases h139_142 : j < 140
                ·
                  have : j = 139 := by omega
                  subst this
                  exact hbo_139
                ·
                  by_cases h140_142 : j < 141
                  ·
                    have : j = 140 := by omega
                    subst this
                    exact hbo_140
                  ·
                    have : j = 141 := by omega
                    subst this
                    exact hbo_141
          ·
            by_cases h142_152 : j < 147
            ·
              by_cases h142_147 : j < 144
              ·
                by_cases h142_144 : j < 143
                ·
                  have : j = 142 := by omega
                  subst this
                  exact hbo_142
                ·
                  have : j = 143 := by omega
                  subst this
                  exact hbo_143
              ·
                by_cases h144_147 : j < 145
                ·
                  have : j = 144 := by omega
                  subst this
                  exact hbo_144
                ·
                  by_cases h145_147 : j < 146
                  ·
                    have : j = 145 := by omega
                    subst this
                    exact hbo_145
                  ·
                    have : j = 146 := by omega
                    subst this
                    exact hbo_146
            ·
              by_cases h147_152 : j < 149
              ·
                by_cases h147_149 : j < 148
                ·
                  have : j = 147 := by omega
                  subst this
                  exact hbo_147
                ·
                  have : j = 148 := by omega
                  subst this
                  exact hbo_148
              ·
                by_cases h149_152 : j < 150
                ·
                  have : j = 149 := by omega
                  subst this
                  exact hbo_149
                ·
                  by_cases h150_152 : j < 151
                  ·
                    have : j = 150 := by omega
                    subst this
                    exact hbo_150
                  ·
                    have : j = 151 := by omega
                    subst this
                    exact hbo_151
  ·
    by_cases h152_305 : j < 228
    ·
      by_cases h152_228 : j < 190
      ·
        by_cases h152_190 : j < 171
        ·
          by_cases h152_171 : j < 161
          ·
            by_cases h152_161 : j < 156
            ·
              by_cases h152_156 : j < 154
              ·
                by_cases h152_154 : j < 153
                ·
                  have : j = 152 := by omega
                  subst this
                  exact hbo_152
                ·
                  have : j = 153 := by omega
                  subst this
                  exact hbo_153
              ·
                by_cases h154_156 : j < 155
                ·
                  have : j = 154 := by omega
                  subst this
                  exact hbo_154
                ·
                  have : j = 155 := by omega
                  subst this
                  exact hbo_155
            ·
              by_cases h156_161 : j < 158
              ·
                by_cases h156_158 : j < 157
                ·
                  have : j = 156 := by omega
                  subst this
                  exact hbo_156
                ·
                  have : j = 157 := by omega
                  subst this
                  exact hbo_157
              ·
                by_cases h158_161 : j < 159
                ·
                  have : j = 158 := by omega
                  subst this
                  exact hbo_158
                ·
                  by_cases h159_161 : j < 160
                  ·
                    have : j = 159 := by omega
                    subst this
                    exact hbo_159
                  ·
                    have : j = 160 := by omega
                    subst this
                    exact hbo_160
          ·
            by_cases h161_171 : j < 166
            ·
              by_cases h161_166 : j < 163
              ·
                by_cases h161_163 : j < 162
                ·
                  have : j = 161 := by omega
                  subst this
                  exact hbo_161
                ·
                  have : j = 162 := by omega
                  subst this
                  exact hbo_162
              ·
                by_cases h163_166 : j < 164
                ·
                  have : j = 163 := by omega
                  subst this
                  exact hbo_163
                ·
                  by_cases h164_166 : j < 165
                  ·
                    have : j = 164 := by omega
                    subst this
                    exact hbo_164
                  ·
                    have : j = 165 := by omega
                    subst this
                    exact hbo_165
            ·
              by_cases h166_171 : j < 168
              ·
                by_cases h166_168 : j < 167
                ·
                  have : j = 166 := by omega
                  subst this
                  exact hbo_166
                ·
                  have : j = 167 := by omega
                  subst this
                  exact hbo_167
              ·
                by_cases h168_171 : j < 169
                ·
                  have : j = 168 := by omega
                  subst this
                  exact hbo_168
                ·
                  by_cases h169_171 : j < 170
                  ·
                    have : j = 169 := by omega
                    subst this
                    exact hbo_169
                  ·
                    have : j = 170 := by omega
                    subst this
                    exact hbo_170
        ·
          by_cases h171_190 : j < 180
          ·
            by_cases h171_180 : j < 175
            ·
              by_cases h171_175 : j < 173
              ·
                by_cases h171_173 : j < 172
                ·
                  have : j = 171 := by omega
                  subst this
                  exact hbo_171
                ·
                  have : j = 172 := by omega
                  subst this
                  exact hbo_172
              ·
                by_cases h173_175 : j < 174
                ·
                  have : j = 173 := by omega
                  subst this
                  exact hbo_173
                ·
                  have : j = 174 := by omega
                  subst this
                  exact hbo_174
            ·
              by_cases h175_180 : j < 177
              ·
                by_cases h175_177 : j < 176
                ·
                  have : j = 175 := by omega
                  subst this
                  exact hbo_175
                ·
                  have : j = 176 := by omega
                  subst this
                  exact hbo_176
              ·
                by_cases h177_180 : j < 178
                ·
                  have : j = 177 := by omega
                  subst this
                  exact hbo_177
                ·
                  by_cases h178_180 : j < 179
                  ·
                    have : j = 178 := by omega
                    subst this
                    exact hbo_178
                  ·
                    have : j = 179 := by omega
                    subst this
                    exact hbo_179
          ·
            by_cases h180_190 : j < 185
            ·
              by_cases h180_185 : j < 182
              ·
                by_cases h180_182 : j < 181
                ·
                  have : j = 180 := by omega
                  subst this
                  exact hbo_180
                ·
                  have : j = 181 := by omega
                  subst this
                  exact hbo_181
              ·
                by_cases h182_185 : j < 183
                ·
                  have : j = 182 := by omega
                  subst this
                  exact hbo_182
                ·
                  by_cases h183_185 : j < 184
                  ·
                    have : j = 183 := by omega
                    subst this
                    exact hbo_183
                  ·
                    have : j = 184 := by omega
                    subst this
                    exact hbo_184
            ·
              by_cases h185_190 : j < 187
              ·
                by_cases h185_187 : j < 186
                ·
                  have : j = 185 := by omega
                  subst this
                  exact hbo_185
                ·
                  have : j = 186 := by omega
                  subst this
                  exact hbo_186
              ·
                by_cases h187_190 : j < 188
                ·
                  have : j = 187 := by omega
                  subst this
                  exact hbo_187
                ·
                  by_cases h188_190 : j < 189
                  ·
                    have : j = 188 := by omega
                    subst this
                    exact hbo_188
                  ·
                    have : j = 189 := by omega
                    subst this
                    exact hbo_189
      ·
        by_cases h190_228 : j < 209
        ·
          by_cases h190_209 : j < 199
          ·
            by_cases h190_199 : j < 194
            ·
              by_cases h190_194 : j < 192
              ·
                by_cases h190_192 : j < 191
                ·
                  have : j = 190 := by omega
                  subst this
                  exact hbo_190
                ·
                  have : j = 191 := by omega
                  subst this
                  exact hbo_191
              ·
                by_cases h192_194 : j < 193
                ·
                  have : j = 192 := by omega
                  subst this
                  exact hbo_192
                ·
                  have : j = 193 := by omega
                  subst this
                  exact hbo_193
            ·
              by_cases h194_199 : j < 196
              ·
                by_cases h194_196 : j < 195
                ·
                  have : j = 194 := by omega
                  subst this
                  exact hbo_194
                ·
                  have : j = 195 := by omega
                  subst this
                  exact hbo_195
              ·
                by_cases h196_199 : j < 197
                ·
                  have : j = 196 := by omega
                  subst this
                  exact hbo_196
                ·
                  by_cases h197_199 : j < 198
                  ·
                    have : j = 197 := by omega
                    subst this
                    exact hbo_197
                  ·
                    have : j = 198 := by omega
                    subst this
                    exact hbo_198
          ·
            by_cases h199_209 : j < 204
            ·
              by_cases h199_204 : j < 201
              ·
                by_cases h199_201 : j < 200
                ·
                  have : j = 199 := by omega
                  subst this
                  exact hbo_199
                ·
                  have : j = 200 := by omega
                  subst this
                  exact hbo_200
              ·
                by_cases h201_204 : j < 202
                ·
                  have : j = 201 := by omega
                  subst this
                  exact hbo_201
                ·
                  by_cases h202_204 : j < 203
                  ·
                    have : j = 202 := by omega
                    subst this
                    exact hbo_202
                  ·
                    have : j = 203 := by omega
                    subst this
                    exact hbo_203
            ·
              by_cases h204_209 : j < 206
              ·
                by_cases h204_206 : j < 205
                ·
                  have : j = 204 := by omega
                  subst this
                  exact hbo_204
                ·
                  have : j = 205 := by omega
                  subst this
                  exact hbo_205
              ·
                by_cases h206_209 : j < 207
                ·
                  have : j = 206 := by omega
                  subst this
                  exact hbo_206
                ·
                  by_cases h207_209 : j < 208
                  ·
                    have : j = 207 := by omega
                    subst this
                    exact hbo_207
                  ·
                    have : j = 208 := by omega
                    subst this
                    exact hbo_208
        ·
          by_cases h209_228 : j < 218
          ·
            by_cases h209_218 : j < 213
            ·
              by_cases h209_213 : j < 211
              ·
                by_cases h209_211 : j < 210
                ·
                  have : j = 209 := by omega
                  subst this
                  exact hbo_209
                ·
                  have : j = 210 := by omega
                  subst this
                  exact hbo_210
              ·
                by_cases h211_213 : j < 212
                ·
                  have : j = 211 := by omega
                  subst this
                  exact hbo_211
                ·
                  have : j = 212 := by omega
                  subst this
                  exact hbo_212
            ·
              by_cases h213_218 : j < 215
              ·
                by_cases h213_215 : j < 214
                ·
                  have : j = 213 := by omega
                  subst this
                  exact hbo_213
                ·
                  have : j = 214 := by omega
                  subst this
                  exact hbo_214
              ·
                by_cases h215_218 : j < 216
                ·
                  have : j = 215 := by omega
                  subst this
                  exact hbo_215
                ·
                  by_cases h216_218 : j < 217
                  ·
                    have : j = 216 := by omega
                    subst this
                    exact hbo_216
                  ·
                    have : j = 217 := by omega
                    subst this
                    exact hbo_217
          ·
            by_cases h218_228 : j < 223
            ·
              by_cases h218_223 : j < 220
              ·
                by_cases h218_220 : j < 219
                ·
                  have : j = 218 := by omega
                  subst this
                  exact hbo_218
                ·
                  have : j = 219 := by omega
                  subst this
                  exact hbo_219
              ·
                by_cases h220_223 : j < 221
                ·
                  have : j = 220 := by omega
                  subst this
                  exact hbo_220
                ·
                  by_cases h221_223 : j < 222
                  ·
                    have : j = 221 := by omega
                    subst this
                    exact hbo_221
                  ·
                    have : j = 222 := by omega
                    subst this
                    exact hbo_222
            ·
              by_cases h223_228 : j < 225
              ·
                by_cases h223_225 : j < 224
                ·
                  have : j = 223 := by omega
                  subst this
                  exact hbo_223
                ·
                  have : j = 224 := by omega
                  subst this
                  exact hbo_224
              ·
                by_cases h225_228 : j < 226
                ·
                  have : j = 225 := by omega
                  subst this
                  exact hbo_225
                ·
                  by_cases h226_228 : j < 227
                  ·
                    have : j = 226 := by omega
                    subst this
                    exact hbo_226
                  ·
                    have : j = 227 := by omega
                    subst this
                    exact hbo_227
    ·
      by_cases h228_305 : j < 266
      ·
        by_cases h228_266 : j < 247
        ·
          by_cases h228_247 : j < 237
          ·
            by_cases h228_237 : j < 232
            ·
              by_cases h228_232 : j < 230
              ·
                by_cases h228_230 : j < 229
                ·
                  have : j = 228 := by omega
                  subst this
                  exact hbo_228
                ·
                  have : j = 229 := by omega
                  subst this
                  exact hbo_229
              ·
                by_cases h230_232 : j < 231
                ·
                  have : j = 230 := by omega
                  subst this
                  exact hbo_230
                ·
                  have : j = 231 := by omega
                  subst this
                  exact hbo_231
            ·
              by_cases h232_237 : j < 234
              ·
                by_cases h232_234 : j < 233
                ·
                  have : j = 232 := by omega
                  subst this
                  exact hbo_232
                ·
                  have : j = 233 := by omega
                  subst this
                  exact hbo_233
              ·
                by_cases h234_237 : j < 235
                ·
                  have : j = 234 := by omega
                  subst this
                  exact hbo_234
                ·
                  by_cases h235_237 : j < 236
                  ·
                    have : j = 235 := by omega
                    subst this
                    exact hbo_235
                  ·
                    have : j = 236 := by omega
                    subst this
                    exact hbo_236
          ·
            by_cases h237_247 : j < 242
            ·
              by_cases h237_242 : j < 239
              ·
                by_cases h237_239 : j < 238
                ·
                  have : j = 237 := by omega
                  subst this
                  exact hbo_237
                ·
                  have : j = 238 := by omega
                  subst this
                  exact hbo_238
              ·
                by_cases h239_242 : j < 240
                ·
                  have : j = 239 := by omega
                  subst this
                  exact hbo_239
                ·
                  by_cases h240_242 : j < 241
                  ·
                    have : j = 240 := by omega
                    subst this
                    exact hbo_240
                  ·
                    have : j = 241 := by omega
                    subst this
                    exact hbo_241
            ·
              by_cases h242_247 : j < 244
              ·
                by_cases h242_244 : j < 243
                ·
                  have : j = 242 := by omega
                  subst this
                  exact hbo_242
                ·
                  have : j = 243 := by omega
                  subst this
                  exact hbo_243
              ·
                by_cases h244_247 : j < 245
                ·
                  have : j = 244 := by omega
                  subst this
                  exact hbo_244
                ·
                  by_cases h245_247 : j < 246
                  ·
                    have : j = 245 := by omega
                    subst this
                    exact hbo_245
                  ·
                    have : j = 246 := by omega
                    subst this
                    exact hbo_246
        ·
          by_cases h247_266 : j < 256
          ·
            by_cases h247_256 : j < 251
            ·
              by_cases h247_251 : j < 249
              ·
                by_cases h247_249 : j < 248
                ·
                  have : j = 247 := by omega
                  subst this
                  exact hbo_247
                ·
                  have : j = 248 := by omega
                  subst this
                  exact hbo_248
              ·
                by_cases h249_251 : j < 250
                ·
                  have : j = 249 := by omega
                  subst this
                  exact hbo_249
                ·
                  have : j = 250 := by omega
                  subst this
                  exact hbo_250
            ·
              by_cases h251_256 : j < 253
              ·
                by_cases h251_253 : j < 252
                ·
                  have : j = 251 := by omega
                  subst this
                  exact hbo_251
                ·
                  have : j = 252 := by omega
                  subst this
                  exact hbo_252
              ·
                by_cases h253_256 : j < 254
                ·
                  have : j = 253 := by omega
                  subst this
                  exact hbo_253
                ·
                  by_cases h254_256 : j < 255
                  ·
                    have : j = 254 := by omega
                    subst this
                    exact hbo_254
                  ·
                    have : j = 255 := by omega
                    subst this
                    exact hbo_255
          ·
            by_cases h256_266 : j < 261
            ·
              by_cases h256_261 : j < 258
              ·
                by_cases h256_258 : j < 257
                ·
                  have : j = 256 := by omega
                  subst this
                  exact hbo_256
                ·
                  have : j = 257 := by omega
                  subst this
                  exact hbo_257
              ·
                by_cases h258_261 : j < 259
                ·
                  have : j = 258 := by omega
                  subst this
                  exact hbo_258
                ·
                  by_cases h259_261 : j < 260
                  ·
                    have : j = 259 := by omega
                    subst this
                    exact hbo_259
                  ·
                    have : j = 260 := by omega
                    subst this
                    exact hbo_260
            ·
              by_cases h261_266 : j < 263
              ·
                by_cases h261_263 : j < 262
                ·
                  have : j = 261 := by omega
                  subst this
                  exact hbo_261
                ·
                  have : j = 262 := by omega
                  subst this
                  exact hbo_262
              ·
                by_cases h263_266 : j < 264
                ·
                  have : j = 263 := by omega
                  subst this
                  exact hbo_263
                ·
                  by_cases h264_266 : j < 265
                  ·
                    have : j = 264 := by omega
                    subst this
                    exact hbo_264
                  ·
                    have : j = 265 := by omega
                    subst this
                    exact hbo_265
      ·
        by_cases h266_305 : j < 285
        ·
          by_cases h266_285 : j < 275
          ·
            by_cases h266_275 : j < 270
            ·
              by_cases h266_270 : j < 268
              ·
                by_cases h266_268 : j < 267
                ·
                  have : j = 266 := by omega
                  subst this
                  exact hbo_266
                ·
                  have : j = 267 := by omega
                  subst this
                  exact hbo_267
              ·
                by_cases h268_270 : j < 269
                ·
                  have : j = 268 := by omega
                  subst this
                  exact hbo_268
                ·
                  have : j = 269 := by omega
                  subst this
                  exact hbo_269
            ·
              by_cases h270_275 : j < 272
              ·
                by_cases h270_272 : j < 271
                ·
                  have : j = 270 := by omega
                  subst this
                  exact hbo_270
                ·
                  have : j = 271 := by omega
                  subst this
                  exact hbo_271
              ·
                by_cases h272_275 : j < 273
                ·
                  have : j = 272 := by omega
                  subst this
                  exact hbo_272
                ·
                  by_cases h273_275 : j < 274
                  ·
                    have : j = 273 := by omega
                    subst this
                    exact hbo_273
                  ·
                    have : j = 274 := by omega
                    subst this
                    exact hbo_274
          ·
            by_cases h275_285 : j < 280
            ·
              by_cases h275_280 : j < 277
              ·
                by_cases h275_277 : j < 276
                ·
                  have : j = 275 := by omega
                  subst this
                  exact hbo_275
                ·
                  have : j = 276 := by omega
                  subst this
                  exact hbo_276
              ·
                by_cases h277_280 : j < 278
                ·
                  have : j = 277 := by omega
                  subst this
                  exact hbo_277
                ·
                  by_cases h278_280 : j < 279
                  ·
                    have : j = 278 := by omega
                    subst this
                    exact hbo_278
                  ·
                    have : j = 279 := by omega
                    subst this
                    exact hbo_279
            ·
              by_cases h280_285 : j < 282
              ·
                by_cases h280_282 : j < 281
                ·
                  have : j = 280 := by omega
                  subst this
                  exact hbo_280
                ·
                  have : j = 281 := by omega
                  subst this
                  exact hbo_281
              ·
                by_cases h282_285 : j < 283
                ·
                  have : j = 282 := by omega
                  subst this
                  exact hbo_282
                ·
                  by_cases h283_285 : j < 284
                  ·
                    have : j = 283 := by omega
                    subst this
                    exact hbo_283
                  ·
                    have : j = 284 := by omega
                    subst this
                    exact hbo_284
        ·
          by_cases h285_305 : j < 295
          ·
            by_cases h285_295 : j < 290
            ·
              by_cases h285_290 : j < 287
              ·
                by_cases h285_287 : j < 286
                ·
                  have : j = 285 := by omega
                  subst this
                  exact hbo_285
                ·
                  have : j = 286 := by omega
                  subst this
                  exact hbo_286
              ·
                by_cases h287_290 : j < 288
                ·
                  have : j = 287 := by omega
                  subst this
                  exact hbo_287
                ·
                  by_cases h288_290 : j < 289
                  ·
                    have : j = 288 := by omega
                    subst this
                    exact hbo_288
                  ·
                    have : j = 289 := by omega
                    subst this
                    exact hbo_289
            ·
              by_cases h290_295 : j < 292
              ·
                by_cases h290_292 : j < 291
                ·
                  have : j = 290 := by omega
                  subst this
                  exact hbo_290
                ·
                  have : j = 291 := by omega
                  subst this
                  exact hbo_291
              ·
                by_cases h292_295 : j < 293
                ·
                  have : j = 292 := by omega
                  subst this
                  exact hbo_292
                ·
                  by_cases h293_295 : j < 294
                  ·
                    have : j = 293 := by omega
                    subst this
                    exact hbo_293
                  ·
                    have : j = 294 := by omega
                    subst this
                    exact hbo_294
          ·
            by_cases h295_305 : j < 300
            ·
              by_cases h295_300 : j < 297
              ·
                by_cases h295_297 : j < 296
                ·
                  have : j = 295 := by omega
                  subst this
                  exact hbo_295
                ·
                  have : j = 296 := by omega
                  subst this
                  exact hbo_296
              ·
                by_cases h297_300 : j < 298
                ·
                  have : j = 297 := by omega
                  subst this
                  exact hbo_297
                ·
                  by_cases h298_300 : j < 299
                  ·
                    have : j = 298 := by omega
                    subst this
                    exact hbo_298
                  ·
                    have : j = 299 := by omega
                    subst this
                    exact hbo_299
            ·
              by_cases h300_305 : j < 302
              ·
                by_cases h300_302 : j < 301
                ·
                  have : j = 300 := by omega
                  subst this
                  exact hbo_300
                ·
                  have : j = 301 := by omega
                  subst this
                  exact hbo_301
              ·
                by_cases h302_305 : j < 303
                ·
                  have : j = 302 := by omega
                  subst this
                  exact hbo_302
                ·
                  by_cases h303_305 : j < 304
                  ·
                    have : j = 303 := by omega
                    subst this
                    exact hbo_303
                  ·
                    have : j = 304 := by omega
                    subst this
                    exact hbo_304
