/-! Each method's meaning, a row each. -/
theorem sem_V_init (d : Nat) (as : List Value) (h : hv_H) : hv_sem (d + 1) 0 as h = if hv_w as ≤ 1 then hv_fin (hb_V_init (hv_step hv_cm hv_vk hv_dv hv_ft 39 4535 none (hv_sem d)) (hv_in 1 as, [], h, 0, 0)) else none := rfl
theorem sem_V_monk (d : Nat) (as : List Value) (h : hv_H) : hv_sem (d + 1) 1 as h = if hv_w as ≤ 4 then hv_fin (hb_V_monk (hv_step hv_cm hv_vk hv_dv hv_ft 0 0 (some .int) (hv_sem d)) (hv_in 4 as, [], h, 0, 0)) else none := rfl
theorem sem_V_put (d : Nat) (as : List Value) (h : hv_H) : hv_sem (d + 1) 2 as h = if hv_w as ≤ 5 then hv_fin (hb_V_put (hv_step hv_cm hv_vk hv_dv hv_ft 0 0 (some .int) (hv_sem d)) (hv_in 5 as, [], h, 0, 0)) else none := rfl
theorem sem_V_of (d : Nat) (as : List Value) (h : hv_H) : hv_sem (d + 1) 3 as h = if hv_w as ≤ 5 then hv_fin (hb_V_of (hv_step hv_cm hv_vk hv_dv hv_ft 0 0 (some .int) (hv_sem d)) (hv_in 5 as, [], h, 0, 0)) else none := rfl
theorem sem_V_has (d : Nat) (as : List Value) (h : hv_H) : hv_sem (d + 1) 4 as h = if hv_w as ≤ 2 then hv_fin (hb_V_has (hv_step hv_cm hv_vk hv_dv hv_ft 0 0 (some .int) (hv_sem d)) (hv_in 2 as, [], h, 0, 0)) else none := rfl
theorem sem_V_terms (d : Nat) (as : List Value) (h : hv_H) : hv_sem (d + 1) 5 as h = if hv_w as ≤ 6 then hv_fin (hb_V_terms (hv_step hv_cm hv_vk hv_dv hv_ft 0 0 (some .int) (hv_sem d)) (hv_in 6 as, [], h, 0, 0)) else none := rfl
theorem sem_V_feed (d : Nat) (as : List Value) (h : hv_H) : hv_sem (d + 1) 6 as h = if hv_w as ≤ 6 then hv_fin (hb_V_feed (hv_step hv_cm hv_vk hv_dv hv_ft 0 0 (some .int) (hv_sem d)) (hv_in 6 as, [], h, 0, 0)) else none := rfl
theorem sem_V_addBytes (d : Nat) (as : List Value) (h : hv_H) : hv_sem (d + 1) 7 as h = if hv_w as ≤ 3 then hv_fin (hb_V_addBytes (hv_step hv_cm hv_vk hv_dv hv_ft 0 0 none (hv_sem d)) (hv_in 3 as, [], h, 0, 0)) else none := rfl
theorem sem_V_end (d : Nat) (as : List Value) (h : hv_H) : hv_sem (d + 1) 8 as h = if hv_w as ≤ 2 then hv_fin (hb_V_end (hv_step hv_cm hv_vk hv_dv hv_ft 0 0 (some .int) (hv_sem d)) (hv_in 2 as, [], h, 0, 0)) else none := rfl
theorem sem_V_row (d : Nat) (as : List Value) (h : hv_H) : hv_sem (d + 1) 9 as h = if hv_w as ≤ 3 then hv_fin (hb_V_row (hv_step hv_cm hv_vk hv_dv hv_ft 0 0 (some .int) (hv_sem d)) (hv_in 3 as, [], h, 0, 0)) else none := rfl
theorem sem_V_isRow (d : Nat) (as : List Value) (h : hv_H) : hv_sem (d + 1) 10 as h = if hv_w as ≤ 3 then hv_fin (hb_V_isRow (hv_step hv_cm hv_vk hv_dv hv_ft 0 0 (some .boolean) (hv_sem d)) (hv_in 3 as, [], h, 0, 0)) else none := rfl
theorem sem_V_addMonkOfRow (d : Nat) (as : List Value) (h : hv_H) : hv_sem (d + 1) 11 as h = if hv_w as ≤ 4 then hv_fin (hb_V_addMonkOfRow (hv_step hv_cm hv_vk hv_dv hv_ft 0 0 none (hv_sem d)) (hv_in 4 as, [], h, 0, 0)) else none := rfl
theorem sem_V_crumbs (d : Nat) (as : List Value) (h : hv_H) : hv_sem (d + 1) 12 as h = if hv_w as ≤ 1 then hv_fin (hb_V_crumbs (hv_step hv_cm hv_vk hv_dv hv_ft 0 0 (some .int) (hv_sem d)) (hv_in 1 as, [], h, 0, 0)) else none := rfl
theorem sem_V_law (d : Nat) (as : List Value) (h : hv_H) : hv_sem (d + 1) 13 as h = if hv_w as ≤ 2 then hv_fin (hb_V_law (hv_step hv_cm hv_vk hv_dv hv_ft 3 804 (some .int) (hv_sem d)) (hv_in 2 as, [], h, 0, 0)) else none := rfl
theorem sem_V_orders (d : Nat) (as : List Value) (h : hv_H) : hv_sem (d + 1) 14 as h = if hv_w as ≤ 2 then hv_fin (hb_V_orders (hv_step hv_cm hv_vk hv_dv hv_ft 0 0 (some .int) (hv_sem d)) (hv_in 2 as, [], h, 0, 0)) else none := rfl
theorem sem_V_fault (d : Nat) (as : List Value) (h : hv_H) : hv_sem (d + 1) 15 as h = if hv_w as ≤ 1 then hv_fin (hb_V_fault (hv_step hv_cm hv_vk hv_dv hv_ft 0 0 (some .int) (hv_sem d)) (hv_in 1 as, [], h, 0, 0)) else none := rfl
theorem sem_V_stopped (d : Nat) (as : List Value) (h : hv_H) : hv_sem (d + 1) 16 as h = if hv_w as ≤ 1 then hv_fin (hb_V_stopped (hv_step hv_cm hv_vk hv_dv hv_ft 0 0 (some .int) (hv_sem d)) (hv_in 1 as, [], h, 0, 0)) else none := rfl
theorem sem_V_force (d : Nat) (as : List Value) (h : hv_H) : hv_sem (d + 1) 17 as h = if hv_w as ≤ 3 then hv_fin (hb_V_force (hv_step hv_cm hv_vk hv_dv hv_ft 0 0 (some .int) (hv_sem d)) (hv_in 3 as, [], h, 0, 0)) else none := rfl
theorem sem_V_give (d : Nat) (as : List Value) (h : hv_H) : hv_sem (d + 1) 18 as h = if hv_w as ≤ 3 then hv_fin (hb_V_give (hv_step hv_cm hv_vk hv_dv hv_ft 0 0 (some .int) (hv_sem d)) (hv_in 3 as, [], h, 0, 0)) else none := rfl
theorem sem_V_lay (d : Nat) (as : List Value) (h : hv_H) : hv_sem (d + 1) 19 as h = if hv_w as ≤ 2 then hv_fin (hb_V_lay (hv_step hv_cm hv_vk hv_dv hv_ft 0 0 (some .int) (hv_sem d)) (hv_in 2 as, [], h, 0, 0)) else none := rfl
theorem sem_V_swap (d : Nat) (as : List Value) (h : hv_H) : hv_sem (d + 1) 20 as h = if hv_w as ≤ 3 then hv_fin (hb_V_swap (hv_step hv_cm hv_vk hv_dv hv_ft 0 0 (some .int) (hv_sem d)) (hv_in 3 as, [], h, 0, 0)) else none := rfl
theorem sem_V_pass (d : Nat) (as : List Value) (h : hv_H) : hv_sem (d + 1) 21 as h = if hv_w as ≤ 1 then hv_fin (hb_V_pass (hv_step hv_cm hv_vk hv_dv hv_ft 0 0 (some .int) (hv_sem d)) (hv_in 1 as, [], h, 0, 0)) else none := rfl
theorem sem_V_undo (d : Nat) (as : List Value) (h : hv_H) : hv_sem (d + 1) 22 as h = if hv_w as ≤ 1 then hv_fin (hb_V_undo (hv_step hv_cm hv_vk hv_dv hv_ft 0 0 (some .int) (hv_sem d)) (hv_in 1 as, [], h, 0, 0)) else none := rfl
theorem sem_V_best (d : Nat) (as : List Value) (h : hv_H) : hv_sem (d + 1) 23 as h = if hv_w as ≤ 2 then hv_fin (hb_V_best (hv_step hv_cm hv_vk hv_dv hv_ft 0 0 (some .int) (hv_sem d)) (hv_in 2 as, [], h, 0, 0)) else none := rfl
theorem sem_V_chosenOrTotal (d : Nat) (as : List Value) (h : hv_H) : hv_sem (d + 1) 24 as h = if hv_w as ≤ 3 then hv_fin (hb_V_chosenOrTotal (hv_step hv_cm hv_vk hv_dv hv_ft 0 0 (some .int) (hv_sem d)) (hv_in 3 as, [], h, 0, 0)) else none := rfl
theorem sem_V_fair (d : Nat) (as : List Value) (h : hv_H) : hv_sem (d + 1) 25 as h = if hv_w as ≤ 3 then hv_fin (hb_V_fair (hv_step hv_cm hv_vk hv_dv hv_ft 0 0 (some .int) (hv_sem d)) (hv_in 3 as, [], h, 0, 0)) else none := rfl
theorem sem_V_wished (d : Nat) (as : List Value) (h : hv_H) : hv_sem (d + 1) 26 as h = if hv_w as ≤ 2 then hv_fin (hb_V_wished (hv_step hv_cm hv_vk hv_dv hv_ft 0 0 (some .int) (hv_sem d)) (hv_in 2 as, [], h, 0, 0)) else none := rfl
theorem sem_V_swaps (d : Nat) (as : List Value) (h : hv_H) : hv_sem (d + 1) 27 as h = if hv_w as ≤ 6 then hv_fin (hb_V_swaps (hv_step hv_cm hv_vk hv_dv hv_ft 0 0 (some .int) (hv_sem d)) (hv_in 6 as, [], h, 0, 0)) else none := rfl
theorem sem_V_hide (d : Nat) (as : List Value) (h : hv_H) : hv_sem (d + 1) 28 as h = if hv_w as ≤ 3 then hv_fin (hb_V_hide (hv_step hv_cm hv_vk hv_dv hv_ft 0 0 (some .int) (hv_sem d)) (hv_in 3 as, [], h, 0, 0)) else none := rfl
theorem sem_V_soft (d : Nat) (as : List Value) (h : hv_H) : hv_sem (d + 1) 29 as h = if hv_w as ≤ 2 then hv_fin (hb_V_soft (hv_step hv_cm hv_vk hv_dv hv_ft 0 0 (some .int) (hv_sem d)) (hv_in 2 as, [], h, 0, 0)) else none := rfl
theorem sem_V_kept (d : Nat) (as : List Value) (h : hv_H) : hv_sem (d + 1) 30 as h = if hv_w as ≤ 3 then hv_fin (hb_V_kept (hv_step hv_cm hv_vk hv_dv hv_ft 0 0 (some .long) (hv_sem d)) (hv_in 3 as, [], h, 0, 0)) else none := rfl
theorem sem_V_seen (d : Nat) (as : List Value) (h : hv_H) : hv_sem (d + 1) 31 as h = if hv_w as ≤ 3 then hv_fin (hb_V_seen (hv_step hv_cm hv_vk hv_dv hv_ft 0 0 (some .int) (hv_sem d)) (hv_in 3 as, [], h, 0, 0)) else none := rfl
theorem sem_V_forget (d : Nat) (as : List Value) (h : hv_H) : hv_sem (d + 1) 32 as h = if hv_w as ≤ 2 then hv_fin (hb_V_forget (hv_step hv_cm hv_vk hv_dv hv_ft 0 0 (some .int) (hv_sem d)) (hv_in 2 as, [], h, 0, 0)) else none := rfl
theorem sem_V_who (d : Nat) (as : List Value) (h : hv_H) : hv_sem (d + 1) 33 as h = if hv_w as ≤ 1 then hv_fin (hb_V_who (hv_step hv_cm hv_vk hv_dv hv_ft 0 0 (some .int) (hv_sem d)) (hv_in 1 as, [], h, 0, 0)) else none := rfl
theorem sem_V_look (d : Nat) (as : List Value) (h : hv_H) : hv_sem (d + 1) 34 as h = if hv_w as ≤ 2 then hv_fin (hb_V_look (hv_step hv_cm hv_vk hv_dv hv_ft 0 0 (some .int) (hv_sem d)) (hv_in 2 as, [], h, 0, 0)) else none := rfl
theorem sem_V_compare (d : Nat) (as : List Value) (h : hv_H) : hv_sem (d + 1) 35 as h = if hv_w as ≤ 2 then hv_fin (hb_V_compare (hv_step hv_cm hv_vk hv_dv hv_ft 0 0 (some .int) (hv_sem d)) (hv_in 2 as, [], h, 0, 0)) else none := rfl
theorem sem_V_years (d : Nat) (as : List Value) (h : hv_H) : hv_sem (d + 1) 36 as h = if hv_w as ≤ 3 then hv_fin (hb_V_years (hv_step hv_cm hv_vk hv_dv hv_ft 0 0 (some .int) (hv_sem d)) (hv_in 3 as, [], h, 0, 0)) else none := rfl
theorem sem_V_drawn (d : Nat) (as : List Value) (h : hv_H) : hv_sem (d + 1) 37 as h = if hv_w as ≤ 4 then hv_fin (hb_V_drawn (hv_step hv_cm hv_vk hv_dv hv_ft 0 0 (some .int) (hv_sem d)) (hv_in 4 as, [], h, 0, 0)) else none := rfl
theorem sem_V_image (d : Nat) (as : List Value) (h : hv_H) : hv_sem (d + 1) 38 as h = if hv_w as ≤ 3 then hv_fin (hb_V_image (hv_step hv_cm hv_vk hv_dv hv_ft 6 96 (some .int) (hv_sem d)) (hv_in 3 as, [], h, 0, 0)) else none := rfl
theorem sem_V_back (d : Nat) (as : List Value) (h : hv_H) : hv_sem (d + 1) 39 as h = if hv_w as ≤ 3 then hv_fin (hb_V_back (hv_step hv_cm hv_vk hv_dv hv_ft 0 0 (some .int) (hv_sem d)) (hv_in 3 as, [], h, 0, 0)) else none := rfl
theorem sem_V_count (d : Nat) (as : List Value) (h : hv_H) : hv_sem (d + 1) 40 as h = if hv_w as ≤ 2 then hv_fin (hb_V_count (hv_step hv_cm hv_vk hv_dv hv_ft 0 0 (some .int) (hv_sem d)) (hv_in 2 as, [], h, 0, 0)) else none := rfl
theorem sem_V_status (d : Nat) (as : List Value) (h : hv_H) : hv_sem (d + 1) 41 as h = if hv_w as ≤ 1 then hv_fin (hb_V_status (hv_step hv_cm hv_vk hv_dv hv_ft 0 0 (some .int) (hv_sem d)) (hv_in 1 as, [], h, 0, 0)) else none := rfl
theorem sem_V_rulesNow (d : Nat) (as : List Value) (h : hv_H) : hv_sem (d + 1) 42 as h = if hv_w as ≤ 1 then hv_fin (hb_V_rulesNow (hv_step hv_cm hv_vk hv_dv hv_ft 0 0 (some (.object "HardestVows$Rules")) (hv_sem d)) (hv_in 1 as, [], h, 0, 0)) else none := rfl
theorem sem_V_accept (d : Nat) (as : List Value) (h : hv_H) : hv_sem (d + 1) 43 as h = if hv_w as ≤ 2 then hv_fin (hb_V_accept (hv_step hv_cm hv_vk hv_dv hv_ft 0 0 (some .int) (hv_sem d)) (hv_in 2 as, [], h, 0, 0)) else none := rfl
theorem sem_V_acceptDeed (d : Nat) (as : List Value) (h : hv_H) : hv_sem (d + 1) 44 as h = if hv_w as ≤ 2 then hv_fin (hb_V_acceptDeed (hv_step hv_cm hv_vk hv_dv hv_ft 0 0 (some .int) (hv_sem d)) (hv_in 2 as, [], h, 0, 0)) else none := rfl
theorem sem_V_refuse (d : Nat) (as : List Value) (h : hv_H) : hv_sem (d + 1) 45 as h = if hv_w as ≤ 2 then hv_fin (hb_V_refuse (hv_step hv_cm hv_vk hv_dv hv_ft 0 0 (some .int) (hv_sem d)) (hv_in 2 as, [], h, 0, 0)) else none := rfl
theorem sem_V_isVow (d : Nat) (as : List Value) (h : hv_H) : hv_sem (d + 1) 46 as h = if hv_w as ≤ 1 then hv_fin (hb_V_isVow (hv_step hv_cm hv_vk hv_dv hv_ft 0 0 (some .boolean) (hv_sem d)) (hv_in 1 as, [], h, 0, 0)) else none := rfl
theorem sem_V_isHard (d : Nat) (as : List Value) (h : hv_H) : hv_sem (d + 1) 47 as h = if hv_w as ≤ 1 then hv_fin (hb_V_isHard (hv_step hv_cm hv_vk hv_dv hv_ft 0 0 (some .boolean) (hv_sem d)) (hv_in 1 as, [], h, 0, 0)) else none := rfl
theorem sem_M_lies (d : Nat) (as : List Value) (h : hv_H) : hv_sem (d + 1) 48 as h = if hv_w as ≤ 3 then hv_fin (hb_M_lies (hv_step hv_cm hv_vk hv_dv hv_ft 0 0 (some .boolean) (hv_sem d)) (hv_in 3 as, [], h, 0, 0)) else none := rfl
theorem sem_M_lesser (d : Nat) (as : List Value) (h : hv_H) : hv_sem (d + 1) 49 as h = if hv_w as ≤ 2 then hv_fin (hb_M_lesser (hv_step hv_cm hv_vk hv_dv hv_ft 0 0 (some .int) (hv_sem d)) (hv_in 2 as, [], h, 0, 0)) else none := rfl
theorem sem_M_greater (d : Nat) (as : List Value) (h : hv_H) : hv_sem (d + 1) 50 as h = if hv_w as ≤ 2 then hv_fin (hb_M_greater (hv_step hv_cm hv_vk hv_dv hv_ft 0 0 (some .int) (hv_sem d)) (hv_in 2 as, [], h, 0, 0)) else none := rfl
theorem sem_M_refuses (d : Nat) (as : List Value) (h : hv_H) : hv_sem (d + 1) 51 as h = if hv_w as ≤ 2 then hv_fin (hb_M_refuses (hv_step hv_cm hv_vk hv_dv hv_ft 0 0 (some .int) (hv_sem d)) (hv_in 2 as, [], h, 0, 0)) else none := rfl
theorem sem_M_good (d : Nat) (as : List Value) (h : hv_H) : hv_sem (d + 1) 52 as h = if hv_w as ≤ 2 then hv_fin (hb_M_good (hv_step hv_cm hv_vk hv_dv hv_ft 0 0 (some .int) (hv_sem d)) (hv_in 2 as, [], h, 0, 0)) else none := rfl
theorem sem_M_settled (d : Nat) (as : List Value) (h : hv_H) : hv_sem (d + 1) 53 as h = if hv_w as ≤ 2 then hv_fin (hb_M_settled (hv_step hv_cm hv_vk hv_dv hv_ft 0 0 (some .int) (hv_sem d)) (hv_in 2 as, [], h, 0, 0)) else none := rfl
theorem sem_M_isIn (d : Nat) (as : List Value) (h : hv_H) : hv_sem (d + 1) 54 as h = if hv_w as ≤ 2 then hv_fin (hb_M_isIn (hv_step hv_cm hv_vk hv_dv hv_ft 0 0 (some .boolean) (hv_sem d)) (hv_in 2 as, [], h, 0, 0)) else none := rfl
theorem sem_M_init (d : Nat) (as : List Value) (h : hv_H) : hv_sem (d + 1) 55 as h = if hv_w as ≤ 2 then hv_fin (hb_M_init (hv_step hv_cm hv_vk hv_dv hv_ft 25 22354 none (hv_sem d)) (hv_in 2 as, [], h, 0, 0)) else none := rfl
theorem sem_M_laysAside (d : Nat) (as : List Value) (h : hv_H) : hv_sem (d + 1) 56 as h = if hv_w as ≤ 3 then hv_fin (hb_M_laysAside (hv_step hv_cm hv_vk hv_dv hv_ft 0 0 none (hv_sem d)) (hv_in 3 as, [], h, 0, 0)) else none := rfl
theorem sem_M_takesBack (d : Nat) (as : List Value) (h : hv_H) : hv_sem (d + 1) 57 as h = if hv_w as ≤ 3 then hv_fin (hb_M_takesBack (hv_step hv_cm hv_vk hv_dv hv_ft 0 0 none (hv_sem d)) (hv_in 3 as, [], h, 0, 0)) else none := rfl
theorem sem_M_image (d : Nat) (as : List Value) (h : hv_H) : hv_sem (d + 1) 58 as h = if hv_w as ≤ 3 then hv_fin (hb_M_image (hv_step hv_cm hv_vk hv_dv hv_ft 0 0 (some .int) (hv_sem d)) (hv_in 3 as, [], h, 0, 0)) else none := rfl
theorem sem_M_back (d : Nat) (as : List Value) (h : hv_H) : hv_sem (d + 1) 59 as h = if hv_w as ≤ 3 then hv_fin (hb_M_back (hv_step hv_cm hv_vk hv_dv hv_ft 0 0 (some .int) (hv_sem d)) (hv_in 3 as, [], h, 0, 0)) else none := rfl
theorem sem_M_isMonk (d : Nat) (as : List Value) (h : hv_H) : hv_sem (d + 1) 60 as h = if hv_w as ≤ 2 then hv_fin (hb_M_isMonk (hv_step hv_cm hv_vk hv_dv hv_ft 0 0 (some .boolean) (hv_sem d)) (hv_in 2 as, [], h, 0, 0)) else none := rfl
theorem sem_M_isVow (d : Nat) (as : List Value) (h : hv_H) : hv_sem (d + 1) 61 as h = if hv_w as ≤ 1 then hv_fin (hb_M_isVow (hv_step hv_cm hv_vk hv_dv hv_ft 0 0 (some .boolean) (hv_sem d)) (hv_in 1 as, [], h, 0, 0)) else none := rfl
theorem sem_M_isHard (d : Nat) (as : List Value) (h : hv_H) : hv_sem (d + 1) 62 as h = if hv_w as ≤ 1 then hv_fin (hb_M_isHard (hv_step hv_cm hv_vk hv_dv hv_ft 0 0 (some .boolean) (hv_sem d)) (hv_in 1 as, [], h, 0, 0)) else none := rfl
theorem sem_M_hardOf (d : Nat) (as : List Value) (h : hv_H) : hv_sem (d + 1) 63 as h = if hv_w as ≤ 3 then hv_fin (hb_M_hardOf (hv_step hv_cm hv_vk hv_dv hv_ft 0 0 (some .int) (hv_sem d)) (hv_in 3 as, [], h, 0, 0)) else none := rfl
theorem sem_M_hasOne (d : Nat) (as : List Value) (h : hv_H) : hv_sem (d + 1) 64 as h = if hv_w as ≤ 2 then hv_fin (hb_M_hasOne (hv_step hv_cm hv_vk hv_dv hv_ft 0 0 (some .boolean) (hv_sem d)) (hv_in 2 as, [], h, 0, 0)) else none := rfl
theorem sem_M_heldOf (d : Nat) (as : List Value) (h : hv_H) : hv_sem (d + 1) 65 as h = if hv_w as ≤ 3 then hv_fin (hb_M_heldOf (hv_step hv_cm hv_vk hv_dv hv_ft 0 0 (some .int) (hv_sem d)) (hv_in 3 as, [], h, 0, 0)) else none := rfl
theorem sem_M_holderOf (d : Nat) (as : List Value) (h : hv_H) : hv_sem (d + 1) 66 as h = if hv_w as ≤ 4 then hv_fin (hb_M_holderOf (hv_step hv_cm hv_vk hv_dv hv_ft 0 0 (some .int) (hv_sem d)) (hv_in 4 as, [], h, 0, 0)) else none := rfl
theorem sem_M_adds (d : Nat) (as : List Value) (h : hv_H) : hv_sem (d + 1) 67 as h = if hv_w as ≤ 2 then hv_fin (hb_M_adds (hv_step hv_cm hv_vk hv_dv hv_ft 0 0 (some .int) (hv_sem d)) (hv_in 2 as, [], h, 0, 0)) else none := rfl
theorem sem_M_monk (d : Nat) (as : List Value) (h : hv_H) : hv_sem (d + 1) 68 as h = if hv_w as ≤ 4 then hv_fin (hb_M_monk (hv_step hv_cm hv_vk hv_dv hv_ft 0 0 (some .int) (hv_sem d)) (hv_in 4 as, [], h, 0, 0)) else none := rfl
theorem sem_M_put (d : Nat) (as : List Value) (h : hv_H) : hv_sem (d + 1) 69 as h = if hv_w as ≤ 5 then hv_fin (hb_M_put (hv_step hv_cm hv_vk hv_dv hv_ft 0 0 (some .int) (hv_sem d)) (hv_in 5 as, [], h, 0, 0)) else none := rfl
theorem sem_M_of (d : Nat) (as : List Value) (h : hv_H) : hv_sem (d + 1) 70 as h = if hv_w as ≤ 4 then hv_fin (hb_M_of (hv_step hv_cm hv_vk hv_dv hv_ft 0 0 (some .int) (hv_sem d)) (hv_in 4 as, [], h, 0, 0)) else none := rfl
theorem sem_M_has (d : Nat) (as : List Value) (h : hv_H) : hv_sem (d + 1) 71 as h = if hv_w as ≤ 2 then hv_fin (hb_M_has (hv_step hv_cm hv_vk hv_dv hv_ft 0 0 (some .int) (hv_sem d)) (hv_in 2 as, [], h, 0, 0)) else none := rfl
theorem sem_M_terms (d : Nat) (as : List Value) (h : hv_H) : hv_sem (d + 1) 72 as h = if hv_w as ≤ 5 then hv_fin (hb_M_terms (hv_step hv_cm hv_vk hv_dv hv_ft 0 0 (some .int) (hv_sem d)) (hv_in 5 as, [], h, 0, 0)) else none := rfl
theorem sem_M_areHard (d : Nat) (as : List Value) (h : hv_H) : hv_sem (d + 1) 73 as h = if hv_w as ≤ 4 then hv_fin (hb_M_areHard (hv_step hv_cm hv_vk hv_dv hv_ft 0 0 (some .boolean) (hv_sem d)) (hv_in 4 as, [], h, 0, 0)) else none := rfl
theorem sem_M_row (d : Nat) (as : List Value) (h : hv_H) : hv_sem (d + 1) 74 as h = if hv_w as ≤ 6 then hv_fin (hb_M_row (hv_step hv_cm hv_vk hv_dv hv_ft 0 0 (some .int) (hv_sem d)) (hv_in 6 as, [], h, 0, 0)) else none := rfl
theorem sem_M_crumbs (d : Nat) (as : List Value) (h : hv_H) : hv_sem (d + 1) 75 as h = if hv_w as ≤ 1 then hv_fin (hb_M_crumbs (hv_step hv_cm hv_vk hv_dv hv_ft 0 0 (some .int) (hv_sem d)) (hv_in 1 as, [], h, 0, 0)) else none := rfl
theorem sem_M_feed (d : Nat) (as : List Value) (h : hv_H) : hv_sem (d + 1) 76 as h = if hv_w as ≤ 7 then hv_fin (hb_M_feed (hv_step hv_cm hv_vk hv_dv hv_ft 0 0 (some .int) (hv_sem d)) (hv_in 7 as, [], h, 0, 0)) else none := rfl
theorem sem_M_end (d : Nat) (as : List Value) (h : hv_H) : hv_sem (d + 1) 77 as h = if hv_w as ≤ 2 then hv_fin (hb_M_end (hv_step hv_cm hv_vk hv_dv hv_ft 0 0 (some .int) (hv_sem d)) (hv_in 2 as, [], h, 0, 0)) else none := rfl
theorem sem_M_isSmall (d : Nat) (as : List Value) (h : hv_H) : hv_sem (d + 1) 78 as h = if hv_w as ≤ 1 then hv_fin (hb_M_isSmall (hv_step hv_cm hv_vk hv_dv hv_ft 0 0 (some .boolean) (hv_sem d)) (hv_in 1 as, [], h, 0, 0)) else none := rfl
theorem sem_M_isDigit (d : Nat) (as : List Value) (h : hv_H) : hv_sem (d + 1) 79 as h = if hv_w as ≤ 1 then hv_fin (hb_M_isDigit (hv_step hv_cm hv_vk hv_dv hv_ft 0 0 (some .boolean) (hv_sem d)) (hv_in 1 as, [], h, 0, 0)) else none := rfl
theorem sem_M_wordOf (d : Nat) (as : List Value) (h : hv_H) : hv_sem (d + 1) 80 as h = if hv_w as ≤ 8 then hv_fin (hb_M_wordOf (hv_step hv_cm hv_vk hv_dv hv_ft 0 0 (some .int) (hv_sem d)) (hv_in 8 as, [], h, 0, 0)) else none := rfl
theorem sem_M_splits (d : Nat) (as : List Value) (h : hv_H) : hv_sem (d + 1) 81 as h = if hv_w as ≤ 6 then hv_fin (hb_M_splits (hv_step hv_cm hv_vk hv_dv hv_ft 0 0 none (hv_sem d)) (hv_in 6 as, [], h, 0, 0)) else none := rfl
theorem sem_M_fine (d : Nat) (as : List Value) (h : hv_H) : hv_sem (d + 1) 82 as h = if hv_w as ≤ 1 then hv_fin (hb_M_fine (hv_step hv_cm hv_vk hv_dv hv_ft 0 0 (some .boolean) (hv_sem d)) (hv_in 1 as, [], h, 0, 0)) else none := rfl
theorem sem_M_faults (d : Nat) (as : List Value) (h : hv_H) : hv_sem (d + 1) 83 as h = if hv_w as ≤ 1 then hv_fin (hb_M_faults (hv_step hv_cm hv_vk hv_dv hv_ft 0 0 none (hv_sem d)) (hv_in 1 as, [], h, 0, 0)) else none := rfl
theorem sem_M_takes0 (d : Nat) (as : List Value) (h : hv_H) : hv_sem (d + 1) 84 as h = if hv_w as ≤ 3 then hv_fin (hb_M_takes0 (hv_step hv_cm hv_vk hv_dv hv_ft 0 0 (some .boolean) (hv_sem d)) (hv_in 3 as, [], h, 0, 0)) else none := rfl
theorem sem_M_must (d : Nat) (as : List Value) (h : hv_H) : hv_sem (d + 1) 85 as h = if hv_w as ≤ 2 then hv_fin (hb_M_must (hv_step hv_cm hv_vk hv_dv hv_ft 0 0 none (hv_sem d)) (hv_in 2 as, [], h, 0, 0)) else none := rfl
theorem sem_M_leaf (d : Nat) (as : List Value) (h : hv_H) : hv_sem (d + 1) 86 as h = if hv_w as ≤ 1 then hv_fin (hb_M_leaf (hv_step hv_cm hv_vk hv_dv hv_ft 0 0 none (hv_sem d)) (hv_in 1 as, [], h, 0, 0)) else none := rfl
theorem sem_M_sign (d : Nat) (as : List Value) (h : hv_H) : hv_sem (d + 1) 87 as h = if hv_w as ≤ 1 then hv_fin (hb_M_sign (hv_step hv_cm hv_vk hv_dv hv_ft 0 0 (some .int) (hv_sem d)) (hv_in 1 as, [], h, 0, 0)) else none := rfl
theorem sem_M_mustNumber (d : Nat) (as : List Value) (h : hv_H) : hv_sem (d + 1) 88 as h = if hv_w as ≤ 3 then hv_fin (hb_M_mustNumber (hv_step hv_cm hv_vk hv_dv hv_ft 0 0 none (hv_sem d)) (hv_in 3 as, [], h, 0, 0)) else none := rfl
theorem sem_M_readClause (d : Nat) (as : List Value) (h : hv_H) : hv_sem (d + 1) 89 as h = if hv_w as ≤ 1 then hv_fin (hb_M_readClause (hv_step hv_cm hv_vk hv_dv hv_ft 0 0 none (hv_sem d)) (hv_in 1 as, [], h, 0, 0)) else none := rfl
theorem sem_M_readOrder (d : Nat) (as : List Value) (h : hv_H) : hv_sem (d + 1) 90 as h = if hv_w as ≤ 1 then hv_fin (hb_M_readOrder (hv_step hv_cm hv_vk hv_dv hv_ft 0 0 none (hv_sem d)) (hv_in 1 as, [], h, 0, 0)) else none := rfl
theorem sem_M_readOne (d : Nat) (as : List Value) (h : hv_H) : hv_sem (d + 1) 91 as h = if hv_w as ≤ 1 then hv_fin (hb_M_readOne (hv_step hv_cm hv_vk hv_dv hv_ft 0 0 none (hv_sem d)) (hv_in 1 as, [], h, 0, 0)) else none := rfl
theorem sem_M_readTest (d : Nat) (as : List Value) (h : hv_H) : hv_sem (d + 1) 92 as h = if hv_w as ≤ 2 then hv_fin (hb_M_readTest (hv_step hv_cm hv_vk hv_dv hv_ft 0 0 none (hv_sem d)) (hv_in 2 as, [], h, 0, 0)) else none := rfl
theorem sem_M_readBoth (d : Nat) (as : List Value) (h : hv_H) : hv_sem (d + 1) 93 as h = if hv_w as ≤ 2 then hv_fin (hb_M_readBoth (hv_step hv_cm hv_vk hv_dv hv_ft 0 0 none (hv_sem d)) (hv_in 2 as, [], h, 0, 0)) else none := rfl
theorem sem_M_readPlain (d : Nat) (as : List Value) (h : hv_H) : hv_sem (d + 1) 94 as h = if hv_w as ≤ 4 then hv_fin (hb_M_readPlain (hv_step hv_cm hv_vk hv_dv hv_ft 0 0 none (hv_sem d)) (hv_in 4 as, [], h, 0, 0)) else none := rfl
theorem sem_M_readSum (d : Nat) (as : List Value) (h : hv_H) : hv_sem (d + 1) 95 as h = if hv_w as ≤ 2 then hv_fin (hb_M_readSum (hv_step hv_cm hv_vk hv_dv hv_ft 0 0 none (hv_sem d)) (hv_in 2 as, [], h, 0, 0)) else none := rfl
theorem sem_M_readTerm (d : Nat) (as : List Value) (h : hv_H) : hv_sem (d + 1) 96 as h = if hv_w as ≤ 2 then hv_fin (hb_M_readTerm (hv_step hv_cm hv_vk hv_dv hv_ft 0 0 none (hv_sem d)) (hv_in 2 as, [], h, 0, 0)) else none := rfl
theorem sem_M_readPart (d : Nat) (as : List Value) (h : hv_H) : hv_sem (d + 1) 97 as h = if hv_w as ≤ 3 then hv_fin (hb_M_readPart (hv_step hv_cm hv_vk hv_dv hv_ft 0 0 none (hv_sem d)) (hv_in 3 as, [], h, 0, 0)) else none := rfl
theorem sem_M_reads (d : Nat) (as : List Value) (h : hv_H) : hv_sem (d + 1) 98 as h = if hv_w as ≤ 2 then hv_fin (hb_M_reads (hv_step hv_cm hv_vk hv_dv hv_ft 0 0 (some .boolean) (hv_sem d)) (hv_in 2 as, [], h, 0, 0)) else none := rfl
theorem sem_M_readsAs (d : Nat) (as : List Value) (h : hv_H) : hv_sem (d + 1) 99 as h = if hv_w as ≤ 2 then hv_fin (hb_M_readsAs (hv_step hv_cm hv_vk hv_dv hv_ft 0 0 (some .boolean) (hv_sem d)) (hv_in 2 as, [], h, 0, 0)) else none := rfl
theorem sem_M_lays (d : Nat) (as : List Value) (h : hv_H) : hv_sem (d + 1) 100 as h = if hv_w as ≤ 3 then hv_fin (hb_M_lays (hv_step hv_cm hv_vk hv_dv hv_ft 0 0 none (hv_sem d)) (hv_in 3 as, [], h, 0, 0)) else none := rfl
theorem sem_M_law (d : Nat) (as : List Value) (h : hv_H) : hv_sem (d + 1) 101 as h = if hv_w as ≤ 1 then hv_fin (hb_M_law (hv_step hv_cm hv_vk hv_dv hv_ft 0 0 (some .int) (hv_sem d)) (hv_in 1 as, [], h, 0, 0)) else none := rfl
theorem sem_M_fault (d : Nat) (as : List Value) (h : hv_H) : hv_sem (d + 1) 102 as h = if hv_w as ≤ 1 then hv_fin (hb_M_fault (hv_step hv_cm hv_vk hv_dv hv_ft 0 0 (some .int) (hv_sem d)) (hv_in 1 as, [], h, 0, 0)) else none := rfl
theorem sem_M_isLaw (d : Nat) (as : List Value) (h : hv_H) : hv_sem (d + 1) 103 as h = if hv_w as ≤ 2 then hv_fin (hb_M_isLaw (hv_step hv_cm hv_vk hv_dv hv_ft 0 0 (some .boolean) (hv_sem d)) (hv_in 2 as, [], h, 0, 0)) else none := rfl
theorem sem_M_force (d : Nat) (as : List Value) (h : hv_H) : hv_sem (d + 1) 104 as h = if hv_w as ≤ 3 then hv_fin (hb_M_force (hv_step hv_cm hv_vk hv_dv hv_ft 0 0 (some .int) (hv_sem d)) (hv_in 3 as, [], h, 0, 0)) else none := rfl
theorem sem_M_codeAt (d : Nat) (as : List Value) (h : hv_H) : hv_sem (d + 1) 105 as h = if hv_w as ≤ 2 then hv_fin (hb_M_codeAt (hv_step hv_cm hv_vk hv_dv hv_ft 0 0 (some .int) (hv_sem d)) (hv_in 2 as, [], h, 0, 0)) else none := rfl
theorem sem_M_passes0 (d : Nat) (as : List Value) (h : hv_H) : hv_sem (d + 1) 106 as h = if hv_w as ≤ 3 then hv_fin (hb_M_passes0 (hv_step hv_cm hv_vk hv_dv hv_ft 0 0 (some .boolean) (hv_sem d)) (hv_in 3 as, [], h, 0, 0)) else none := rfl
theorem sem_M_bounded (d : Nat) (as : List Value) (h : hv_H) : hv_sem (d + 1) 107 as h = if hv_w as ≤ 4 then hv_fin (hb_M_bounded (hv_step hv_cm hv_vk hv_dv hv_ft 0 0 (some .long) (hv_sem d)) (hv_in 4 as, [], h, 0, 0)) else none := rfl
theorem sem_M_sumOf (d : Nat) (as : List Value) (h : hv_H) : hv_sem (d + 1) 108 as h = if hv_w as ≤ 7 then hv_fin (hb_M_sumOf (hv_step hv_cm hv_vk hv_dv hv_ft 0 0 (some .long) (hv_sem d)) (hv_in 7 as, [], h, 0, 0)) else none := rfl
theorem sem_M_termOf (d : Nat) (as : List Value) (h : hv_H) : hv_sem (d + 1) 109 as h = if hv_w as ≤ 7 then hv_fin (hb_M_termOf (hv_step hv_cm hv_vk hv_dv hv_ft 0 0 (some .long) (hv_sem d)) (hv_in 7 as, [], h, 0, 0)) else none := rfl
theorem sem_M_partOf (d : Nat) (as : List Value) (h : hv_H) : hv_sem (d + 1) 110 as h = if hv_w as ≤ 4 then hv_fin (hb_M_partOf (hv_step hv_cm hv_vk hv_dv hv_ft 0 0 (some .long) (hv_sem d)) (hv_in 4 as, [], h, 0, 0)) else none := rfl
theorem sem_M_orderValue (d : Nat) (as : List Value) (h : hv_H) : hv_sem (d + 1) 111 as h = if hv_w as ≤ 3 then hv_fin (hb_M_orderValue (hv_step hv_cm hv_vk hv_dv hv_ft 0 0 (some .int) (hv_sem d)) (hv_in 3 as, [], h, 0, 0)) else none := rfl
theorem sem_M_testOf (d : Nat) (as : List Value) (h : hv_H) : hv_sem (d + 1) 112 as h = if hv_w as ≤ 4 then hv_fin (hb_M_testOf (hv_step hv_cm hv_vk hv_dv hv_ft 0 0 (some .boolean) (hv_sem d)) (hv_in 4 as, [], h, 0, 0)) else none := rfl
theorem sem_M_bothOf (d : Nat) (as : List Value) (h : hv_H) : hv_sem (d + 1) 113 as h = if hv_w as ≤ 4 then hv_fin (hb_M_bothOf (hv_step hv_cm hv_vk hv_dv hv_ft 0 0 (some .boolean) (hv_sem d)) (hv_in 4 as, [], h, 0, 0)) else none := rfl
theorem sem_M_plainOf (d : Nat) (as : List Value) (h : hv_H) : hv_sem (d + 1) 114 as h = if hv_w as ≤ 3 then hv_fin (hb_M_plainOf (hv_step hv_cm hv_vk hv_dv hv_ft 0 0 (some .boolean) (hv_sem d)) (hv_in 3 as, [], h, 0, 0)) else none := rfl
theorem sem_M_positiveOf (d : Nat) (as : List Value) (h : hv_H) : hv_sem (d + 1) 115 as h = if hv_w as ≤ 7 then hv_fin (hb_M_positiveOf (hv_step hv_cm hv_vk hv_dv hv_ft 0 0 (some .boolean) (hv_sem d)) (hv_in 7 as, [], h, 0, 0)) else none := rfl
theorem sem_M_tells (d : Nat) (as : List Value) (h : hv_H) : hv_sem (d + 1) 116 as h = if hv_w as ≤ 13 then hv_fin (hb_M_tells (hv_step hv_cm hv_vk hv_dv hv_ft 0 0 (some .int) (hv_sem d)) (hv_in 13 as, [], h, 0, 0)) else none := rfl
theorem sem_M_fallsBy (d : Nat) (as : List Value) (h : hv_H) : hv_sem (d + 1) 117 as h = if hv_w as ≤ 3 then hv_fin (hb_M_fallsBy (hv_step hv_cm hv_vk hv_dv hv_ft 0 0 (some .int) (hv_sem d)) (hv_in 3 as, [], h, 0, 0)) else none := rfl
theorem sem_M_risesBy (d : Nat) (as : List Value) (h : hv_H) : hv_sem (d + 1) 118 as h = if hv_w as ≤ 3 then hv_fin (hb_M_risesBy (hv_step hv_cm hv_vk hv_dv hv_ft 0 0 (some .int) (hv_sem d)) (hv_in 3 as, [], h, 0, 0)) else none := rfl
theorem sem_M_showsOf (d : Nat) (as : List Value) (h : hv_H) : hv_sem (d + 1) 119 as h = if hv_w as ≤ 3 then hv_fin (hb_M_showsOf (hv_step hv_cm hv_vk hv_dv hv_ft 0 0 (some .int) (hv_sem d)) (hv_in 3 as, [], h, 0, 0)) else none := rfl
theorem sem_M_breaksIn (d : Nat) (as : List Value) (h : hv_H) : hv_sem (d + 1) 120 as h = if hv_w as ≤ 3 then hv_fin (hb_M_breaksIn (hv_step hv_cm hv_vk hv_dv hv_ft 0 0 (some .int) (hv_sem d)) (hv_in 3 as, [], h, 0, 0)) else none := rfl
theorem sem_M_isBarred (d : Nat) (as : List Value) (h : hv_H) : hv_sem (d + 1) 121 as h = if hv_w as ≤ 3 then hv_fin (hb_M_isBarred (hv_step hv_cm hv_vk hv_dv hv_ft 0 0 (some .boolean) (hv_sem d)) (hv_in 3 as, [], h, 0, 0)) else none := rfl
theorem sem_M_givenNow (d : Nat) (as : List Value) (h : hv_H) : hv_sem (d + 1) 122 as h = if hv_w as ≤ 3 then hv_fin (hb_M_givenNow (hv_step hv_cm hv_vk hv_dv hv_ft 0 0 (some .int) (hv_sem d)) (hv_in 3 as, [], h, 0, 0)) else none := rfl
theorem sem_M_hardNow (d : Nat) (as : List Value) (h : hv_H) : hv_sem (d + 1) 123 as h = if hv_w as ≤ 3 then hv_fin (hb_M_hardNow (hv_step hv_cm hv_vk hv_dv hv_ft 0 0 (some .int) (hv_sem d)) (hv_in 3 as, [], h, 0, 0)) else none := rfl
theorem sem_M_canGive (d : Nat) (as : List Value) (h : hv_H) : hv_sem (d + 1) 124 as h = if hv_w as ≤ 3 then hv_fin (hb_M_canGive (hv_step hv_cm hv_vk hv_dv hv_ft 0 0 (some .boolean) (hv_sem d)) (hv_in 3 as, [], h, 0, 0)) else none := rfl
theorem sem_M_gives (d : Nat) (as : List Value) (h : hv_H) : hv_sem (d + 1) 125 as h = if hv_w as ≤ 3 then hv_fin (hb_M_gives (hv_step hv_cm hv_vk hv_dv hv_ft 0 0 none (hv_sem d)) (hv_in 3 as, [], h, 0, 0)) else none := rfl
theorem sem_M_yearPasses (d : Nat) (as : List Value) (h : hv_H) : hv_sem (d + 1) 126 as h = if hv_w as ≤ 4 then hv_fin (hb_M_yearPasses (hv_step hv_cm hv_vk hv_dv hv_ft 0 0 none (hv_sem d)) (hv_in 4 as, [], h, 0, 0)) else none := rfl
theorem sem_M_keeps (d : Nat) (as : List Value) (h : hv_H) : hv_sem (d + 1) 127 as h = if hv_w as ≤ 4 then hv_fin (hb_M_keeps (hv_step hv_cm hv_vk hv_dv hv_ft 0 0 none (hv_sem d)) (hv_in 4 as, [], h, 0, 0)) else none := rfl
theorem sem_M_undo (d : Nat) (as : List Value) (h : hv_H) : hv_sem (d + 1) 128 as h = if hv_w as ≤ 3 then hv_fin (hb_M_undo (hv_step hv_cm hv_vk hv_dv hv_ft 0 0 (some .int) (hv_sem d)) (hv_in 3 as, [], h, 0, 0)) else none := rfl
theorem sem_M_goodOr (d : Nat) (as : List Value) (h : hv_H) : hv_sem (d + 1) 129 as h = if hv_w as ≤ 2 then hv_fin (hb_M_goodOr (hv_step hv_cm hv_vk hv_dv hv_ft 0 0 (some .int) (hv_sem d)) (hv_in 2 as, [], h, 0, 0)) else none := rfl
theorem sem_M_givesKept (d : Nat) (as : List Value) (h : hv_H) : hv_sem (d + 1) 130 as h = if hv_w as ≤ 3 then hv_fin (hb_M_givesKept (hv_step hv_cm hv_vk hv_dv hv_ft 0 0 (some .int) (hv_sem d)) (hv_in 3 as, [], h, 0, 0)) else none := rfl
theorem sem_M_laysKept (d : Nat) (as : List Value) (h : hv_H) : hv_sem (d + 1) 131 as h = if hv_w as ≤ 3 then hv_fin (hb_M_laysKept (hv_step hv_cm hv_vk hv_dv hv_ft 0 0 (some .int) (hv_sem d)) (hv_in 3 as, [], h, 0, 0)) else none := rfl
theorem sem_M_canSwap (d : Nat) (as : List Value) (h : hv_H) : hv_sem (d + 1) 132 as h = if hv_w as ≤ 3 then hv_fin (hb_M_canSwap (hv_step hv_cm hv_vk hv_dv hv_ft 0 0 (some .boolean) (hv_sem d)) (hv_in 3 as, [], h, 0, 0)) else none := rfl
theorem sem_M_swapsKept (d : Nat) (as : List Value) (h : hv_H) : hv_sem (d + 1) 133 as h = if hv_w as ≤ 4 then hv_fin (hb_M_swapsKept (hv_step hv_cm hv_vk hv_dv hv_ft 0 0 (some .int) (hv_sem d)) (hv_in 4 as, [], h, 0, 0)) else none := rfl
theorem sem_M_passesKept (d : Nat) (as : List Value) (h : hv_H) : hv_sem (d + 1) 134 as h = if hv_w as ≤ 1 then hv_fin (hb_M_passesKept (hv_step hv_cm hv_vk hv_dv hv_ft 0 0 (some .int) (hv_sem d)) (hv_in 1 as, [], h, 0, 0)) else none := rfl
theorem sem_M_give (d : Nat) (as : List Value) (h : hv_H) : hv_sem (d + 1) 135 as h = if hv_w as ≤ 3 then hv_fin (hb_M_give (hv_step hv_cm hv_vk hv_dv hv_ft 0 0 (some .int) (hv_sem d)) (hv_in 3 as, [], h, 0, 0)) else none := rfl
theorem sem_M_lay (d : Nat) (as : List Value) (h : hv_H) : hv_sem (d + 1) 136 as h = if hv_w as ≤ 2 then hv_fin (hb_M_lay (hv_step hv_cm hv_vk hv_dv hv_ft 0 0 (some .int) (hv_sem d)) (hv_in 2 as, [], h, 0, 0)) else none := rfl
theorem sem_M_swap (d : Nat) (as : List Value) (h : hv_H) : hv_sem (d + 1) 137 as h = if hv_w as ≤ 3 then hv_fin (hb_M_swap (hv_step hv_cm hv_vk hv_dv hv_ft 0 0 (some .int) (hv_sem d)) (hv_in 3 as, [], h, 0, 0)) else none := rfl
theorem sem_M_pass (d : Nat) (as : List Value) (h : hv_H) : hv_sem (d + 1) 138 as h = if hv_w as ≤ 1 then hv_fin (hb_M_pass (hv_step hv_cm hv_vk hv_dv hv_ft 0 0 (some .int) (hv_sem d)) (hv_in 1 as, [], h, 0, 0)) else none := rfl
theorem sem_M_laysShown (d : Nat) (as : List Value) (h : hv_H) : hv_sem (d + 1) 139 as h = if hv_w as ≤ 3 then hv_fin (hb_M_laysShown (hv_step hv_cm hv_vk hv_dv hv_ft 0 0 none (hv_sem d)) (hv_in 3 as, [], h, 0, 0)) else none := rfl
theorem sem_M_shownBy (d : Nat) (as : List Value) (h : hv_H) : hv_sem (d + 1) 140 as h = if hv_w as ≤ 4 then hv_fin (hb_M_shownBy (hv_step hv_cm hv_vk hv_dv hv_ft 0 0 (some .int) (hv_sem d)) (hv_in 4 as, [], h, 0, 0)) else none := rfl
theorem sem_M_laysBest (d : Nat) (as : List Value) (h : hv_H) : hv_sem (d + 1) 141 as h = if hv_w as ≤ 5 then hv_fin (hb_M_laysBest (hv_step hv_cm hv_vk hv_dv hv_ft 0 0 (some .int) (hv_sem d)) (hv_in 5 as, [], h, 0, 0)) else none := rfl
theorem sem_M_best (d : Nat) (as : List Value) (h : hv_H) : hv_sem (d + 1) 142 as h = if hv_w as ≤ 3 then hv_fin (hb_M_best (hv_step hv_cm hv_vk hv_dv hv_ft 0 0 (some .int) (hv_sem d)) (hv_in 3 as, [], h, 0, 0)) else none := rfl
theorem sem_M_compare (d : Nat) (as : List Value) (h : hv_H) : hv_sem (d + 1) 143 as h = if hv_w as ≤ 3 then hv_fin (hb_M_compare (hv_step hv_cm hv_vk hv_dv hv_ft 0 0 (some .int) (hv_sem d)) (hv_in 3 as, [], h, 0, 0)) else none := rfl
theorem sem_M_hardByBest (d : Nat) (as : List Value) (h : hv_H) : hv_sem (d + 1) 144 as h = if hv_w as ≤ 2 then hv_fin (hb_M_hardByBest (hv_step hv_cm hv_vk hv_dv hv_ft 0 0 (some .int) (hv_sem d)) (hv_in 2 as, [], h, 0, 0)) else none := rfl
theorem sem_M_hide (d : Nat) (as : List Value) (h : hv_H) : hv_sem (d + 1) 145 as h = if hv_w as ≤ 8 then hv_fin (hb_M_hide (hv_step hv_cm hv_vk hv_dv hv_ft 0 0 (some .int) (hv_sem d)) (hv_in 8 as, [], h, 0, 0)) else none := rfl
theorem sem_M_sumByBest (d : Nat) (as : List Value) (h : hv_H) : hv_sem (d + 1) 146 as h = if hv_w as ≤ 3 then hv_fin (hb_M_sumByBest (hv_step hv_cm hv_vk hv_dv hv_ft 0 0 (some .int) (hv_sem d)) (hv_in 3 as, [], h, 0, 0)) else none := rfl
theorem sem_M_obeysBest (d : Nat) (as : List Value) (h : hv_H) : hv_sem (d + 1) 147 as h = if hv_w as ≤ 3 then hv_fin (hb_M_obeysBest (hv_step hv_cm hv_vk hv_dv hv_ft 0 0 none (hv_sem d)) (hv_in 3 as, [], h, 0, 0)) else none := rfl
theorem sem_M_soft (d : Nat) (as : List Value) (h : hv_H) : hv_sem (d + 1) 148 as h = if hv_w as ≤ 4 then hv_fin (hb_M_soft (hv_step hv_cm hv_vk hv_dv hv_ft 0 0 (some .int) (hv_sem d)) (hv_in 4 as, [], h, 0, 0)) else none := rfl
theorem sem_M_triesFair (d : Nat) (as : List Value) (h : hv_H) : hv_sem (d + 1) 149 as h = if hv_w as ≤ 6 then hv_fin (hb_M_triesFair (hv_step hv_cm hv_vk hv_dv hv_ft 0 0 none (hv_sem d)) (hv_in 6 as, [], h, 0, 0)) else none := rfl
theorem sem_M_fair (d : Nat) (as : List Value) (h : hv_H) : hv_sem (d + 1) 150 as h = if hv_w as ≤ 2 then hv_fin (hb_M_fair (hv_step hv_cm hv_vk hv_dv hv_ft 0 0 (some .int) (hv_sem d)) (hv_in 2 as, [], h, 0, 0)) else none := rfl
theorem sem_M_isKept (d : Nat) (as : List Value) (h : hv_H) : hv_sem (d + 1) 151 as h = if hv_w as ≤ 4 then hv_fin (hb_M_isKept (hv_step hv_cm hv_vk hv_dv hv_ft 0 0 (some .boolean) (hv_sem d)) (hv_in 4 as, [], h, 0, 0)) else none := rfl
theorem sem_M_wishOf (d : Nat) (as : List Value) (h : hv_H) : hv_sem (d + 1) 152 as h = if hv_w as ≤ 4 then hv_fin (hb_M_wishOf (hv_step hv_cm hv_vk hv_dv hv_ft 0 0 (some .int) (hv_sem d)) (hv_in 4 as, [], h, 0, 0)) else none := rfl
theorem sem_M_nextAsker (d : Nat) (as : List Value) (h : hv_H) : hv_sem (d + 1) 153 as h = if hv_w as ≤ 2 then hv_fin (hb_M_nextAsker (hv_step hv_cm hv_vk hv_dv hv_ft 0 0 (some .int) (hv_sem d)) (hv_in 2 as, [], h, 0, 0)) else none := rfl
theorem sem_M_wished (d : Nat) (as : List Value) (h : hv_H) : hv_sem (d + 1) 154 as h = if hv_w as ≤ 6 then hv_fin (hb_M_wished (hv_step hv_cm hv_vk hv_dv hv_ft 0 0 (some .int) (hv_sem d)) (hv_in 6 as, [], h, 0, 0)) else none := rfl
theorem sem_M_isHarder (d : Nat) (as : List Value) (h : hv_H) : hv_sem (d + 1) 155 as h = if hv_w as ≤ 5 then hv_fin (hb_M_isHarder (hv_step hv_cm hv_vk hv_dv hv_ft 0 0 (some .boolean) (hv_sem d)) (hv_in 5 as, [], h, 0, 0)) else none := rfl
theorem sem_M_swaps (d : Nat) (as : List Value) (h : hv_H) : hv_sem (d + 1) 156 as h = if hv_w as ≤ 5 then hv_fin (hb_M_swaps (hv_step hv_cm hv_vk hv_dv hv_ft 0 0 (some .int) (hv_sem d)) (hv_in 5 as, [], h, 0, 0)) else none := rfl
theorem sem_M_kept (d : Nat) (as : List Value) (h : hv_H) : hv_sem (d + 1) 157 as h = if hv_w as ≤ 7 then hv_fin (hb_M_kept (hv_step hv_cm hv_vk hv_dv hv_ft 0 0 (some .long) (hv_sem d)) (hv_in 7 as, [], h, 0, 0)) else none := rfl
theorem sem_M_seen (d : Nat) (as : List Value) (h : hv_H) : hv_sem (d + 1) 158 as h = if hv_w as ≤ 4 then hv_fin (hb_M_seen (hv_step hv_cm hv_vk hv_dv hv_ft 0 0 (some .int) (hv_sem d)) (hv_in 4 as, [], h, 0, 0)) else none := rfl
theorem sem_M_forget (d : Nat) (as : List Value) (h : hv_H) : hv_sem (d + 1) 159 as h = if hv_w as ≤ 2 then hv_fin (hb_M_forget (hv_step hv_cm hv_vk hv_dv hv_ft 0 0 (some .int) (hv_sem d)) (hv_in 2 as, [], h, 0, 0)) else none := rfl
theorem sem_M_canBe (d : Nat) (as : List Value) (h : hv_H) : hv_sem (d + 1) 160 as h = if hv_w as ≤ 4 then hv_fin (hb_M_canBe (hv_step hv_cm hv_vk hv_dv hv_ft 0 0 (some .boolean) (hv_sem d)) (hv_in 4 as, [], h, 0, 0)) else none := rfl
theorem sem_M_who (d : Nat) (as : List Value) (h : hv_H) : hv_sem (d + 1) 161 as h = if hv_w as ≤ 3 then hv_fin (hb_M_who (hv_step hv_cm hv_vk hv_dv hv_ft 0 0 (some .int) (hv_sem d)) (hv_in 3 as, [], h, 0, 0)) else none := rfl
theorem sem_M_mostAlike (d : Nat) (as : List Value) (h : hv_H) : hv_sem (d + 1) 162 as h = if hv_w as ≤ 7 then hv_fin (hb_M_mostAlike (hv_step hv_cm hv_vk hv_dv hv_ft 0 0 (some .int) (hv_sem d)) (hv_in 7 as, [], h, 0, 0)) else none := rfl
theorem sem_M_look (d : Nat) (as : List Value) (h : hv_H) : hv_sem (d + 1) 163 as h = if hv_w as ≤ 7 then hv_fin (hb_M_look (hv_step hv_cm hv_vk hv_dv hv_ft 0 0 (some .int) (hv_sem d)) (hv_in 7 as, [], h, 0, 0)) else none := rfl
theorem sem_M_stopped (d : Nat) (as : List Value) (h : hv_H) : hv_sem (d + 1) 164 as h = if hv_w as ≤ 1 then hv_fin (hb_M_stopped (hv_step hv_cm hv_vk hv_dv hv_ft 0 0 (some .int) (hv_sem d)) (hv_in 1 as, [], h, 0, 0)) else none := rfl
theorem sem_M_orders (d : Nat) (as : List Value) (h : hv_H) : hv_sem (d + 1) 165 as h = if hv_w as ≤ 5 then hv_fin (hb_M_orders (hv_step hv_cm hv_vk hv_dv hv_ft 0 0 (some .int) (hv_sem d)) (hv_in 5 as, [], h, 0, 0)) else none := rfl
theorem sem_M_goesAlong (d : Nat) (as : List Value) (h : hv_H) : hv_sem (d + 1) 166 as h = if hv_w as ≤ 5 then hv_fin (hb_M_goesAlong (hv_step hv_cm hv_vk hv_dv hv_ft 0 0 none (hv_sem d)) (hv_in 5 as, [], h, 0, 0)) else none := rfl
theorem sem_M_small (d : Nat) (as : List Value) (h : hv_H) : hv_sem (d + 1) 167 as h = if hv_w as ≤ 2 then hv_fin (hb_M_small (hv_step hv_cm hv_vk hv_dv hv_ft 0 0 (some .int) (hv_sem d)) (hv_in 2 as, [], h, 0, 0)) else none := rfl
theorem sem_M_obeys (d : Nat) (as : List Value) (h : hv_H) : hv_sem (d + 1) 168 as h = if hv_w as ≤ 3 then hv_fin (hb_M_obeys (hv_step hv_cm hv_vk hv_dv hv_ft 0 0 (some .int) (hv_sem d)) (hv_in 3 as, [], h, 0, 0)) else none := rfl
theorem sem_M_runs (d : Nat) (as : List Value) (h : hv_H) : hv_sem (d + 1) 169 as h = if hv_w as ≤ 5 then hv_fin (hb_M_runs (hv_step hv_cm hv_vk hv_dv hv_ft 0 0 (some .boolean) (hv_sem d)) (hv_in 5 as, [], h, 0, 0)) else none := rfl
theorem sem_M_draws (d : Nat) (as : List Value) (h : hv_H) : hv_sem (d + 1) 170 as h = if hv_w as ≤ 2 then hv_fin (hb_M_draws (hv_step hv_cm hv_vk hv_dv hv_ft 0 0 (some .int) (hv_sem d)) (hv_in 2 as, [], h, 0, 0)) else none := rfl
theorem sem_M_yearIsDrawn (d : Nat) (as : List Value) (h : hv_H) : hv_sem (d + 1) 171 as h = if hv_w as ≤ 4 then hv_fin (hb_M_yearIsDrawn (hv_step hv_cm hv_vk hv_dv hv_ft 0 0 (some .boolean) (hv_sem d)) (hv_in 4 as, [], h, 0, 0)) else none := rfl
theorem sem_M_years (d : Nat) (as : List Value) (h : hv_H) : hv_sem (d + 1) 172 as h = if hv_w as ≤ 5 then hv_fin (hb_M_years (hv_step hv_cm hv_vk hv_dv hv_ft 0 0 (some .int) (hv_sem d)) (hv_in 5 as, [], h, 0, 0)) else none := rfl
theorem sem_M_drawn (d : Nat) (as : List Value) (h : hv_H) : hv_sem (d + 1) 173 as h = if hv_w as ≤ 3 then hv_fin (hb_M_drawn (hv_step hv_cm hv_vk hv_dv hv_ft 0 0 (some .int) (hv_sem d)) (hv_in 3 as, [], h, 0, 0)) else none := rfl
theorem sem_M_count (d : Nat) (as : List Value) (h : hv_H) : hv_sem (d + 1) 174 as h = if hv_w as ≤ 2 then hv_fin (hb_M_count (hv_step hv_cm hv_vk hv_dv hv_ft 0 0 (some .int) (hv_sem d)) (hv_in 2 as, [], h, 0, 0)) else none := rfl
theorem sem_M_status (d : Nat) (as : List Value) (h : hv_H) : hv_sem (d + 1) 175 as h = if hv_w as ≤ 1 then hv_fin (hb_M_status (hv_step hv_cm hv_vk hv_dv hv_ft 0 0 (some .int) (hv_sem d)) (hv_in 1 as, [], h, 0, 0)) else none := rfl
theorem sem_Chooser_init (d : Nat) (as : List Value) (h : hv_H) : hv_sem (d + 1) 176 as h = if hv_w as ≤ 1 then hv_fin (hb_Chooser_init (hv_step hv_cm hv_vk hv_dv hv_ft 5 1094 none (hv_sem d)) (hv_in 1 as, [], h, 0, 0)) else none := rfl
theorem sem_Chooser_chosen (d : Nat) (as : List Value) (h : hv_H) : hv_sem (d + 1) 177 as h = if hv_w as ≤ 2 then hv_fin (hb_Chooser_chosen (hv_step hv_cm hv_vk hv_dv hv_ft 0 0 (some .int) (hv_sem d)) (hv_in 2 as, [], h, 0, 0)) else none := rfl
theorem sem_Chooser_total (d : Nat) (as : List Value) (h : hv_H) : hv_sem (d + 1) 178 as h = if hv_w as ≤ 1 then hv_fin (hb_Chooser_total (hv_step hv_cm hv_vk hv_dv hv_ft 0 0 (some .int) (hv_sem d)) (hv_in 1 as, [], h, 0, 0)) else none := rfl
theorem sem_Chooser_chooseBest (d : Nat) (as : List Value) (h : hv_H) : hv_sem (d + 1) 179 as h = if hv_w as ≤ 3 then hv_fin (hb_Chooser_chooseBest (hv_step hv_cm hv_vk hv_dv hv_ft 0 0 (some .int) (hv_sem d)) (hv_in 3 as, [], h, 0, 0)) else none := rfl
theorem sem_Chooser_chooseWeighed (d : Nat) (as : List Value) (h : hv_H) : hv_sem (d + 1) 180 as h = if hv_w as ≤ 2 then hv_fin (hb_Chooser_chooseWeighed (hv_step hv_cm hv_vk hv_dv hv_ft 0 0 (some .int) (hv_sem d)) (hv_in 2 as, [], h, 0, 0)) else none := rfl
theorem sem_Chooser_weighShown (d : Nat) (as : List Value) (h : hv_H) : hv_sem (d + 1) 181 as h = if hv_w as ≤ 6 then hv_fin (hb_Chooser_weighShown (hv_step hv_cm hv_vk hv_dv hv_ft 0 0 none (hv_sem d)) (hv_in 6 as, [], h, 0, 0)) else none := rfl
theorem sem_Chooser_worthOf (d : Nat) (as : List Value) (h : hv_H) : hv_sem (d + 1) 182 as h = if hv_w as ≤ 3 then hv_fin (hb_Chooser_worthOf (hv_step hv_cm hv_vk hv_dv hv_ft 0 0 (some .int) (hv_sem d)) (hv_in 3 as, [], h, 0, 0)) else none := rfl
theorem sem_Chooser_setWorth (d : Nat) (as : List Value) (h : hv_H) : hv_sem (d + 1) 183 as h = if hv_w as ≤ 4 then hv_fin (hb_Chooser_setWorth (hv_step hv_cm hv_vk hv_dv hv_ft 0 0 none (hv_sem d)) (hv_in 4 as, [], h, 0, 0)) else none := rfl
theorem sem_Chooser_chooseFair (d : Nat) (as : List Value) (h : hv_H) : hv_sem (d + 1) 184 as h = if hv_w as ≤ 5 then hv_fin (hb_Chooser_chooseFair (hv_step hv_cm hv_vk hv_dv hv_ft 0 0 (some .int) (hv_sem d)) (hv_in 5 as, [], h, 0, 0)) else none := rfl
theorem sem_Chooser_weighHard (d : Nat) (as : List Value) (h : hv_H) : hv_sem (d + 1) 185 as h = if hv_w as ≤ 6 then hv_fin (hb_Chooser_weighHard (hv_step hv_cm hv_vk hv_dv hv_ft 0 0 none (hv_sem d)) (hv_in 6 as, [], h, 0, 0)) else none := rfl
theorem sem_Chooser_fillMost (d : Nat) (as : List Value) (h : hv_H) : hv_sem (d + 1) 186 as h = if hv_w as ≤ 5 then hv_fin (hb_Chooser_fillMost (hv_step hv_cm hv_vk hv_dv hv_ft 0 0 none (hv_sem d)) (hv_in 5 as, [], h, 0, 0)) else none := rfl
theorem sem_Chooser_mostFrom (d : Nat) (as : List Value) (h : hv_H) : hv_sem (d + 1) 187 as h = if hv_w as ≤ 5 then hv_fin (hb_Chooser_mostFrom (hv_step hv_cm hv_vk hv_dv hv_ft 0 0 (some .int) (hv_sem d)) (hv_in 5 as, [], h, 0, 0)) else none := rfl
theorem sem_Chooser_mostWith (d : Nat) (as : List Value) (h : hv_H) : hv_sem (d + 1) 188 as h = if hv_w as ≤ 6 then hv_fin (hb_Chooser_mostWith (hv_step hv_cm hv_vk hv_dv hv_ft 0 0 (some .int) (hv_sem d)) (hv_in 6 as, [], h, 0, 0)) else none := rfl
theorem sem_Chooser_fillRow (d : Nat) (as : List Value) (h : hv_H) : hv_sem (d + 1) 189 as h = if hv_w as ≤ 6 then hv_fin (hb_Chooser_fillRow (hv_step hv_cm hv_vk hv_dv hv_ft 0 0 none (hv_sem d)) (hv_in 6 as, [], h, 0, 0)) else none := rfl
theorem sem_Chooser_chooseWished (d : Nat) (as : List Value) (h : hv_H) : hv_sem (d + 1) 190 as h = if hv_w as ≤ 5 then hv_fin (hb_Chooser_chooseWished (hv_step hv_cm hv_vk hv_dv hv_ft 0 0 (some .int) (hv_sem d)) (hv_in 5 as, [], h, 0, 0)) else none := rfl
theorem sem_Chooser_lowestToAsk (d : Nat) (as : List Value) (h : hv_H) : hv_sem (d + 1) 191 as h = if hv_w as ≤ 3 then hv_fin (hb_Chooser_lowestToAsk (hv_step hv_cm hv_vk hv_dv hv_ft 0 0 (some .int) (hv_sem d)) (hv_in 3 as, [], h, 0, 0)) else none := rfl
theorem sem_Chooser_nextWish (d : Nat) (as : List Value) (h : hv_H) : hv_sem (d + 1) 192 as h = if hv_w as ≤ 5 then hv_fin (hb_Chooser_nextWish (hv_step hv_cm hv_vk hv_dv hv_ft 0 0 (some .int) (hv_sem d)) (hv_in 5 as, [], h, 0, 0)) else none := rfl
theorem sem_Chooser_askFor (d : Nat) (as : List Value) (h : hv_H) : hv_sem (d + 1) 193 as h = if hv_w as ≤ 4 then hv_fin (hb_Chooser_askFor (hv_step hv_cm hv_vk hv_dv hv_ft 0 0 none (hv_sem d)) (hv_in 4 as, [], h, 0, 0)) else none := rfl
theorem sem_Code_init_0 (d : Nat) (as : List Value) (h : hv_H) : hv_sem (d + 1) 194 as h = if hv_w as ≤ 1 then hv_fin (hb_Code_init_0 (hv_step hv_cm hv_vk hv_dv hv_ft 2 460 none (hv_sem d)) (hv_in 1 as, [], h, 0, 0)) else none := rfl
theorem sem_Code_init_1 (d : Nat) (as : List Value) (h : hv_H) : hv_sem (d + 1) 195 as h = if hv_w as ≤ 2 then hv_fin (hb_Code_init_1 (hv_step hv_cm hv_vk hv_dv hv_ft 2 800 none (hv_sem d)) (hv_in 2 as, [], h, 0, 0)) else none := rfl
theorem sem_Code_clear (d : Nat) (as : List Value) (h : hv_H) : hv_sem (d + 1) 196 as h = if hv_w as ≤ 1 then hv_fin (hb_Code_clear (hv_step hv_cm hv_vk hv_dv hv_ft 0 0 none (hv_sem d)) (hv_in 1 as, [], h, 0, 0)) else none := rfl
theorem sem_Code_addClause (d : Nat) (as : List Value) (h : hv_H) : hv_sem (d + 1) 197 as h = if hv_w as ≤ 2 then hv_fin (hb_Code_addClause (hv_step hv_cm hv_vk hv_dv hv_ft 0 0 none (hv_sem d)) (hv_in 2 as, [], h, 0, 0)) else none := rfl
theorem sem_Code_mark (d : Nat) (as : List Value) (h : hv_H) : hv_sem (d + 1) 198 as h = if hv_w as ≤ 3 then hv_fin (hb_Code_mark (hv_step hv_cm hv_vk hv_dv hv_ft 0 0 none (hv_sem d)) (hv_in 3 as, [], h, 0, 0)) else none := rfl
theorem sem_Code_marked (d : Nat) (as : List Value) (h : hv_H) : hv_sem (d + 1) 199 as h = if hv_w as ≤ 3 then hv_fin (hb_Code_marked (hv_step hv_cm hv_vk hv_dv hv_ft 0 0 (some .int) (hv_sem d)) (hv_in 3 as, [], h, 0, 0)) else none := rfl
theorem sem_Code_addStep (d : Nat) (as : List Value) (h : hv_H) : hv_sem (d + 1) 200 as h = if hv_w as ≤ 3 then hv_fin (hb_Code_addStep (hv_step hv_cm hv_vk hv_dv hv_ft 0 0 (some .int) (hv_sem d)) (hv_in 3 as, [], h, 0, 0)) else none := rfl
theorem sem_Code_leadHere (d : Nat) (as : List Value) (h : hv_H) : hv_sem (d + 1) 201 as h = if hv_w as ≤ 2 then hv_fin (hb_Code_leadHere (hv_step hv_cm hv_vk hv_dv hv_ft 0 0 none (hv_sem d)) (hv_in 2 as, [], h, 0, 0)) else none := rfl
theorem sem_Deeds_init (d : Nat) (as : List Value) (h : hv_H) : hv_sem (d + 1) 202 as h = if hv_w as ≤ 4 then hv_fin (hb_Deeds_init (hv_step hv_cm hv_vk hv_dv hv_ft 9 2236 none (hv_sem d)) (hv_in 4 as, [], h, 0, 0)) else none := rfl
theorem sem_Deeds_giveVow (d : Nat) (as : List Value) (h : hv_H) : hv_sem (d + 1) 203 as h = if hv_w as ≤ 4 then hv_fin (hb_Deeds_giveVow (hv_step hv_cm hv_vk hv_dv hv_ft 0 0 (some .int) (hv_sem d)) (hv_in 4 as, [], h, 0, 0)) else none := rfl
theorem sem_Deeds_layDown (d : Nat) (as : List Value) (h : hv_H) : hv_sem (d + 1) 204 as h = if hv_w as ≤ 3 then hv_fin (hb_Deeds_layDown (hv_step hv_cm hv_vk hv_dv hv_ft 0 0 (some .int) (hv_sem d)) (hv_in 3 as, [], h, 0, 0)) else none := rfl
theorem sem_Deeds_swapVows (d : Nat) (as : List Value) (h : hv_H) : hv_sem (d + 1) 205 as h = if hv_w as ≤ 6 then hv_fin (hb_Deeds_swapVows (hv_step hv_cm hv_vk hv_dv hv_ft 0 0 (some .int) (hv_sem d)) (hv_in 6 as, [], h, 0, 0)) else none := rfl
theorem sem_Deeds_passYear (d : Nat) (as : List Value) (h : hv_H) : hv_sem (d + 1) 206 as h = if hv_w as ≤ 1 then hv_fin (hb_Deeds_passYear (hv_step hv_cm hv_vk hv_dv hv_ft 0 0 (some .int) (hv_sem d)) (hv_in 1 as, [], h, 0, 0)) else none := rfl
theorem sem_Deeds_takeBack (d : Nat) (as : List Value) (h : hv_H) : hv_sem (d + 1) 207 as h = if hv_w as ≤ 1 then hv_fin (hb_Deeds_takeBack (hv_step hv_cm hv_vk hv_dv hv_ft 0 0 (some .int) (hv_sem d)) (hv_in 1 as, [], h, 0, 0)) else none := rfl
theorem sem_Deeds_run (d : Nat) (as : List Value) (h : hv_H) : hv_sem (d + 1) 208 as h = if hv_w as ≤ 5 then hv_fin (hb_Deeds_run (hv_step hv_cm hv_vk hv_dv hv_ft 0 0 (some .int) (hv_sem d)) (hv_in 5 as, [], h, 0, 0)) else none := rfl
theorem sem_Deeds_isWanted (d : Nat) (as : List Value) (h : hv_H) : hv_sem (d + 1) 209 as h = if hv_w as ≤ 4 then hv_fin (hb_Deeds_isWanted (hv_step hv_cm hv_vk hv_dv hv_ft 0 0 (some .boolean) (hv_sem d)) (hv_in 4 as, [], h, 0, 0)) else none := rfl
theorem sem_Deeds_carryOut (d : Nat) (as : List Value) (h : hv_H) : hv_sem (d + 1) 210 as h = if hv_w as ≤ 7 then hv_fin (hb_Deeds_carryOut (hv_step hv_cm hv_vk hv_dv hv_ft 0 0 (some .int) (hv_sem d)) (hv_in 7 as, [], h, 0, 0)) else none := rfl
theorem sem_Deeds_setWords (d : Nat) (as : List Value) (h : hv_H) : hv_sem (d + 1) 211 as h = if hv_w as ≤ 3 then hv_fin (hb_Deeds_setWords (hv_step hv_cm hv_vk hv_dv hv_ft 0 0 none (hv_sem d)) (hv_in 3 as, [], h, 0, 0)) else none := rfl
theorem sem_House_init (d : Nat) (as : List Value) (h : hv_H) : hv_sem (d + 1) 212 as h = if hv_w as ≤ 1 then hv_fin (hb_House_init (hv_step hv_cm hv_vk hv_dv hv_ft 1 66 none (hv_sem d)) (hv_in 1 as, [], h, 0, 0)) else none := rfl
theorem sem_House_monks (d : Nat) (as : List Value) (h : hv_H) : hv_sem (d + 1) 213 as h = if hv_w as ≤ 1 then hv_fin (hb_House_monks (hv_step hv_cm hv_vk hv_dv hv_ft 0 0 (some .int) (hv_sem d)) (hv_in 1 as, [], h, 0, 0)) else none := rfl
theorem sem_House_isMonk (d : Nat) (as : List Value) (h : hv_H) : hv_sem (d + 1) 214 as h = if hv_w as ≤ 2 then hv_fin (hb_House_isMonk (hv_step hv_cm hv_vk hv_dv hv_ft 0 0 (some .boolean) (hv_sem d)) (hv_in 2 as, [], h, 0, 0)) else none := rfl
theorem sem_House_addMonk (d : Nat) (as : List Value) (h : hv_H) : hv_sem (d + 1) 215 as h = if hv_w as ≤ 2 then hv_fin (hb_House_addMonk (hv_step hv_cm hv_vk hv_dv hv_ft 0 0 (some .int) (hv_sem d)) (hv_in 2 as, [], h, 0, 0)) else none := rfl
theorem sem_House_hardOf (d : Nat) (as : List Value) (h : hv_H) : hv_sem (d + 1) 216 as h = if hv_w as ≤ 3 then hv_fin (hb_House_hardOf (hv_step hv_cm hv_vk hv_dv hv_ft 0 0 (some .int) (hv_sem d)) (hv_in 3 as, [], h, 0, 0)) else none := rfl
theorem sem_House_setHard (d : Nat) (as : List Value) (h : hv_H) : hv_sem (d + 1) 217 as h = if hv_w as ≤ 4 then hv_fin (hb_House_setHard (hv_step hv_cm hv_vk hv_dv hv_ft 0 0 none (hv_sem d)) (hv_in 4 as, [], h, 0, 0)) else none := rfl
theorem sem_House_vowOf (d : Nat) (as : List Value) (h : hv_H) : hv_sem (d + 1) 218 as h = if hv_w as ≤ 2 then hv_fin (hb_House_vowOf (hv_step hv_cm hv_vk hv_dv hv_ft 0 0 (some .int) (hv_sem d)) (hv_in 2 as, [], h, 0, 0)) else none := rfl
theorem sem_House_setVow (d : Nat) (as : List Value) (h : hv_H) : hv_sem (d + 1) 219 as h = if hv_w as ≤ 3 then hv_fin (hb_House_setVow (hv_step hv_cm hv_vk hv_dv hv_ft 0 0 none (hv_sem d)) (hv_in 3 as, [], h, 0, 0)) else none := rfl
theorem sem_House_heldOf (d : Nat) (as : List Value) (h : hv_H) : hv_sem (d + 1) 220 as h = if hv_w as ≤ 3 then hv_fin (hb_House_heldOf (hv_step hv_cm hv_vk hv_dv hv_ft 0 0 (some .int) (hv_sem d)) (hv_in 3 as, [], h, 0, 0)) else none := rfl
theorem sem_House_holdOneMore (d : Nat) (as : List Value) (h : hv_H) : hv_sem (d + 1) 221 as h = if hv_w as ≤ 3 then hv_fin (hb_House_holdOneMore (hv_step hv_cm hv_vk hv_dv hv_ft 0 0 none (hv_sem d)) (hv_in 3 as, [], h, 0, 0)) else none := rfl
theorem sem_House_isHad (d : Nat) (as : List Value) (h : hv_H) : hv_sem (d + 1) 222 as h = if hv_w as ≤ 3 then hv_fin (hb_House_isHad (hv_step hv_cm hv_vk hv_dv hv_ft 0 0 (some .boolean) (hv_sem d)) (hv_in 3 as, [], h, 0, 0)) else none := rfl
theorem sem_House_given (d : Nat) (as : List Value) (h : hv_H) : hv_sem (d + 1) 223 as h = if hv_w as ≤ 3 then hv_fin (hb_House_given (hv_step hv_cm hv_vk hv_dv hv_ft 0 0 (some .int) (hv_sem d)) (hv_in 3 as, [], h, 0, 0)) else none := rfl
theorem sem_House_hardOfAllHad (d : Nat) (as : List Value) (h : hv_H) : hv_sem (d + 1) 224 as h = if hv_w as ≤ 3 then hv_fin (hb_House_hardOfAllHad (hv_step hv_cm hv_vk hv_dv hv_ft 0 0 (some .int) (hv_sem d)) (hv_in 3 as, [], h, 0, 0)) else none := rfl
theorem sem_House_year (d : Nat) (as : List Value) (h : hv_H) : hv_sem (d + 1) 225 as h = if hv_w as ≤ 1 then hv_fin (hb_House_year (hv_step hv_cm hv_vk hv_dv hv_ft 0 0 (some .int) (hv_sem d)) (hv_in 1 as, [], h, 0, 0)) else none := rfl
theorem sem_House_setYear (d : Nat) (as : List Value) (h : hv_H) : hv_sem (d + 1) 226 as h = if hv_w as ≤ 2 then hv_fin (hb_House_setYear (hv_step hv_cm hv_vk hv_dv hv_ft 0 0 none (hv_sem d)) (hv_in 2 as, [], h, 0, 0)) else none := rfl
theorem sem_House_mood (d : Nat) (as : List Value) (h : hv_H) : hv_sem (d + 1) 227 as h = if hv_w as ≤ 1 then hv_fin (hb_House_mood (hv_step hv_cm hv_vk hv_dv hv_ft 0 0 (some .int) (hv_sem d)) (hv_in 1 as, [], h, 0, 0)) else none := rfl
theorem sem_House_setMood (d : Nat) (as : List Value) (h : hv_H) : hv_sem (d + 1) 228 as h = if hv_w as ≤ 2 then hv_fin (hb_House_setMood (hv_step hv_cm hv_vk hv_dv hv_ft 0 0 none (hv_sem d)) (hv_in 2 as, [], h, 0, 0)) else none := rfl
theorem sem_House_copyFrom (d : Nat) (as : List Value) (h : hv_H) : hv_sem (d + 1) 229 as h = if hv_w as ≤ 2 then hv_fin (hb_House_copyFrom (hv_step hv_cm hv_vk hv_dv hv_ft 0 0 none (hv_sem d)) (hv_in 2 as, [], h, 0, 0)) else none := rfl
theorem sem_Machine_init (d : Nat) (as : List Value) (h : hv_H) : hv_sem (d + 1) 230 as h = if hv_w as ≤ 1 then hv_fin (hb_Machine_init (hv_step hv_cm hv_vk hv_dv hv_ft 1 50 none (hv_sem d)) (hv_in 1 as, [], h, 0, 0)) else none := rfl
theorem sem_Machine_told (d : Nat) (as : List Value) (h : hv_H) : hv_sem (d + 1) 231 as h = if hv_w as ≤ 1 then hv_fin (hb_Machine_told (hv_step hv_cm hv_vk hv_dv hv_ft 0 0 (some .int) (hv_sem d)) (hv_in 1 as, [], h, 0, 0)) else none := rfl
theorem sem_Machine_works (d : Nat) (as : List Value) (h : hv_H) : hv_sem (d + 1) 232 as h = if hv_w as ≤ 7 then hv_fin (hb_Machine_works (hv_step hv_cm hv_vk hv_dv hv_ft 0 0 (some .boolean) (hv_sem d)) (hv_in 7 as, [], h, 0, 0)) else none := rfl
theorem sem_Machine_endsWell (d : Nat) (as : List Value) (h : hv_H) : hv_sem (d + 1) 233 as h = if hv_w as ≤ 1 then hv_fin (hb_Machine_endsWell (hv_step hv_cm hv_vk hv_dv hv_ft 0 0 (some .boolean) (hv_sem d)) (hv_in 1 as, [], h, 0, 0)) else none := rfl
theorem sem_Machine_push (d : Nat) (as : List Value) (h : hv_H) : hv_sem (d + 1) 234 as h = if hv_w as ≤ 2 then hv_fin (hb_Machine_push (hv_step hv_cm hv_vk hv_dv hv_ft 0 0 none (hv_sem d)) (hv_in 2 as, [], h, 0, 0)) else none := rfl
theorem sem_Machine_turn (d : Nat) (as : List Value) (h : hv_H) : hv_sem (d + 1) 235 as h = if hv_w as ≤ 1 then hv_fin (hb_Machine_turn (hv_step hv_cm hv_vk hv_dv hv_ft 0 0 none (hv_sem d)) (hv_in 1 as, [], h, 0, 0)) else none := rfl
theorem sem_Machine_isSettled (d : Nat) (as : List Value) (h : hv_H) : hv_sem (d + 1) 236 as h = if hv_w as ≤ 3 then hv_fin (hb_Machine_isSettled (hv_step hv_cm hv_vk hv_dv hv_ft 0 0 (some .boolean) (hv_sem d)) (hv_in 3 as, [], h, 0, 0)) else none := rfl
theorem sem_Machine_combines (d : Nat) (as : List Value) (h : hv_H) : hv_sem (d + 1) 237 as h = if hv_w as ≤ 8 then hv_fin (hb_Machine_combines (hv_step hv_cm hv_vk hv_dv hv_ft 0 0 (some .boolean) (hv_sem d)) (hv_in 8 as, [], h, 0, 0)) else none := rfl
theorem sem_Paper_init (d : Nat) (as : List Value) (h : hv_H) : hv_sem (d + 1) 238 as h = if hv_w as ≤ 3 then hv_fin (hb_Paper_init (hv_step hv_cm hv_vk hv_dv hv_ft 5 141 none (hv_sem d)) (hv_in 3 as, [], h, 0, 0)) else none := rfl
theorem sem_Paper_hidden (d : Nat) (as : List Value) (h : hv_H) : hv_sem (d + 1) 239 as h = if hv_w as ≤ 12 then hv_fin (hb_Paper_hidden (hv_step hv_cm hv_vk hv_dv hv_ft 0 0 (some .int) (hv_sem d)) (hv_in 12 as, [], h, 0, 0)) else none := rfl
theorem sem_Paper_hardOfChosen (d : Nat) (as : List Value) (h : hv_H) : hv_sem (d + 1) 240 as h = if hv_w as ≤ 4 then hv_fin (hb_Paper_hardOfChosen (hv_step hv_cm hv_vk hv_dv hv_ft 0 0 (some .int) (hv_sem d)) (hv_in 4 as, [], h, 0, 0)) else none := rfl
theorem sem_Paper_firstSoftYear (d : Nat) (as : List Value) (h : hv_H) : hv_sem (d + 1) 241 as h = if hv_w as ≤ 5 then hv_fin (hb_Paper_firstSoftYear (hv_step hv_cm hv_vk hv_dv hv_ft 0 0 (some .int) (hv_sem d)) (hv_in 5 as, [], h, 0, 0)) else none := rfl
theorem sem_Paper_takeSheet (d : Nat) (as : List Value) (h : hv_H) : hv_sem (d + 1) 242 as h = if hv_w as ≤ 2 then hv_fin (hb_Paper_takeSheet (hv_step hv_cm hv_vk hv_dv hv_ft 0 0 none (hv_sem d)) (hv_in 2 as, [], h, 0, 0)) else none := rfl
theorem sem_Paper_takeChosen (d : Nat) (as : List Value) (h : hv_H) : hv_sem (d + 1) 243 as h = if hv_w as ≤ 4 then hv_fin (hb_Paper_takeChosen (hv_step hv_cm hv_vk hv_dv hv_ft 0 0 none (hv_sem d)) (hv_in 4 as, [], h, 0, 0)) else none := rfl
theorem sem_Paper_chanceKept (d : Nat) (as : List Value) (h : hv_H) : hv_sem (d + 1) 244 as h = if hv_w as ≤ 8 then hv_fin (hb_Paper_chanceKept (hv_step hv_cm hv_vk hv_dv hv_ft 0 0 (some .long) (hv_sem d)) (hv_in 8 as, [], h, 0, 0)) else none := rfl
theorem sem_Paper_possibleMonks (d : Nat) (as : List Value) (h : hv_H) : hv_sem (d + 1) 245 as h = if hv_w as ≤ 4 then hv_fin (hb_Paper_possibleMonks (hv_step hv_cm hv_vk hv_dv hv_ft 0 0 (some .int) (hv_sem d)) (hv_in 4 as, [], h, 0, 0)) else none := rfl
theorem sem_Paper_showsAllSeen (d : Nat) (as : List Value) (h : hv_H) : hv_sem (d + 1) 246 as h = if hv_w as ≤ 4 then hv_fin (hb_Paper_showsAllSeen (hv_step hv_cm hv_vk hv_dv hv_ft 0 0 (some .boolean) (hv_sem d)) (hv_in 4 as, [], h, 0, 0)) else none := rfl
theorem sem_Paper_nextToSee (d : Nat) (as : List Value) (h : hv_H) : hv_sem (d + 1) 247 as h = if hv_w as ≤ 8 then hv_fin (hb_Paper_nextToSee (hv_step hv_cm hv_vk hv_dv hv_ft 0 0 (some .int) (hv_sem d)) (hv_in 8 as, [], h, 0, 0)) else none := rfl
theorem sem_Paper_mostAlike (d : Nat) (as : List Value) (h : hv_H) : hv_sem (d + 1) 248 as h = if hv_w as ≤ 7 then hv_fin (hb_Paper_mostAlike (hv_step hv_cm hv_vk hv_dv hv_ft 0 0 (some .int) (hv_sem d)) (hv_in 7 as, [], h, 0, 0)) else none := rfl
theorem sem_Paper_drawYears (d : Nat) (as : List Value) (h : hv_H) : hv_sem (d + 1) 249 as h = if hv_w as ≤ 8 then hv_fin (hb_Paper_drawYears (hv_step hv_cm hv_vk hv_dv hv_ft 0 0 (some .int) (hv_sem d)) (hv_in 8 as, [], h, 0, 0)) else none := rfl
theorem sem_Paper_draw (d : Nat) (as : List Value) (h : hv_H) : hv_sem (d + 1) 250 as h = if hv_w as ≤ 2 then hv_fin (hb_Paper_draw (hv_step hv_cm hv_vk hv_dv hv_ft 0 0 (some .int) (hv_sem d)) (hv_in 2 as, [], h, 0, 0)) else none := rfl
theorem sem_Reader_init (d : Nat) (as : List Value) (h : hv_H) : hv_sem (d + 1) 251 as h = if hv_w as ≤ 2 then hv_fin (hb_Reader_init (hv_step hv_cm hv_vk hv_dv hv_ft 3 464 none (hv_sem d)) (hv_in 2 as, [], h, 0, 0)) else none := rfl
theorem sem_Reader_faultOf (d : Nat) (as : List Value) (h : hv_H) : hv_sem (d + 1) 252 as h = if hv_w as ≤ 4 then hv_fin (hb_Reader_faultOf (hv_step hv_cm hv_vk hv_dv hv_ft 0 0 (some .int) (hv_sem d)) (hv_in 4 as, [], h, 0, 0)) else none := rfl
theorem sem_Reader_readsRule (d : Nat) (as : List Value) (h : hv_H) : hv_sem (d + 1) 253 as h = if hv_w as ≤ 2 then hv_fin (hb_Reader_readsRule (hv_step hv_cm hv_vk hv_dv hv_ft 0 0 (some .boolean) (hv_sem d)) (hv_in 2 as, [], h, 0, 0)) else none := rfl
theorem sem_Reader_readsOrder (d : Nat) (as : List Value) (h : hv_H) : hv_sem (d + 1) 254 as h = if hv_w as ≤ 3 then hv_fin (hb_Reader_readsOrder (hv_step hv_cm hv_vk hv_dv hv_ft 0 0 (some .boolean) (hv_sem d)) (hv_in 3 as, [], h, 0, 0)) else none := rfl
theorem sem_Reader_readsMarkedSum (d : Nat) (as : List Value) (h : hv_H) : hv_sem (d + 1) 255 as h = if hv_w as ≤ 2 then hv_fin (hb_Reader_readsMarkedSum (hv_step hv_cm hv_vk hv_dv hv_ft 0 0 (some .boolean) (hv_sem d)) (hv_in 2 as, [], h, 0, 0)) else none := rfl
theorem sem_Reader_readsTimes (d : Nat) (as : List Value) (h : hv_H) : hv_sem (d + 1) 256 as h = if hv_w as ≤ 1 then hv_fin (hb_Reader_readsTimes (hv_step hv_cm hv_vk hv_dv hv_ft 0 0 (some .boolean) (hv_sem d)) (hv_in 1 as, [], h, 0, 0)) else none := rfl
theorem sem_Reader_readsCondition (d : Nat) (as : List Value) (h : hv_H) : hv_sem (d + 1) 257 as h = if hv_w as ≤ 1 then hv_fin (hb_Reader_readsCondition (hv_step hv_cm hv_vk hv_dv hv_ft 0 0 (some .boolean) (hv_sem d)) (hv_in 1 as, [], h, 0, 0)) else none := rfl
theorem sem_Reader_readsTest (d : Nat) (as : List Value) (h : hv_H) : hv_sem (d + 1) 258 as h = if hv_w as ≤ 5 then hv_fin (hb_Reader_readsTest (hv_step hv_cm hv_vk hv_dv hv_ft 0 0 (some .boolean) (hv_sem d)) (hv_in 5 as, [], h, 0, 0)) else none := rfl
theorem sem_Reader_readsBoth (d : Nat) (as : List Value) (h : hv_H) : hv_sem (d + 1) 259 as h = if hv_w as ≤ 5 then hv_fin (hb_Reader_readsBoth (hv_step hv_cm hv_vk hv_dv hv_ft 0 0 (some .boolean) (hv_sem d)) (hv_in 5 as, [], h, 0, 0)) else none := rfl
theorem sem_Reader_readsPlain (d : Nat) (as : List Value) (h : hv_H) : hv_sem (d + 1) 260 as h = if hv_w as ≤ 4 then hv_fin (hb_Reader_readsPlain (hv_step hv_cm hv_vk hv_dv hv_ft 0 0 (some .boolean) (hv_sem d)) (hv_in 4 as, [], h, 0, 0)) else none := rfl
theorem sem_Reader_readsInner (d : Nat) (as : List Value) (h : hv_H) : hv_sem (d + 1) 261 as h = if hv_w as ≤ 4 then hv_fin (hb_Reader_readsInner (hv_step hv_cm hv_vk hv_dv hv_ft 0 0 (some .boolean) (hv_sem d)) (hv_in 4 as, [], h, 0, 0)) else none := rfl
theorem sem_Reader_readsComparison (d : Nat) (as : List Value) (h : hv_H) : hv_sem (d + 1) 262 as h = if hv_w as ≤ 3 then hv_fin (hb_Reader_readsComparison (hv_step hv_cm hv_vk hv_dv hv_ft 0 0 (some .boolean) (hv_sem d)) (hv_in 3 as, [], h, 0, 0)) else none := rfl
theorem sem_Reader_readsSum (d : Nat) (as : List Value) (h : hv_H) : hv_sem (d + 1) 263 as h = if hv_w as ≤ 5 then hv_fin (hb_Reader_readsSum (hv_step hv_cm hv_vk hv_dv hv_ft 0 0 (some .boolean) (hv_sem d)) (hv_in 5 as, [], h, 0, 0)) else none := rfl
theorem sem_Reader_readsTerm (d : Nat) (as : List Value) (h : hv_H) : hv_sem (d + 1) 264 as h = if hv_w as ≤ 5 then hv_fin (hb_Reader_readsTerm (hv_step hv_cm hv_vk hv_dv hv_ft 0 0 (some .boolean) (hv_sem d)) (hv_in 5 as, [], h, 0, 0)) else none := rfl
theorem sem_Reader_readsPart (d : Nat) (as : List Value) (h : hv_H) : hv_sem (d + 1) 265 as h = if hv_w as ≤ 2 then hv_fin (hb_Reader_readsPart (hv_step hv_cm hv_vk hv_dv hv_ft 0 0 (some .boolean) (hv_sem d)) (hv_in 2 as, [], h, 0, 0)) else none := rfl
theorem sem_Reader_readsWord (d : Nat) (as : List Value) (h : hv_H) : hv_sem (d + 1) 266 as h = if hv_w as ≤ 2 then hv_fin (hb_Reader_readsWord (hv_step hv_cm hv_vk hv_dv hv_ft 0 0 (some .boolean) (hv_sem d)) (hv_in 2 as, [], h, 0, 0)) else none := rfl
theorem sem_Reader_takes (d : Nat) (as : List Value) (h : hv_H) : hv_sem (d + 1) 267 as h = if hv_w as ≤ 2 then hv_fin (hb_Reader_takes (hv_step hv_cm hv_vk hv_dv hv_ft 0 0 (some .boolean) (hv_sem d)) (hv_in 2 as, [], h, 0, 0)) else none := rfl
theorem sem_Reader_takesWord (d : Nat) (as : List Value) (h : hv_H) : hv_sem (d + 1) 268 as h = if hv_w as ≤ 2 then hv_fin (hb_Reader_takesWord (hv_step hv_cm hv_vk hv_dv hv_ft 0 0 (some .boolean) (hv_sem d)) (hv_in 2 as, [], h, 0, 0)) else none := rfl
theorem sem_Reader_placeIn (d : Nat) (as : List Value) (h : hv_H) : hv_sem (d + 1) 269 as h = if hv_w as ≤ 6 then hv_fin (hb_Reader_placeIn (hv_step hv_cm hv_vk hv_dv hv_ft 0 0 (some .int) (hv_sem d)) (hv_in 6 as, [], h, 0, 0)) else none := rfl
theorem sem_Reader_step (d : Nat) (as : List Value) (h : hv_H) : hv_sem (d + 1) 270 as h = if hv_w as ≤ 1 then hv_fin (hb_Reader_step (hv_step hv_cm hv_vk hv_dv hv_ft 0 0 none (hv_sem d)) (hv_in 1 as, [], h, 0, 0)) else none := rfl
theorem sem_Reader_isLetter (d : Nat) (as : List Value) (h : hv_H) : hv_sem (d + 1) 271 as h = if hv_w as ≤ 1 then hv_fin (hb_Reader_isLetter (hv_step hv_cm hv_vk hv_dv hv_ft 0 0 (some .boolean) (hv_sem d)) (hv_in 1 as, [], h, 0, 0)) else none := rfl
theorem sem_Reader_isDigit (d : Nat) (as : List Value) (h : hv_H) : hv_sem (d + 1) 272 as h = if hv_w as ≤ 1 then hv_fin (hb_Reader_isDigit (hv_step hv_cm hv_vk hv_dv hv_ft 0 0 (some .boolean) (hv_sem d)) (hv_in 1 as, [], h, 0, 0)) else none := rfl
theorem sem_Rules_init (d : Nat) (as : List Value) (h : hv_H) : hv_sem (d + 1) 273 as h = if hv_w as ≤ 3 then hv_fin (hb_Rules_init (hv_step hv_cm hv_vk hv_dv hv_ft 1 7 none (hv_sem d)) (hv_in 3 as, [], h, 0, 0)) else none := rfl
theorem sem_Rules_take (d : Nat) (as : List Value) (h : hv_H) : hv_sem (d + 1) 274 as h = if hv_w as ≤ 3 then hv_fin (hb_Rules_take (hv_step hv_cm hv_vk hv_dv hv_ft 0 0 none (hv_sem d)) (hv_in 3 as, [], h, 0, 0)) else none := rfl
theorem sem_Rules_shownBy (d : Nat) (as : List Value) (h : hv_H) : hv_sem (d + 1) 275 as h = if hv_w as ≤ 3 then hv_fin (hb_Rules_shownBy (hv_step hv_cm hv_vk hv_dv hv_ft 0 0 (some .int) (hv_sem d)) (hv_in 3 as, [], h, 0, 0)) else none := rfl
theorem sem_Rules_breaksOf (d : Nat) (as : List Value) (h : hv_H) : hv_sem (d + 1) 276 as h = if hv_w as ≤ 3 then hv_fin (hb_Rules_breaksOf (hv_step hv_cm hv_vk hv_dv hv_ft 0 0 (some .int) (hv_sem d)) (hv_in 3 as, [], h, 0, 0)) else none := rfl
theorem sem_Rules_fallOf (d : Nat) (as : List Value) (h : hv_H) : hv_sem (d + 1) 277 as h = if hv_w as ≤ 3 then hv_fin (hb_Rules_fallOf (hv_step hv_cm hv_vk hv_dv hv_ft 0 0 (some .int) (hv_sem d)) (hv_in 3 as, [], h, 0, 0)) else none := rfl
theorem sem_Rules_riseOf (d : Nat) (as : List Value) (h : hv_H) : hv_sem (d + 1) 278 as h = if hv_w as ≤ 3 then hv_fin (hb_Rules_riseOf (hv_step hv_cm hv_vk hv_dv hv_ft 0 0 (some .int) (hv_sem d)) (hv_in 3 as, [], h, 0, 0)) else none := rfl
theorem sem_Rules_isBarred (d : Nat) (as : List Value) (h : hv_H) : hv_sem (d + 1) 279 as h = if hv_w as ≤ 3 then hv_fin (hb_Rules_isBarred (hv_step hv_cm hv_vk hv_dv hv_ft 0 0 (some .boolean) (hv_sem d)) (hv_in 3 as, [], h, 0, 0)) else none := rfl
theorem sem_Rules_told (d : Nat) (as : List Value) (h : hv_H) : hv_sem (d + 1) 280 as h = if hv_w as ≤ 7 then hv_fin (hb_Rules_told (hv_step hv_cm hv_vk hv_dv hv_ft 0 0 (some .int) (hv_sem d)) (hv_in 7 as, [], h, 0, 0)) else none := rfl
theorem sem_Rules_toldWithout (d : Nat) (as : List Value) (h : hv_H) : hv_sem (d + 1) 281 as h = if hv_w as ≤ 4 then hv_fin (hb_Rules_toldWithout (hv_step hv_cm hv_vk hv_dv hv_ft 0 0 (some .int) (hv_sem d)) (hv_in 4 as, [], h, 0, 0)) else none := rfl
theorem sem_Rules_setWords (d : Nat) (as : List Value) (h : hv_H) : hv_sem (d + 1) 282 as h = if hv_w as ≤ 3 then hv_fin (hb_Rules_setWords (hv_step hv_cm hv_vk hv_dv hv_ft 0 0 none (hv_sem d)) (hv_in 3 as, [], h, 0, 0)) else none := rfl
theorem sem_Rules_refusalToGive (d : Nat) (as : List Value) (h : hv_H) : hv_sem (d + 1) 283 as h = if hv_w as ≤ 3 then hv_fin (hb_Rules_refusalToGive (hv_step hv_cm hv_vk hv_dv hv_ft 0 0 (some .int) (hv_sem d)) (hv_in 3 as, [], h, 0, 0)) else none := rfl
theorem sem_Rules_refusalToSwap (d : Nat) (as : List Value) (h : hv_H) : hv_sem (d + 1) 284 as h = if hv_w as ≤ 6 then hv_fin (hb_Rules_refusalToSwap (hv_step hv_cm hv_vk hv_dv hv_ft 0 0 (some .int) (hv_sem d)) (hv_in 6 as, [], h, 0, 0)) else none := rfl
theorem sem_Rules_isHarderSwapped (d : Nat) (as : List Value) (h : hv_H) : hv_sem (d + 1) 285 as h = if hv_w as ≤ 6 then hv_fin (hb_Rules_isHarderSwapped (hv_step hv_cm hv_vk hv_dv hv_ft 0 0 (some .boolean) (hv_sem d)) (hv_in 6 as, [], h, 0, 0)) else none := rfl
theorem sem_Rules_passYear (d : Nat) (as : List Value) (h : hv_H) : hv_sem (d + 1) 286 as h = if hv_w as ≤ 5 then hv_fin (hb_Rules_passYear (hv_step hv_cm hv_vk hv_dv hv_ft 0 0 none (hv_sem d)) (hv_in 5 as, [], h, 0, 0)) else none := rfl
theorem sem_Rules_passYearOf (d : Nat) (as : List Value) (h : hv_H) : hv_sem (d + 1) 287 as h = if hv_w as ≤ 4 then hv_fin (hb_Rules_passYearOf (hv_step hv_cm hv_vk hv_dv hv_ft 0 0 none (hv_sem d)) (hv_in 4 as, [], h, 0, 0)) else none := rfl
theorem sem_Trail_init (d : Nat) (as : List Value) (h : hv_H) : hv_sem (d + 1) 288 as h = if hv_w as ≤ 1 then hv_fin (hb_Trail_init (hv_step hv_cm hv_vk hv_dv hv_ft 2 1072 none (hv_sem d)) (hv_in 1 as, [], h, 0, 0)) else none := rfl
theorem sem_Trail_length (d : Nat) (as : List Value) (h : hv_H) : hv_sem (d + 1) 289 as h = if hv_w as ≤ 1 then hv_fin (hb_Trail_length (hv_step hv_cm hv_vk hv_dv hv_ft 0 0 (some .int) (hv_sem d)) (hv_in 1 as, [], h, 0, 0)) else none := rfl
theorem sem_Trail_clear (d : Nat) (as : List Value) (h : hv_H) : hv_sem (d + 1) 290 as h = if hv_w as ≤ 1 then hv_fin (hb_Trail_clear (hv_step hv_cm hv_vk hv_dv hv_ft 0 0 none (hv_sem d)) (hv_in 1 as, [], h, 0, 0)) else none := rfl
theorem sem_Trail_keep (d : Nat) (as : List Value) (h : hv_H) : hv_sem (d + 1) 291 as h = if hv_w as ≤ 3 then hv_fin (hb_Trail_keep (hv_step hv_cm hv_vk hv_dv hv_ft 0 0 none (hv_sem d)) (hv_in 3 as, [], h, 0, 0)) else none := rfl
theorem sem_Trail_takeBack (d : Nat) (as : List Value) (h : hv_H) : hv_sem (d + 1) 292 as h = if hv_w as ≤ 2 then hv_fin (hb_Trail_takeBack (hv_step hv_cm hv_vk hv_dv hv_ft 0 0 (some .int) (hv_sem d)) (hv_in 2 as, [], h, 0, 0)) else none := rfl
theorem sem_Trail_copyFrom (d : Nat) (as : List Value) (h : hv_H) : hv_sem (d + 1) 293 as h = if hv_w as ≤ 2 then hv_fin (hb_Trail_copyFrom (hv_step hv_cm hv_vk hv_dv hv_ft 0 0 none (hv_sem d)) (hv_in 2 as, [], h, 0, 0)) else none := rfl
theorem sem_Whole_init (d : Nat) (as : List Value) (h : hv_H) : hv_sem (d + 1) 294 as h = if hv_w as ≤ 1 then hv_fin (hb_Whole_init (hv_step hv_cm hv_vk hv_dv hv_ft 5 89 none (hv_sem d)) (hv_in 1 as, [], h, 0, 0)) else none := rfl
theorem sem_Whole_isLaw (d : Nat) (as : List Value) (h : hv_H) : hv_sem (d + 1) 295 as h = if hv_w as ≤ 2 then hv_fin (hb_Whole_isLaw (hv_step hv_cm hv_vk hv_dv hv_ft 0 0 (some .boolean) (hv_sem d)) (hv_in 2 as, [], h, 0, 0)) else none := rfl
theorem sem_Whole_lawOf (d : Nat) (as : List Value) (h : hv_H) : hv_sem (d + 1) 296 as h = if hv_w as ≤ 2 then hv_fin (hb_Whole_lawOf (hv_step hv_cm hv_vk hv_dv hv_ft 0 0 (some (.object "HardestVows$Code")) (hv_sem d)) (hv_in 2 as, [], h, 0, 0)) else none := rfl
theorem sem_Whole_addLaw (d : Nat) (as : List Value) (h : hv_H) : hv_sem (d + 1) 297 as h = if hv_w as ≤ 2 then hv_fin (hb_Whole_addLaw (hv_step hv_cm hv_vk hv_dv hv_ft 0 0 (some .int) (hv_sem d)) (hv_in 2 as, [], h, 0, 0)) else none := rfl
theorem sem_Whole_addSeen (d : Nat) (as : List Value) (h : hv_H) : hv_sem (d + 1) 298 as h = if hv_w as ≤ 3 then hv_fin (hb_Whole_addSeen (hv_step hv_cm hv_vk hv_dv hv_ft 0 0 none (hv_sem d)) (hv_in 3 as, [], h, 0, 0)) else none := rfl
theorem sem_Whole_copyFrom (d : Nat) (as : List Value) (h : hv_H) : hv_sem (d + 1) 299 as h = if hv_w as ≤ 3 then hv_fin (hb_Whole_copyFrom (hv_step hv_cm hv_vk hv_dv hv_ft 0 0 none (hv_sem d)) (hv_in 3 as, [], h, 0, 0)) else none := rfl
theorem sem_Integer_bitCount (d : Nat) (as : List Value) (h : hv_H) : hv_sem (d + 1) 300 as h = if hv_w as ≤ 1 then hv_fin (hb_Integer_bitCount (hv_step hv_cm hv_vk hv_dv hv_ft 0 0 (some .int) (hv_sem d)) (hv_in 1 as, [], h, 0, 0)) else none := rfl
theorem sem_Math_max (d : Nat) (as : List Value) (h : hv_H) : hv_sem (d + 1) 301 as h = if hv_w as ≤ 2 then hv_fin (hb_Math_max (hv_step hv_cm hv_vk hv_dv hv_ft 0 0 (some .int) (hv_sem d)) (hv_in 2 as, [], h, 0, 0)) else none := rfl
theorem sem_Math_min (d : Nat) (as : List Value) (h : hv_H) : hv_sem (d + 1) 302 as h = if hv_w as ≤ 2 then hv_fin (hb_Math_min (hv_step hv_cm hv_vk hv_dv hv_ft 0 0 (some .int) (hv_sem d)) (hv_in 2 as, [], h, 0, 0)) else none := rfl
theorem sem_Arrays_copyOf (d : Nat) (as : List Value) (h : hv_H) : hv_sem (d + 1) 303 as h = if hv_w as ≤ 3 then hv_fin (hb_Arrays_copyOf (hv_step hv_cm hv_vk hv_dv hv_ft 1 400 (some (.array .int)) (hv_sem d)) (hv_in 3 as, [], h, 0, 0)) else none := rfl
theorem sem_Arrays_fill (d : Nat) (as : List Value) (h : hv_H) : hv_sem (d + 1) 304 as h = if hv_w as ≤ 4 then hv_fin (hb_Arrays_fill (hv_step hv_cm hv_vk hv_dv hv_ft 0 0 none (hv_sem d)) (hv_in 4 as, [], h, 0, 0)) else none := rfl
theorem vk_0 : hv_vk 0 = some 10 := rfl
theorem cm_1 : hv_cm 1 = (0, 0) := rfl
theorem vk_1 : hv_vk 1 = some 10 := rfl
theorem cm_2 : hv_cm 2 = (0, 0) := rfl
theorem vk_2 : hv_vk 2 = some 10 := rfl
theorem cm_3 : hv_cm 3 = (0, 0) := rfl
theorem vk_3 : hv_vk 3 = some 10 := rfl
theorem cm_4 : hv_cm 4 = (0, 0) := rfl
theorem vk_4 : hv_vk 4 = some 10 := rfl
theorem cm_5 : hv_cm 5 = (0, 0) := rfl
theorem vk_5 : hv_vk 5 = some 10 := rfl
theorem cm_6 : hv_cm 6 = (0, 0) := rfl
theorem vk_6 : hv_vk 6 = some 10 := rfl
theorem cm_7 : hv_cm 7 = (0, 0) := rfl
theorem vk_7 : hv_vk 7 = some 10 := rfl
theorem cm_8 : hv_cm 8 = (0, 0) := rfl
theorem vk_8 : hv_vk 8 = some 10 := rfl
theorem cm_9 : hv_cm 9 = (0, 0) := rfl
theorem vk_9 : hv_vk 9 = some 10 := rfl
theorem cm_10 : hv_cm 10 = (0, 0) := rfl
theorem vk_10 : hv_vk 10 = some 10 := rfl
theorem cm_11 : hv_cm 11 = (0, 0) := rfl
theorem vk_11 : hv_vk 11 = some 10 := rfl
theorem cm_12 : hv_cm 12 = (0, 0) := rfl
theorem vk_12 : hv_vk 12 = some 10 := rfl
theorem vk_13 : hv_vk 13 = some 10 := rfl
theorem cm_14 : hv_cm 14 = (0, 0) := rfl
theorem vk_14 : hv_vk 14 = some 10 := rfl
theorem cm_15 : hv_cm 15 = (0, 0) := rfl
theorem vk_15 : hv_vk 15 = some 10 := rfl
theorem cm_16 : hv_cm 16 = (0, 0) := rfl
theorem vk_16 : hv_vk 16 = some 10 := rfl
theorem cm_17 : hv_cm 17 = (0, 0) := rfl
theorem vk_17 : hv_vk 17 = some 10 := rfl
theorem cm_18 : hv_cm 18 = (0, 0) := rfl
theorem vk_18 : hv_vk 18 = some 10 := rfl
theorem cm_19 : hv_cm 19 = (0, 0) := rfl
theorem vk_19 : hv_vk 19 = some 10 := rfl
theorem cm_20 : hv_cm 20 = (0, 0) := rfl
theorem vk_20 : hv_vk 20 = some 10 := rfl
theorem cm_21 : hv_cm 21 = (0, 0) := rfl
theorem vk_21 : hv_vk 21 = some 10 := rfl
theorem cm_22 : hv_cm 22 = (0, 0) := rfl
theorem vk_22 : hv_vk 22 = some 10 := rfl
theorem cm_23 : hv_cm 23 = (0, 0) := rfl
theorem vk_23 : hv_vk 23 = some 10 := rfl
theorem cm_24 : hv_cm 24 = (0, 0) := rfl
theorem vk_24 : hv_vk 24 = some 10 := rfl
theorem cm_25 : hv_cm 25 = (0, 0) := rfl
theorem vk_25 : hv_vk 25 = some 10 := rfl
theorem cm_26 : hv_cm 26 = (0, 0) := rfl
theorem vk_26 : hv_vk 26 = some 10 := rfl
theorem cm_27 : hv_cm 27 = (0, 0) := rfl
theorem vk_27 : hv_vk 27 = some 10 := rfl
theorem cm_28 : hv_cm 28 = (0, 0) := rfl
theorem vk_28 : hv_vk 28 = some 10 := rfl
theorem cm_29 : hv_cm 29 = (0, 0) := rfl
theorem vk_29 : hv_vk 29 = some 10 := rfl
theorem cm_30 : hv_cm 30 = (0, 0) := rfl
theorem vk_30 : hv_vk 30 = some 10 := rfl
theorem cm_31 : hv_cm 31 = (0, 0) := rfl
theorem vk_31 : hv_vk 31 = some 10 := rfl
theorem cm_32 : hv_cm 32 = (0, 0) := rfl
theorem vk_32 : hv_vk 32 = some 10 := rfl
theorem cm_33 : hv_cm 33 = (0, 0) := rfl
theorem vk_33 : hv_vk 33 = some 10 := rfl
theorem cm_34 : hv_cm 34 = (0, 0) := rfl
theorem vk_34 : hv_vk 34 = some 10 := rfl
theorem cm_35 : hv_cm 35 = (0, 0) := rfl
theorem vk_35 : hv_vk 35 = some 10 := rfl
theorem cm_36 : hv_cm 36 = (0, 0) := rfl
theorem vk_36 : hv_vk 36 = some 10 := rfl
theorem cm_37 : hv_cm 37 = (0, 0) := rfl
theorem vk_37 : hv_vk 37 = some 10 := rfl
theorem vk_38 : hv_vk 38 = some 10 := rfl
theorem cm_39 : hv_cm 39 = (0, 0) := rfl
theorem vk_39 : hv_vk 39 = some 10 := rfl
theorem cm_40 : hv_cm 40 = (0, 0) := rfl
theorem vk_40 : hv_vk 40 = some 10 := rfl
theorem cm_41 : hv_cm 41 = (0, 0) := rfl
theorem vk_41 : hv_vk 41 = some 10 := rfl
theorem cm_42 : hv_cm 42 = (0, 0) := rfl
theorem vk_42 : hv_vk 42 = some 10 := rfl
theorem cm_43 : hv_cm 43 = (0, 0) := rfl
theorem vk_43 : hv_vk 43 = some 10 := rfl
theorem cm_44 : hv_cm 44 = (0, 0) := rfl
theorem vk_44 : hv_vk 44 = some 10 := rfl
theorem cm_45 : hv_cm 45 = (0, 0) := rfl
theorem vk_45 : hv_vk 45 = some 10 := rfl
theorem cm_46 : hv_cm 46 = (0, 0) := rfl
theorem vk_46 : hv_vk 46 = none := rfl
theorem cm_47 : hv_cm 47 = (0, 0) := rfl
theorem vk_47 : hv_vk 47 = none := rfl
theorem cm_48 : hv_cm 48 = (0, 0) := rfl
theorem vk_48 : hv_vk 48 = none := rfl
theorem cm_49 : hv_cm 49 = (0, 0) := rfl
theorem vk_49 : hv_vk 49 = none := rfl
theorem cm_50 : hv_cm 50 = (0, 0) := rfl
theorem vk_50 : hv_vk 50 = none := rfl
theorem cm_51 : hv_cm 51 = (0, 0) := rfl
theorem vk_51 : hv_vk 51 = some 11 := rfl
theorem cm_52 : hv_cm 52 = (0, 0) := rfl
theorem vk_52 : hv_vk 52 = some 11 := rfl
theorem cm_53 : hv_cm 53 = (0, 0) := rfl
theorem vk_53 : hv_vk 53 = some 11 := rfl
theorem cm_54 : hv_cm 54 = (0, 0) := rfl
theorem vk_54 : hv_vk 54 = none := rfl
theorem vk_55 : hv_vk 55 = some 11 := rfl
theorem cm_56 : hv_cm 56 = (0, 0) := rfl
theorem vk_56 : hv_vk 56 = some 11 := rfl
theorem cm_57 : hv_cm 57 = (0, 0) := rfl
theorem vk_57 : hv_vk 57 = some 11 := rfl
theorem cm_58 : hv_cm 58 = (0, 0) := rfl
theorem vk_58 : hv_vk 58 = some 11 := rfl
theorem cm_59 : hv_cm 59 = (0, 0) := rfl
theorem vk_59 : hv_vk 59 = some 11 := rfl
theorem cm_60 : hv_cm 60 = (0, 0) := rfl
theorem vk_60 : hv_vk 60 = some 11 := rfl
theorem cm_61 : hv_cm 61 = (0, 0) := rfl
theorem vk_61 : hv_vk 61 = none := rfl
theorem cm_62 : hv_cm 62 = (0, 0) := rfl
theorem vk_62 : hv_vk 62 = none := rfl
theorem cm_63 : hv_cm 63 = (0, 0) := rfl
theorem vk_63 : hv_vk 63 = some 11 := rfl
theorem cm_64 : hv_cm 64 = (0, 0) := rfl
theorem vk_64 : hv_vk 64 = some 11 := rfl
theorem cm_65 : hv_cm 65 = (0, 0) := rfl
theorem vk_65 : hv_vk 65 = some 11 := rfl
theorem cm_66 : hv_cm 66 = (0, 0) := rfl
theorem vk_66 : hv_vk 66 = some 11 := rfl
theorem cm_67 : hv_cm 67 = (0, 0) := rfl
theorem vk_67 : hv_vk 67 = some 11 := rfl
theorem cm_68 : hv_cm 68 = (0, 0) := rfl
theorem vk_68 : hv_vk 68 = some 11 := rfl
theorem cm_69 : hv_cm 69 = (0, 0) := rfl
theorem vk_69 : hv_vk 69 = some 11 := rfl
theorem cm_70 : hv_cm 70 = (0, 0) := rfl
theorem vk_70 : hv_vk 70 = some 11 := rfl
theorem cm_71 : hv_cm 71 = (0, 0) := rfl
theorem vk_71 : hv_vk 71 = some 11 := rfl
theorem cm_72 : hv_cm 72 = (0, 0) := rfl
theorem vk_72 : hv_vk 72 = some 11 := rfl
theorem cm_73 : hv_cm 73 = (0, 0) := rfl
theorem vk_73 : hv_vk 73 = some 11 := rfl
theorem cm_74 : hv_cm 74 = (0, 0) := rfl
theorem vk_74 : hv_vk 74 = some 11 := rfl
theorem cm_75 : hv_cm 75 = (0, 0) := rfl
theorem vk_75 : hv_vk 75 = some 11 := rfl
theorem cm_76 : hv_cm 76 = (0, 0) := rfl
theorem vk_76 : hv_vk 76 = some 11 := rfl
theorem cm_77 : hv_cm 77 = (0, 0) := rfl
theorem vk_77 : hv_vk 77 = some 11 := rfl
theorem cm_78 : hv_cm 78 = (0, 0) := rfl
theorem vk_78 : hv_vk 78 = none := rfl
theorem cm_79 : hv_cm 79 = (0, 0) := rfl
theorem vk_79 : hv_vk 79 = none := rfl
theorem cm_80 : hv_cm 80 = (0, 0) := rfl
theorem vk_80 : hv_vk 80 = some 11 := rfl
theorem cm_81 : hv_cm 81 = (0, 0) := rfl
theorem vk_81 : hv_vk 81 = some 11 := rfl
theorem cm_82 : hv_cm 82 = (0, 0) := rfl
theorem vk_82 : hv_vk 82 = some 11 := rfl
theorem cm_83 : hv_cm 83 = (0, 0) := rfl
theorem vk_83 : hv_vk 83 = some 11 := rfl
theorem cm_84 : hv_cm 84 = (0, 0) := rfl
theorem vk_84 : hv_vk 84 = some 11 := rfl
theorem cm_85 : hv_cm 85 = (0, 0) := rfl
theorem vk_85 : hv_vk 85 = some 11 := rfl
theorem cm_86 : hv_cm 86 = (0, 0) := rfl
theorem vk_86 : hv_vk 86 = some 11 := rfl
theorem cm_87 : hv_cm 87 = (0, 0) := rfl
theorem vk_87 : hv_vk 87 = none := rfl
theorem cm_88 : hv_cm 88 = (0, 0) := rfl
theorem vk_88 : hv_vk 88 = some 11 := rfl
theorem cm_89 : hv_cm 89 = (0, 0) := rfl
theorem vk_89 : hv_vk 89 = some 11 := rfl
theorem cm_90 : hv_cm 90 = (0, 0) := rfl
theorem vk_90 : hv_vk 90 = some 11 := rfl
theorem cm_91 : hv_cm 91 = (0, 0) := rfl
theorem vk_91 : hv_vk 91 = some 11 := rfl
theorem cm_92 : hv_cm 92 = (0, 0) := rfl
theorem vk_92 : hv_vk 92 = some 11 := rfl
theorem cm_93 : hv_cm 93 = (0, 0) := rfl
theorem vk_93 : hv_vk 93 = some 11 := rfl
theorem cm_94 : hv_cm 94 = (0, 0) := rfl
theorem vk_94 : hv_vk 94 = some 11 := rfl
theorem cm_95 : hv_cm 95 = (0, 0) := rfl
theorem vk_95 : hv_vk 95 = some 11 := rfl
theorem cm_96 : hv_cm 96 = (0, 0) := rfl
theorem vk_96 : hv_vk 96 = some 11 := rfl
theorem cm_97 : hv_cm 97 = (0, 0) := rfl
theorem vk_97 : hv_vk 97 = some 11 := rfl
theorem cm_98 : hv_cm 98 = (0, 0) := rfl
theorem vk_98 : hv_vk 98 = some 11 := rfl
theorem cm_99 : hv_cm 99 = (0, 0) := rfl
theorem vk_99 : hv_vk 99 = some 11 := rfl
theorem cm_100 : hv_cm 100 = (0, 0) := rfl
theorem vk_100 : hv_vk 100 = some 11 := rfl
theorem cm_101 : hv_cm 101 = (0, 0) := rfl
theorem vk_101 : hv_vk 101 = some 11 := rfl
theorem cm_102 : hv_cm 102 = (0, 0) := rfl
theorem vk_102 : hv_vk 102 = some 11 := rfl
theorem cm_103 : hv_cm 103 = (0, 0) := rfl
theorem vk_103 : hv_vk 103 = some 11 := rfl
theorem cm_104 : hv_cm 104 = (0, 0) := rfl
theorem vk_104 : hv_vk 104 = some 11 := rfl
theorem cm_105 : hv_cm 105 = (0, 0) := rfl
theorem vk_105 : hv_vk 105 = some 11 := rfl
theorem cm_106 : hv_cm 106 = (0, 0) := rfl
theorem vk_106 : hv_vk 106 = some 11 := rfl
theorem cm_107 : hv_cm 107 = (0, 0) := rfl
theorem vk_107 : hv_vk 107 = some 11 := rfl
theorem cm_108 : hv_cm 108 = (0, 0) := rfl
theorem vk_108 : hv_vk 108 = some 11 := rfl
theorem cm_109 : hv_cm 109 = (0, 0) := rfl
theorem vk_109 : hv_vk 109 = some 11 := rfl
theorem cm_110 : hv_cm 110 = (0, 0) := rfl
theorem vk_110 : hv_vk 110 = some 11 := rfl
theorem cm_111 : hv_cm 111 = (0, 0) := rfl
theorem vk_111 : hv_vk 111 = some 11 := rfl
theorem cm_112 : hv_cm 112 = (0, 0) := rfl
theorem vk_112 : hv_vk 112 = some 11 := rfl
theorem cm_113 : hv_cm 113 = (0, 0) := rfl
theorem vk_113 : hv_vk 113 = some 11 := rfl
theorem cm_114 : hv_cm 114 = (0, 0) := rfl
theorem vk_114 : hv_vk 114 = some 11 := rfl
theorem cm_115 : hv_cm 115 = (0, 0) := rfl
theorem vk_115 : hv_vk 115 = some 11 := rfl
theorem cm_116 : hv_cm 116 = (0, 0) := rfl
theorem vk_116 : hv_vk 116 = some 11 := rfl
theorem cm_117 : hv_cm 117 = (0, 0) := rfl
theorem vk_117 : hv_vk 117 = some 11 := rfl
theorem cm_118 : hv_cm 118 = (0, 0) := rfl
theorem vk_118 : hv_vk 118 = some 11 := rfl
theorem cm_119 : hv_cm 119 = (0, 0) := rfl
theorem vk_119 : hv_vk 119 = some 11 := rfl
theorem cm_120 : hv_cm 120 = (0, 0) := rfl
theorem vk_120 : hv_vk 120 = some 11 := rfl
theorem cm_121 : hv_cm 121 = (0, 0) := rfl
theorem vk_121 : hv_vk 121 = some 11 := rfl
theorem cm_122 : hv_cm 122 = (0, 0) := rfl
theorem vk_122 : hv_vk 122 = some 11 := rfl
theorem cm_123 : hv_cm 123 = (0, 0) := rfl
theorem vk_123 : hv_vk 123 = some 11 := rfl
theorem cm_124 : hv_cm 124 = (0, 0) := rfl
theorem vk_124 : hv_vk 124 = some 11 := rfl
theorem cm_125 : hv_cm 125 = (0, 0) := rfl
theorem vk_125 : hv_vk 125 = some 11 := rfl
theorem cm_126 : hv_cm 126 = (0, 0) := rfl
theorem vk_126 : hv_vk 126 = some 11 := rfl
theorem cm_127 : hv_cm 127 = (0, 0) := rfl
theorem vk_127 : hv_vk 127 = some 11 := rfl
theorem cm_128 : hv_cm 128 = (0, 0) := rfl
theorem vk_128 : hv_vk 128 = some 11 := rfl
theorem cm_129 : hv_cm 129 = (0, 0) := rfl
theorem vk_129 : hv_vk 129 = some 11 := rfl
theorem cm_130 : hv_cm 130 = (0, 0) := rfl
theorem vk_130 : hv_vk 130 = some 11 := rfl
theorem cm_131 : hv_cm 131 = (0, 0) := rfl
theorem vk_131 : hv_vk 131 = some 11 := rfl
theorem cm_132 : hv_cm 132 = (0, 0) := rfl
theorem vk_132 : hv_vk 132 = some 11 := rfl
theorem cm_133 : hv_cm 133 = (0, 0) := rfl
theorem vk_133 : hv_vk 133 = some 11 := rfl
theorem cm_134 : hv_cm 134 = (0, 0) := rfl
theorem vk_134 : hv_vk 134 = some 11 := rfl
theorem cm_135 : hv_cm 135 = (0, 0) := rfl
theorem vk_135 : hv_vk 135 = some 11 := rfl
theorem cm_136 : hv_cm 136 = (0, 0) := rfl
theorem vk_136 : hv_vk 136 = some 11 := rfl
theorem cm_137 : hv_cm 137 = (0, 0) := rfl
theorem vk_137 : hv_vk 137 = some 11 := rfl
theorem cm_138 : hv_cm 138 = (0, 0) := rfl
theorem vk_138 : hv_vk 138 = some 11 := rfl
theorem cm_139 : hv_cm 139 = (0, 0) := rfl
theorem vk_139 : hv_vk 139 = some 11 := rfl
theorem cm_140 : hv_cm 140 = (0, 0) := rfl
theorem vk_140 : hv_vk 140 = some 11 := rfl
theorem cm_141 : hv_cm 141 = (0, 0) := rfl
theorem vk_141 : hv_vk 141 = some 11 := rfl
theorem cm_142 : hv_cm 142 = (0, 0) := rfl
theorem vk_142 : hv_vk 142 = some 11 := rfl
theorem cm_143 : hv_cm 143 = (0, 0) := rfl
theorem vk_143 : hv_vk 143 = some 11 := rfl
theorem cm_144 : hv_cm 144 = (0, 0) := rfl
theorem vk_144 : hv_vk 144 = some 11 := rfl
theorem cm_145 : hv_cm 145 = (0, 0) := rfl
theorem vk_145 : hv_vk 145 = some 11 := rfl
theorem cm_146 : hv_cm 146 = (0, 0) := rfl
theorem vk_146 : hv_vk 146 = some 11 := rfl
theorem cm_147 : hv_cm 147 = (0, 0) := rfl
theorem vk_147 : hv_vk 147 = some 11 := rfl
theorem cm_148 : hv_cm 148 = (0, 0) := rfl
theorem vk_148 : hv_vk 148 = some 11 := rfl
theorem cm_149 : hv_cm 149 = (0, 0) := rfl
theorem vk_149 : hv_vk 149 = some 11 := rfl
theorem cm_150 : hv_cm 150 = (0, 0) := rfl
theorem vk_150 : hv_vk 150 = some 11 := rfl
theorem cm_151 : hv_cm 151 = (0, 0) := rfl
theorem vk_151 : hv_vk 151 = some 11 := rfl
theorem cm_152 : hv_cm 152 = (0, 0) := rfl
theorem vk_152 : hv_vk 152 = some 11 := rfl
theorem cm_153 : hv_cm 153 = (0, 0) := rfl
theorem vk_153 : hv_vk 153 = some 11 := rfl
theorem cm_154 : hv_cm 154 = (0, 0) := rfl
theorem vk_154 : hv_vk 154 = some 11 := rfl
theorem cm_155 : hv_cm 155 = (0, 0) := rfl
theorem vk_155 : hv_vk 155 = some 11 := rfl
theorem cm_156 : hv_cm 156 = (0, 0) := rfl
theorem vk_156 : hv_vk 156 = some 11 := rfl
theorem cm_157 : hv_cm 157 = (0, 0) := rfl
theorem vk_157 : hv_vk 157 = some 11 := rfl
theorem cm_158 : hv_cm 158 = (0, 0) := rfl
theorem vk_158 : hv_vk 158 = some 11 := rfl
theorem cm_159 : hv_cm 159 = (0, 0) := rfl
theorem vk_159 : hv_vk 159 = some 11 := rfl
theorem cm_160 : hv_cm 160 = (0, 0) := rfl
theorem vk_160 : hv_vk 160 = some 11 := rfl
theorem cm_161 : hv_cm 161 = (0, 0) := rfl
theorem vk_161 : hv_vk 161 = some 11 := rfl
theorem cm_162 : hv_cm 162 = (0, 0) := rfl
theorem vk_162 : hv_vk 162 = some 11 := rfl
theorem cm_163 : hv_cm 163 = (0, 0) := rfl
theorem vk_163 : hv_vk 163 = some 11 := rfl
theorem cm_164 : hv_cm 164 = (0, 0) := rfl
theorem vk_164 : hv_vk 164 = some 11 := rfl
theorem cm_165 : hv_cm 165 = (0, 0) := rfl
theorem vk_165 : hv_vk 165 = some 11 := rfl
theorem cm_166 : hv_cm 166 = (0, 0) := rfl
theorem vk_166 : hv_vk 166 = some 11 := rfl
theorem cm_167 : hv_cm 167 = (0, 0) := rfl
theorem vk_167 : hv_vk 167 = none := rfl
theorem cm_168 : hv_cm 168 = (0, 0) := rfl
theorem vk_168 : hv_vk 168 = some 11 := rfl
theorem cm_169 : hv_cm 169 = (0, 0) := rfl
theorem vk_169 : hv_vk 169 = some 11 := rfl
theorem cm_170 : hv_cm 170 = (0, 0) := rfl
theorem vk_170 : hv_vk 170 = some 11 := rfl
theorem cm_171 : hv_cm 171 = (0, 0) := rfl
theorem vk_171 : hv_vk 171 = some 11 := rfl
theorem cm_172 : hv_cm 172 = (0, 0) := rfl
theorem vk_172 : hv_vk 172 = some 11 := rfl
theorem cm_173 : hv_cm 173 = (0, 0) := rfl
theorem vk_173 : hv_vk 173 = some 11 := rfl
theorem cm_174 : hv_cm 174 = (0, 0) := rfl
theorem vk_174 : hv_vk 174 = some 11 := rfl
theorem cm_175 : hv_cm 175 = (0, 0) := rfl
theorem vk_175 : hv_vk 175 = some 11 := rfl
theorem vk_176 : hv_vk 176 = some 0 := rfl
theorem cm_177 : hv_cm 177 = (0, 0) := rfl
theorem vk_177 : hv_vk 177 = some 0 := rfl
theorem cm_178 : hv_cm 178 = (0, 0) := rfl
theorem vk_178 : hv_vk 178 = some 0 := rfl
theorem cm_179 : hv_cm 179 = (0, 0) := rfl
theorem vk_179 : hv_vk 179 = some 0 := rfl
theorem cm_180 : hv_cm 180 = (0, 0) := rfl
theorem vk_180 : hv_vk 180 = some 0 := rfl
theorem cm_181 : hv_cm 181 = (0, 0) := rfl
theorem vk_181 : hv_vk 181 = some 0 := rfl
theorem cm_182 : hv_cm 182 = (0, 0) := rfl
theorem vk_182 : hv_vk 182 = some 0 := rfl
theorem cm_183 : hv_cm 183 = (0, 0) := rfl
theorem vk_183 : hv_vk 183 = some 0 := rfl
theorem cm_184 : hv_cm 184 = (0, 0) := rfl
theorem vk_184 : hv_vk 184 = some 0 := rfl
theorem cm_185 : hv_cm 185 = (0, 0) := rfl
theorem vk_185 : hv_vk 185 = some 0 := rfl
theorem cm_186 : hv_cm 186 = (0, 0) := rfl
theorem vk_186 : hv_vk 186 = some 0 := rfl
theorem cm_187 : hv_cm 187 = (0, 0) := rfl
theorem vk_187 : hv_vk 187 = some 0 := rfl
theorem cm_188 : hv_cm 188 = (0, 0) := rfl
theorem vk_188 : hv_vk 188 = some 0 := rfl
theorem cm_189 : hv_cm 189 = (0, 0) := rfl
theorem vk_189 : hv_vk 189 = some 0 := rfl
theorem cm_190 : hv_cm 190 = (0, 0) := rfl
theorem vk_190 : hv_vk 190 = some 0 := rfl
theorem cm_191 : hv_cm 191 = (0, 0) := rfl
theorem vk_191 : hv_vk 191 = some 0 := rfl
theorem cm_192 : hv_cm 192 = (0, 0) := rfl
theorem vk_192 : hv_vk 192 = some 0 := rfl
theorem cm_193 : hv_cm 193 = (0, 0) := rfl
theorem vk_193 : hv_vk 193 = some 0 := rfl
theorem vk_194 : hv_vk 194 = some 1 := rfl
theorem vk_195 : hv_vk 195 = some 1 := rfl
theorem cm_196 : hv_cm 196 = (0, 0) := rfl
theorem vk_196 : hv_vk 196 = some 1 := rfl
theorem cm_197 : hv_cm 197 = (0, 0) := rfl
theorem vk_197 : hv_vk 197 = some 1 := rfl
theorem cm_198 : hv_cm 198 = (0, 0) := rfl
theorem vk_198 : hv_vk 198 = some 1 := rfl
theorem cm_199 : hv_cm 199 = (0, 0) := rfl
theorem vk_199 : hv_vk 199 = some 1 := rfl
theorem cm_200 : hv_cm 200 = (0, 0) := rfl
theorem vk_200 : hv_vk 200 = some 1 := rfl
theorem cm_201 : hv_cm 201 = (0, 0) := rfl
theorem vk_201 : hv_vk 201 = some 1 := rfl
theorem vk_202 : hv_vk 202 = some 2 := rfl
theorem cm_203 : hv_cm 203 = (0, 0) := rfl
theorem vk_203 : hv_vk 203 = some 2 := rfl
theorem cm_204 : hv_cm 204 = (0, 0) := rfl
theorem vk_204 : hv_vk 204 = some 2 := rfl
theorem cm_205 : hv_cm 205 = (0, 0) := rfl
theorem vk_205 : hv_vk 205 = some 2 := rfl
theorem cm_206 : hv_cm 206 = (0, 0) := rfl
theorem vk_206 : hv_vk 206 = some 2 := rfl
theorem cm_207 : hv_cm 207 = (0, 0) := rfl
theorem vk_207 : hv_vk 207 = some 2 := rfl
theorem cm_208 : hv_cm 208 = (0, 0) := rfl
theorem vk_208 : hv_vk 208 = some 2 := rfl
theorem cm_209 : hv_cm 209 = (0, 0) := rfl
theorem vk_209 : hv_vk 209 = some 2 := rfl
theorem cm_210 : hv_cm 210 = (0, 0) := rfl
theorem vk_210 : hv_vk 210 = some 2 := rfl
theorem cm_211 : hv_cm 211 = (0, 0) := rfl
theorem vk_211 : hv_vk 211 = some 2 := rfl
theorem vk_212 : hv_vk 212 = some 3 := rfl
theorem cm_213 : hv_cm 213 = (0, 0) := rfl
theorem vk_213 : hv_vk 213 = some 3 := rfl
theorem cm_214 : hv_cm 214 = (0, 0) := rfl
theorem vk_214 : hv_vk 214 = some 3 := rfl
theorem cm_215 : hv_cm 215 = (0, 0) := rfl
theorem vk_215 : hv_vk 215 = some 3 := rfl
theorem cm_216 : hv_cm 216 = (0, 0) := rfl
theorem vk_216 : hv_vk 216 = some 3 := rfl
theorem cm_217 : hv_cm 217 = (0, 0) := rfl
theorem vk_217 : hv_vk 217 = some 3 := rfl
theorem cm_218 : hv_cm 218 = (0, 0) := rfl
theorem vk_218 : hv_vk 218 = some 3 := rfl
theorem cm_219 : hv_cm 219 = (0, 0) := rfl
theorem vk_219 : hv_vk 219 = some 3 := rfl
theorem cm_220 : hv_cm 220 = (0, 0) := rfl
theorem vk_220 : hv_vk 220 = some 3 := rfl
theorem cm_221 : hv_cm 221 = (0, 0) := rfl
theorem vk_221 : hv_vk 221 = some 3 := rfl
theorem cm_222 : hv_cm 222 = (0, 0) := rfl
theorem vk_222 : hv_vk 222 = some 3 := rfl
theorem cm_223 : hv_cm 223 = (0, 0) := rfl
theorem vk_223 : hv_vk 223 = some 3 := rfl
theorem cm_224 : hv_cm 224 = (0, 0) := rfl
theorem vk_224 : hv_vk 224 = some 3 := rfl
theorem cm_225 : hv_cm 225 = (0, 0) := rfl
theorem vk_225 : hv_vk 225 = some 3 := rfl
theorem cm_226 : hv_cm 226 = (0, 0) := rfl
theorem vk_226 : hv_vk 226 = some 3 := rfl
theorem cm_227 : hv_cm 227 = (0, 0) := rfl
theorem vk_227 : hv_vk 227 = some 3 := rfl
theorem cm_228 : hv_cm 228 = (0, 0) := rfl
theorem vk_228 : hv_vk 228 = some 3 := rfl
theorem cm_229 : hv_cm 229 = (0, 0) := rfl
theorem vk_229 : hv_vk 229 = some 3 := rfl
theorem vk_230 : hv_vk 230 = some 4 := rfl
theorem cm_231 : hv_cm 231 = (0, 0) := rfl
theorem vk_231 : hv_vk 231 = some 4 := rfl
theorem cm_232 : hv_cm 232 = (0, 0) := rfl
theorem vk_232 : hv_vk 232 = some 4 := rfl
theorem cm_233 : hv_cm 233 = (0, 0) := rfl
theorem vk_233 : hv_vk 233 = some 4 := rfl
theorem cm_234 : hv_cm 234 = (0, 0) := rfl
theorem vk_234 : hv_vk 234 = some 4 := rfl
theorem cm_235 : hv_cm 235 = (0, 0) := rfl
theorem vk_235 : hv_vk 235 = some 4 := rfl
theorem cm_236 : hv_cm 236 = (0, 0) := rfl
theorem vk_236 : hv_vk 236 = some 4 := rfl
theorem cm_237 : hv_cm 237 = (0, 0) := rfl
theorem vk_237 : hv_vk 237 = some 4 := rfl
theorem vk_238 : hv_vk 238 = some 5 := rfl
theorem cm_239 : hv_cm 239 = (0, 0) := rfl
theorem vk_239 : hv_vk 239 = some 5 := rfl
theorem cm_240 : hv_cm 240 = (0, 0) := rfl
theorem vk_240 : hv_vk 240 = some 5 := rfl
theorem cm_241 : hv_cm 241 = (0, 0) := rfl
theorem vk_241 : hv_vk 241 = some 5 := rfl
theorem cm_242 : hv_cm 242 = (0, 0) := rfl
theorem vk_242 : hv_vk 242 = some 5 := rfl
theorem cm_243 : hv_cm 243 = (0, 0) := rfl
theorem vk_243 : hv_vk 243 = some 5 := rfl
theorem cm_244 : hv_cm 244 = (0, 0) := rfl
theorem vk_244 : hv_vk 244 = some 5 := rfl
theorem cm_245 : hv_cm 245 = (0, 0) := rfl
theorem vk_245 : hv_vk 245 = some 5 := rfl
theorem cm_246 : hv_cm 246 = (0, 0) := rfl
theorem vk_246 : hv_vk 246 = some 5 := rfl
theorem cm_247 : hv_cm 247 = (0, 0) := rfl
theorem vk_247 : hv_vk 247 = some 5 := rfl
theorem cm_248 : hv_cm 248 = (0, 0) := rfl
theorem vk_248 : hv_vk 248 = some 5 := rfl
theorem cm_249 : hv_cm 249 = (0, 0) := rfl
theorem vk_249 : hv_vk 249 = some 5 := rfl
theorem cm_250 : hv_cm 250 = (0, 0) := rfl
theorem vk_250 : hv_vk 250 = some 5 := rfl
theorem vk_251 : hv_vk 251 = some 6 := rfl
theorem cm_252 : hv_cm 252 = (0, 0) := rfl
theorem vk_252 : hv_vk 252 = some 6 := rfl
theorem cm_253 : hv_cm 253 = (0, 0) := rfl
theorem vk_253 : hv_vk 253 = some 6 := rfl
theorem cm_254 : hv_cm 254 = (0, 0) := rfl
theorem vk_254 : hv_vk 254 = some 6 := rfl
theorem cm_255 : hv_cm 255 = (0, 0) := rfl
theorem vk_255 : hv_vk 255 = some 6 := rfl
theorem cm_256 : hv_cm 256 = (0, 0) := rfl
theorem vk_256 : hv_vk 256 = some 6 := rfl
theorem cm_257 : hv_cm 257 = (0, 0) := rfl
theorem vk_257 : hv_vk 257 = some 6 := rfl
theorem cm_258 : hv_cm 258 = (0, 0) := rfl
theorem vk_258 : hv_vk 258 = some 6 := rfl
theorem cm_259 : hv_cm 259 = (0, 0) := rfl
theorem vk_259 : hv_vk 259 = some 6 := rfl
theorem cm_260 : hv_cm 260 = (0, 0) := rfl
theorem vk_260 : hv_vk 260 = some 6 := rfl
theorem cm_261 : hv_cm 261 = (0, 0) := rfl
theorem vk_261 : hv_vk 261 = some 6 := rfl
theorem cm_262 : hv_cm 262 = (0, 0) := rfl
theorem vk_262 : hv_vk 262 = some 6 := rfl
theorem cm_263 : hv_cm 263 = (0, 0) := rfl
theorem vk_263 : hv_vk 263 = some 6 := rfl
theorem cm_264 : hv_cm 264 = (0, 0) := rfl
theorem vk_264 : hv_vk 264 = some 6 := rfl
theorem cm_265 : hv_cm 265 = (0, 0) := rfl
theorem vk_265 : hv_vk 265 = some 6 := rfl
theorem cm_266 : hv_cm 266 = (0, 0) := rfl
theorem vk_266 : hv_vk 266 = some 6 := rfl
theorem cm_267 : hv_cm 267 = (0, 0) := rfl
theorem vk_267 : hv_vk 267 = some 6 := rfl
theorem cm_268 : hv_cm 268 = (0, 0) := rfl
theorem vk_268 : hv_vk 268 = some 6 := rfl
theorem cm_269 : hv_cm 269 = (0, 0) := rfl
theorem vk_269 : hv_vk 269 = some 6 := rfl
theorem cm_270 : hv_cm 270 = (0, 0) := rfl
theorem vk_270 : hv_vk 270 = some 6 := rfl
theorem cm_271 : hv_cm 271 = (0, 0) := rfl
theorem vk_271 : hv_vk 271 = none := rfl
theorem cm_272 : hv_cm 272 = (0, 0) := rfl
theorem vk_272 : hv_vk 272 = none := rfl
theorem vk_273 : hv_vk 273 = some 7 := rfl
theorem cm_274 : hv_cm 274 = (0, 0) := rfl
theorem vk_274 : hv_vk 274 = some 7 := rfl
theorem cm_275 : hv_cm 275 = (0, 0) := rfl
theorem vk_275 : hv_vk 275 = some 7 := rfl
theorem cm_276 : hv_cm 276 = (0, 0) := rfl
theorem vk_276 : hv_vk 276 = some 7 := rfl
theorem cm_277 : hv_cm 277 = (0, 0) := rfl
theorem vk_277 : hv_vk 277 = some 7 := rfl
theorem cm_278 : hv_cm 278 = (0, 0) := rfl
theorem vk_278 : hv_vk 278 = some 7 := rfl
theorem cm_279 : hv_cm 279 = (0, 0) := rfl
theorem vk_279 : hv_vk 279 = some 7 := rfl
theorem cm_280 : hv_cm 280 = (0, 0) := rfl
theorem vk_280 : hv_vk 280 = some 7 := rfl
theorem cm_281 : hv_cm 281 = (0, 0) := rfl
theorem vk_281 : hv_vk 281 = some 7 := rfl
theorem cm_282 : hv_cm 282 = (0, 0) := rfl
theorem vk_282 : hv_vk 282 = some 7 := rfl
theorem cm_283 : hv_cm 283 = (0, 0) := rfl
theorem vk_283 : hv_vk 283 = some 7 := rfl
theorem cm_284 : hv_cm 284 = (0, 0) := rfl
theorem vk_284 : hv_vk 284 = some 7 := rfl
theorem cm_285 : hv_cm 285 = (0, 0) := rfl
theorem vk_285 : hv_vk 285 = some 7 := rfl
theorem cm_286 : hv_cm 286 = (0, 0) := rfl
theorem vk_286 : hv_vk 286 = some 7 := rfl
theorem cm_287 : hv_cm 287 = (0, 0) := rfl
theorem vk_287 : hv_vk 287 = some 7 := rfl
theorem vk_288 : hv_vk 288 = some 8 := rfl
theorem cm_289 : hv_cm 289 = (0, 0) := rfl
theorem vk_289 : hv_vk 289 = some 8 := rfl
theorem cm_290 : hv_cm 290 = (0, 0) := rfl
theorem vk_290 : hv_vk 290 = some 8 := rfl
theorem cm_291 : hv_cm 291 = (0, 0) := rfl
theorem vk_291 : hv_vk 291 = some 8 := rfl
theorem cm_292 : hv_cm 292 = (0, 0) := rfl
theorem vk_292 : hv_vk 292 = some 8 := rfl
theorem cm_293 : hv_cm 293 = (0, 0) := rfl
theorem vk_293 : hv_vk 293 = some 8 := rfl
theorem vk_294 : hv_vk 294 = some 9 := rfl
theorem cm_295 : hv_cm 295 = (0, 0) := rfl
theorem vk_295 : hv_vk 295 = some 9 := rfl
theorem cm_296 : hv_cm 296 = (0, 0) := rfl
theorem vk_296 : hv_vk 296 = some 9 := rfl
theorem cm_297 : hv_cm 297 = (0, 0) := rfl
theorem vk_297 : hv_vk 297 = some 9 := rfl
theorem cm_298 : hv_cm 298 = (0, 0) := rfl
theorem vk_298 : hv_vk 298 = some 9 := rfl
theorem cm_299 : hv_cm 299 = (0, 0) := rfl
theorem vk_299 : hv_vk 299 = some 9 := rfl
theorem cm_300 : hv_cm 300 = (0, 0) := rfl
theorem vk_300 : hv_vk 300 = none := rfl
theorem cm_301 : hv_cm 301 = (0, 0) := rfl
theorem vk_301 : hv_vk 301 = none := rfl
theorem cm_302 : hv_cm 302 = (0, 0) := rfl
theorem vk_302 : hv_vk 302 = none := rfl
theorem vk_303 : hv_vk 303 = none := rfl
theorem cm_304 : hv_cm 304 = (0, 0) := rfl
theorem vk_304 : hv_vk 304 = none := rfl
