/-! all thirty-nine -/
theorem lw_all : lw_All := ⟨cs_state, cs_dealer, cs_lot, cs_set, cs_sell, cs_act, cs_house, cs_feed, cs_end, cs_text, cs_fault, cs_of, cs_lotOf, cs_winces, cs_word, cs_book, cs_would, cs_worst, cs_clears, cs_sat, cs_seen, cs_ranks, cs_buys, cs_claim, cs_shares, cs_likely, cs_quiet, cs_puts, cs_outs, cs_tells, cs_bring, cs_brings, cs_breath, cs_breaths, cs_game, cs_rich, cs_undo, cs_image, cs_look⟩
theorem whole_left : mj_Left := mj_left2 (lw_left2 lw_all st_I)
