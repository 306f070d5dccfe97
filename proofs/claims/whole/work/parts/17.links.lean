def isTh (ci : Nat) : Prop := ci = 0 ∨ ci = 1 ∨ ci = 3 ∨ ci = 5 ∨ ci = 9 ∨ ci = 10
abbrev zJ0_charAt_5068e : Mt := (yJ0_charAt_5068e, cJ0_charAt_5068e, 2, some (.char))
theorem mJ0_charAt_5068e : MK zJ0_charAt_5068e 1 := ⟨gt_of 327 (by decide +kernel) rfl, gt_of 77 (by decide +kernel) rfl, by decide +kernel, by decide⟩
abbrev zJ0_checkIndex_df160 : Mt := (yJ0_checkIndex_df160, cJ0_checkIndex_df160, 2, none)
theorem mJ0_checkIndex_df160 : MK zJ0_checkIndex_df160 2 := ⟨gt_of 337 (by decide +kernel) rfl, gt_of 77 (by decide +kernel) rfl, by decide +kernel, by decide⟩
abbrev zJ0_coder_7d493 : Mt := (yJ0_coder_7d493, cJ0_coder_7d493, 1, some (.byte))
theorem mJ0_coder_7d493 : MK zJ0_coder_7d493 0 := ⟨gt_of 321 (by decide +kernel) rfl, gt_of 77 (by decide +kernel) rfl, by decide +kernel, by decide⟩
abbrev zJ0_isLatin1_aae02 : Mt := (yJ0_isLatin1_aae02, cJ0_isLatin1_aae02, 1, some (.boolean))
theorem mJ0_isLatin1_aae02 : MK zJ0_isLatin1_aae02 0 := ⟨gt_of 331 (by decide +kernel) rfl, gt_of 77 (by decide +kernel) rfl, by decide +kernel, by decide⟩
abbrev zJ0_length_8abf5 : Mt := (yJ0_length_8abf5, cJ0_length_8abf5, 1, some (.int))
theorem mJ0_length_8abf5 : MK zJ0_length_8abf5 0 := ⟨gt_of 317 (by decide +kernel) rfl, gt_of 77 (by decide +kernel) rfl, by decide +kernel, by decide⟩
abbrev zJ1_charAt_3b067 : Mt := (yJ1_charAt_3b067, cJ1_charAt_3b067, 2, some (.char))
theorem mJ1_charAt_3b067 : MK zJ1_charAt_3b067 2 := ⟨gt_of 334 (by decide +kernel) rfl, gt_of 78 (by decide +kernel) rfl, by decide +kernel, by decide⟩
abbrev zJ2_charAt_3b067 : Mt := (yJ2_charAt_3b067, cJ2_charAt_3b067, 2, some (.char))
theorem mJ2_charAt_3b067 : MK zJ2_charAt_3b067 2 := ⟨gt_of 345 (by decide +kernel) rfl, gt_of 80 (by decide +kernel) rfl, by decide +kernel, by decide⟩
abbrev zJ2_checkIndex_2214a : Mt := (yJ2_checkIndex_2214a, cJ2_checkIndex_2214a, 2, none)
theorem mJ2_checkIndex_2214a : MK zJ2_checkIndex_2214a 2 := ⟨gt_of 348 (by decide +kernel) rfl, gt_of 80 (by decide +kernel) rfl, by decide +kernel, by decide⟩
abbrev zJ2_getChar_3b067 : Mt := (yJ2_getChar_3b067, cJ2_getChar_3b067, 2, some (.char))
theorem mJ2_getChar_3b067 : MK zJ2_getChar_3b067 2 := ⟨gt_of 355 (by decide +kernel) rfl, gt_of 80 (by decide +kernel) rfl, by decide +kernel, by decide⟩
abbrev zJ2_length_9d52b : Mt := (yJ2_length_9d52b, cJ2_length_9d52b, 1, some (.int))
theorem mJ2_length_9d52b : MK zJ2_length_9d52b 1 := ⟨gt_of 351 (by decide +kernel) rfl, gt_of 80 (by decide +kernel) rfl, by decide +kernel, by decide⟩
abbrev zJ3_checkIndex_8e157 : Mt := (yJ3_checkIndex_8e157, cJ3_checkIndex_8e157, 3, some (.int))
theorem mJ3_checkIndex_8e157 : MK zJ3_checkIndex_8e157 3 := ⟨gt_of 342 (by decide +kernel) rfl, gt_of 79 (by decide +kernel) rfl, by decide +kernel, by decide⟩
abbrev zJ6_bitCount_0f7a4 : Mt := (yJ6_bitCount_0f7a4, cJ6_bitCount_0f7a4, 1, some (.int))
theorem mJ6_bitCount_0f7a4 : MK zJ6_bitCount_0f7a4 1 := ⟨gt_of 857 (by decide +kernel) rfl, gt_of 90 (by decide +kernel) rfl, by decide +kernel, by decide⟩
abbrev zJ7_copyOf_59c91 : Mt := (yJ7_copyOf_59c91, cJ7_copyOf_59c91, 3, some (.array .int))
theorem mJ7_copyOf_59c91 : MK zJ7_copyOf_59c91 2 := ⟨gt_of 465 (by decide +kernel) rfl, gt_of 72 (by decide +kernel) rfl, by decide +kernel, by decide⟩
abbrev zJ7_fill_53178 : Mt := (yJ7_fill_53178, cJ7_fill_53178, 4, none)
theorem mJ7_fill_53178 : MK zJ7_fill_53178 2 := ⟨gt_of 109 (by decide +kernel) rfl, gt_of 72 (by decide +kernel) rfl, by decide +kernel, by decide⟩
abbrev zJ9_max_7cf53 : Mt := (yJ9_max_7cf53, cJ9_max_7cf53, 2, some (.int))
theorem mJ9_max_7cf53 : MK zJ9_max_7cf53 2 := ⟨gt_of 716 (by decide +kernel) rfl, gt_of 82 (by decide +kernel) rfl, by decide +kernel, by decide⟩
abbrev zJ9_min_7cf53 : Mt := (yJ9_min_7cf53, cJ9_min_7cf53, 2, some (.int))
theorem mJ9_min_7cf53 : MK zJ9_min_7cf53 2 := ⟨gt_of 475 (by decide +kernel) rfl, gt_of 82 (by decide +kernel) rfl, by decide +kernel, by decide⟩
abbrev zX0_init : Mt := (yX0_init, cX0_init, 5, none)
theorem mX0_init : MK zX0_init 4 := ⟨gt_of 638 (by decide +kernel) rfl, gt_of 89 (by decide +kernel) rfl, by decide +kernel, by decide⟩
abbrev zX0_missed : Mt := (yX0_missed, cX0_missed, 1, some (.int))
theorem mX0_missed : MK zX0_missed 0 := ⟨gt_of 800 (by decide +kernel) rfl, gt_of 89 (by decide +kernel) rfl, by decide +kernel, by decide⟩
abbrev zX0_offends : Mt := (yX0_offends, cX0_offends, 2, some (.int))
theorem mX0_offends : MK zX0_offends 1 := ⟨gt_of 777 (by decide +kernel) rfl, gt_of 89 (by decide +kernel) rfl, by decide +kernel, by decide⟩
abbrev zX10_init : Mt := (yX10_init, cX10_init, 5, none)
theorem mX10_init : MK zX10_init 4 := ⟨gt_of 618 (by decide +kernel) rfl, gt_of 88 (by decide +kernel) rfl, by decide +kernel, by decide⟩
abbrev zX10_missed : Mt := (yX10_missed, cX10_missed, 1, some (.int))
theorem mX10_missed : MK zX10_missed 0 := ⟨gt_of 814 (by decide +kernel) rfl, gt_of 88 (by decide +kernel) rfl, by decide +kernel, by decide⟩
abbrev zX10_offends : Mt := (yX10_offends, cX10_offends, 2, some (.int))
theorem mX10_offends : MK zX10_offends 1 := ⟨gt_of 791 (by decide +kernel) rfl, gt_of 88 (by decide +kernel) rfl, by decide +kernel, by decide⟩
abbrev zX11_back : Mt := (yX11_back, cX11_back, 1, some (.int))
theorem mX11_back : MK zX11_back 0 := ⟨gt_of 1096 (by decide +kernel) rfl, gt_of 70 (by decide +kernel) rfl, by decide +kernel, by decide⟩
abbrev zX11_best : Mt := (yX11_best, cX11_best, 5, some (.int))
theorem mX11_best : MK zX11_best 3 := ⟨gt_of 880 (by decide +kernel) rfl, gt_of 70 (by decide +kernel) rfl, by decide +kernel, by decide⟩
abbrev zX11_cell : Mt := (yX11_cell, cX11_cell, 5, some (.int))
theorem mX11_cell : MK zX11_cell 3 := ⟨gt_of 1112 (by decide +kernel) rfl, gt_of 70 (by decide +kernel) rfl, by decide +kernel, by decide⟩
abbrev zX11_chance : Mt := (yX11_chance, cX11_chance, 6, some (.long))
theorem mX11_chance : MK zX11_chance 3 := ⟨gt_of 1068 (by decide +kernel) rfl, gt_of 70 (by decide +kernel) rfl, by decide +kernel, by decide⟩
abbrev zX11_commonDivisor : Mt := (yX11_commonDivisor, cX11_commonDivisor, 3, some (.int))
theorem mX11_commonDivisor : MK zX11_commonDivisor 2 := ⟨gt_of 1072 (by decide +kernel) rfl, gt_of 70 (by decide +kernel) rfl, by decide +kernel, by decide⟩
abbrev zX11_copy : Mt := (yX11_copy, cX11_copy, 8, some (.int))
theorem mX11_copy : MK zX11_copy 5 := ⟨gt_of 1120 (by decide +kernel) rfl, gt_of 70 (by decide +kernel) rfl, by decide +kernel, by decide⟩
abbrev zX11_count : Mt := (yX11_count, cX11_count, 2, some (.int))
theorem mX11_count : MK zX11_count 1 := ⟨gt_of 1100 (by decide +kernel) rfl, gt_of 70 (by decide +kernel) rfl, by decide +kernel, by decide⟩
abbrev zX11_day : Mt := (yX11_day, cX11_day, 3, some (.int))
theorem mX11_day : MK zX11_day 2 := ⟨gt_of 742 (by decide +kernel) rfl, gt_of 70 (by decide +kernel) rfl, by decide +kernel, by decide⟩
abbrev zX11_dearest : Mt := (yX11_dearest, cX11_dearest, 6, some (.int))
theorem mX11_dearest : MK zX11_dearest 1 := ⟨gt_of 978 (by decide +kernel) rfl, gt_of 70 (by decide +kernel) rfl, by decide +kernel, by decide⟩
abbrev zX11_drawn : Mt := (yX11_drawn, cX11_drawn, 2, some (.int))
theorem mX11_drawn : MK zX11_drawn 1 := ⟨gt_of 1059 (by decide +kernel) rfl, gt_of 70 (by decide +kernel) rfl, by decide +kernel, by decide⟩
abbrev zX11_exchange : Mt := (yX11_exchange, cX11_exchange, 5, some (.int))
theorem mX11_exchange : MK zX11_exchange 4 := ⟨gt_of 527 (by decide +kernel) rfl, gt_of 70 (by decide +kernel) rfl, by decide +kernel, by decide⟩
abbrev zX11_feed : Mt := (yX11_feed, cX11_feed, 2, some (.int))
theorem mX11_feed : MK zX11_feed 1 := ⟨gt_of 730 (by decide +kernel) rfl, gt_of 70 (by decide +kernel) rfl, by decide +kernel, by decide⟩
abbrev zX11_film : Mt := (yX11_film, cX11_film, 4, some (.int))
theorem mX11_film : MK zX11_film 2 := ⟨gt_of 1049 (by decide +kernel) rfl, gt_of 70 (by decide +kernel) rfl, by decide +kernel, by decide⟩
abbrev zX11_force : Mt := (yX11_force, cX11_force, 3, some (.int))
theorem mX11_force : MK zX11_force 1 := ⟨gt_of 738 (by decide +kernel) rfl, gt_of 70 (by decide +kernel) rfl, by decide +kernel, by decide⟩
abbrev zX11_give : Mt := (yX11_give, cX11_give, 5, some (.int))
theorem mX11_give : MK zX11_give 0 := ⟨gt_of 987 (by decide +kernel) rfl, gt_of 70 (by decide +kernel) rfl, by decide +kernel, by decide⟩
abbrev zX11_hasBit : Mt := (yX11_hasBit, cX11_hasBit, 2, some (.boolean))
theorem mX11_hasBit : MK zX11_hasBit 2 := ⟨gt_of 726 (by decide +kernel) rfl, gt_of 70 (by decide +kernel) rfl, by decide +kernel, by decide⟩
abbrev zX11_image : Mt := (yX11_image, cX11_image, 1, some (.int))
theorem mX11_image : MK zX11_image 0 := ⟨gt_of 1077 (by decide +kernel) rfl, gt_of 70 (by decide +kernel) rfl, by decide +kernel, by decide⟩
abbrev zX11_init : Mt := (yX11_init, cX11_init, 2, none)
theorem mX11_init : MK zX11_init 0 := ⟨gt_of 95 (by decide +kernel) rfl, gt_of 70 (by decide +kernel) rfl, by decide +kernel, by decide⟩
abbrev zX11_isBelow : Mt := (yX11_isBelow, cX11_isBelow, 2, some (.boolean))
theorem mX11_isBelow : MK zX11_isBelow 2 := ⟨gt_of 530 (by decide +kernel) rfl, gt_of 70 (by decide +kernel) rfl, by decide +kernel, by decide⟩
abbrev zX11_isOf : Mt := (yX11_isOf, cX11_isOf, 2, some (.boolean))
theorem mX11_isOf : MK zX11_isOf 2 := ⟨gt_of 1136 (by decide +kernel) rfl, gt_of 70 (by decide +kernel) rfl, by decide +kernel, by decide⟩
abbrev zX11_lowestBit : Mt := (yX11_lowestBit, cX11_lowestBit, 2, some (.int))
theorem mX11_lowestBit : MK zX11_lowestBit 1 := ⟨gt_of 1045 (by decide +kernel) rfl, gt_of 70 (by decide +kernel) rfl, by decide +kernel, by decide⟩
abbrev zX11_made : Mt := (yX11_made, cX11_made, 4, some (.object "PutOut$Thing"))
theorem mX11_made : MK zX11_made 4 := ⟨gt_of 553 (by decide +kernel) rfl, gt_of 70 (by decide +kernel) rfl, by decide +kernel, by decide⟩
abbrev zX11_once : Mt := (yX11_once, cX11_once, 3, some (.int))
theorem mX11_once : MK zX11_once 1 := ⟨gt_of 957 (by decide +kernel) rfl, gt_of 70 (by decide +kernel) rfl, by decide +kernel, by decide⟩
abbrev zX11_put : Mt := (yX11_put, cX11_put, 4, some (.int))
theorem mX11_put : MK zX11_put 2 := ⟨gt_of 659 (by decide +kernel) rfl, gt_of 70 (by decide +kernel) rfl, by decide +kernel, by decide⟩
abbrev zX11_rule : Mt := (yX11_rule, cX11_rule, 1, some (.object "PutOut$Text"))
theorem mX11_rule : MK zX11_rule 0 := ⟨gt_of 684 (by decide +kernel) rfl, gt_of 70 (by decide +kernel) rfl, by decide +kernel, by decide⟩
abbrev zX11_seat : Mt := (yX11_seat, cX11_seat, 7, some (.int))
theorem mX11_seat : MK zX11_seat 2 := ⟨gt_of 1009 (by decide +kernel) rfl, gt_of 70 (by decide +kernel) rfl, by decide +kernel, by decide⟩
abbrev zX11_seen : Mt := (yX11_seen, cX11_seen, 5, some (.int))
theorem mX11_seen : MK zX11_seen 2 := ⟨gt_of 1017 (by decide +kernel) rfl, gt_of 70 (by decide +kernel) rfl, by decide +kernel, by decide⟩
abbrev zX11_set : Mt := (yX11_set, cX11_set, 4, some (.int))
theorem mX11_set : MK zX11_set 3 := ⟨gt_of 524 (by decide +kernel) rfl, gt_of 70 (by decide +kernel) rfl, by decide +kernel, by decide⟩
abbrev zX11_sheet : Mt := (yX11_sheet, cX11_sheet, 4, some (.int))
theorem mX11_sheet : MK zX11_sheet 3 := ⟨gt_of 1108 (by decide +kernel) rfl, gt_of 70 (by decide +kernel) rfl, by decide +kernel, by decide⟩
abbrev zX11_taken : Mt := (yX11_taken, cX11_taken, 4, some (.int))
theorem mX11_taken : MK zX11_taken 2 := ⟨gt_of 1133 (by decide +kernel) rfl, gt_of 70 (by decide +kernel) rfl, by decide +kernel, by decide⟩
abbrev zX11_text : Mt := (yX11_text, cX11_text, 2, some (.int))
theorem mX11_text : MK zX11_text 0 := ⟨gt_of 734 (by decide +kernel) rfl, gt_of 70 (by decide +kernel) rfl, by decide +kernel, by decide⟩
abbrev zX11_thing : Mt := (yX11_thing, cX11_thing, 5, some (.int))
theorem mX11_thing : MK zX11_thing 3 := ⟨gt_of 550 (by decide +kernel) rfl, gt_of 70 (by decide +kernel) rfl, by decide +kernel, by decide⟩
abbrev zX11_things : Mt := (yX11_things, cX11_things, 9, some (.int))
theorem mX11_things : MK zX11_things 4 := ⟨gt_of 1128 (by decide +kernel) rfl, gt_of 70 (by decide +kernel) rfl, by decide +kernel, by decide⟩
abbrev zX11_tidy : Mt := (yX11_tidy, cX11_tidy, 4, some (.int))
theorem mX11_tidy : MK zX11_tidy 1 := ⟨gt_of 953 (by decide +kernel) rfl, gt_of 70 (by decide +kernel) rfl, by decide +kernel, by decide⟩
abbrev zX11_told : Mt := (yX11_told, cX11_told, 4, some (.int))
theorem mX11_told : MK zX11_told 2 := ⟨gt_of 720 (by decide +kernel) rfl, gt_of 70 (by decide +kernel) rfl, by decide +kernel, by decide⟩
abbrev zX11_viewersOf : Mt := (yX11_viewersOf, cX11_viewersOf, 4, some (.int))
theorem mX11_viewersOf : MK zX11_viewersOf 2 := ⟨gt_of 723 (by decide +kernel) rfl, gt_of 70 (by decide +kernel) rfl, by decide +kernel, by decide⟩
abbrev zX11_week : Mt := (yX11_week, cX11_week, 3, some (.int))
theorem mX11_week : MK zX11_week 1 := ⟨gt_of 965 (by decide +kernel) rfl, gt_of 70 (by decide +kernel) rfl, by decide +kernel, by decide⟩
abbrev zX12_added : Mt := (yX12_added, cX12_added, 4, some (.int))
theorem mX12_added : MK zX12_added 0 := ⟨gt_of 1403 (by decide +kernel) rfl, gt_of 84 (by decide +kernel) rfl, by decide +kernel, by decide⟩
abbrev zX12_addsDay : Mt := (yX12_addsDay, cX12_addsDay, 4, none)
theorem mX12_addsDay : MK zX12_addsDay 1 := ⟨gt_of 1500 (by decide +kernel) rfl, gt_of 84 (by decide +kernel) rfl, by decide +kernel, by decide⟩
abbrev zX12_areGuests : Mt := (yX12_areGuests, cX12_areGuests, 1, some (.boolean))
theorem mX12_areGuests : MK zX12_areGuests 1 := ⟨gt_of 1453 (by decide +kernel) rfl, gt_of 84 (by decide +kernel) rfl, by decide +kernel, by decide⟩
abbrev zX12_atom : Mt := (yX12_atom, cX12_atom, 2, some (.int))
theorem mX12_atom : MK zX12_atom 0 := ⟨gt_of 1411 (by decide +kernel) rfl, gt_of 84 (by decide +kernel) rfl, by decide +kernel, by decide⟩
abbrev zX12_back : Mt := (yX12_back, cX12_back, 2, some (.int))
theorem mX12_back : MK zX12_back 0 := ⟨gt_of 1593 (by decide +kernel) rfl, gt_of 84 (by decide +kernel) rfl, by decide +kernel, by decide⟩
abbrev zX12_badNow : Mt := (yX12_badNow, cX12_badNow, 4, some (.int))
theorem mX12_badNow : MK zX12_badNow 1 := ⟨gt_of 1461 (by decide +kernel) rfl, gt_of 84 (by decide +kernel) rfl, by decide +kernel, by decide⟩
abbrev zX12_badOf : Mt := (yX12_badOf, cX12_badOf, 4, some (.int))
theorem mX12_badOf : MK zX12_badOf 3 := ⟨gt_of 1465 (by decide +kernel) rfl, gt_of 84 (by decide +kernel) rfl, by decide +kernel, by decide⟩
abbrev zX12_begins : Mt := (yX12_begins, cX12_begins, 2, none)
theorem mX12_begins : MK zX12_begins 0 := ⟨gt_of 1496 (by decide +kernel) rfl, gt_of 84 (by decide +kernel) rfl, by decide +kernel, by decide⟩
abbrev zX12_best : Mt := (yX12_best, cX12_best, 4, some (.int))
theorem mX12_best : MK zX12_best 3 := ⟨gt_of 1484 (by decide +kernel) rfl, gt_of 84 (by decide +kernel) rfl, by decide +kernel, by decide⟩
abbrev zX12_bitsOf : Mt := (yX12_bitsOf, cX12_bitsOf, 3, some (.int))
theorem mX12_bitsOf : MK zX12_bitsOf 1 := ⟨gt_of 1468 (by decide +kernel) rfl, gt_of 84 (by decide +kernel) rfl, by decide +kernel, by decide⟩
abbrev zX12_both : Mt := (yX12_both, cX12_both, 3, some (.int))
theorem mX12_both : MK zX12_both 0 := ⟨gt_of 1391 (by decide +kernel) rfl, gt_of 84 (by decide +kernel) rfl, by decide +kernel, by decide⟩
abbrev zX12_byteAt : Mt := (yX12_byteAt, cX12_byteAt, 2, some (.int))
theorem mX12_byteAt : MK zX12_byteAt 1 := ⟨gt_of 1362 (by decide +kernel) rfl, gt_of 84 (by decide +kernel) rfl, by decide +kernel, by decide⟩
abbrev zX12_cell : Mt := (yX12_cell, cX12_cell, 4, some (.int))
theorem mX12_cell : MK zX12_cell 3 := ⟨gt_of 1603 (by decide +kernel) rfl, gt_of 84 (by decide +kernel) rfl, by decide +kernel, by decide⟩
abbrev zX12_chance : Mt := (yX12_chance, cX12_chance, 12, some (.long))
theorem mX12_chance : MK zX12_chance 3 := ⟨gt_of 1584 (by decide +kernel) rfl, gt_of 84 (by decide +kernel) rfl, by decide +kernel, by decide⟩
abbrev zX12_copy : Mt := (yX12_copy, cX12_copy, 9, some (.int))
theorem mX12_copy : MK zX12_copy 5 := ⟨gt_of 1607 (by decide +kernel) rfl, gt_of 84 (by decide +kernel) rfl, by decide +kernel, by decide⟩
abbrev zX12_count : Mt := (yX12_count, cX12_count, 4, some (.int))
theorem mX12_count : MK zX12_count 1 := ⟨gt_of 1597 (by decide +kernel) rfl, gt_of 84 (by decide +kernel) rfl, by decide +kernel, by decide⟩
abbrev zX12_day : Mt := (yX12_day, cX12_day, 9, some (.int))
theorem mX12_day : MK zX12_day 2 := ⟨gt_of 1450 (by decide +kernel) rfl, gt_of 84 (by decide +kernel) rfl, by decide +kernel, by decide⟩
abbrev zX12_daysBack : Mt := (yX12_daysBack, cX12_daysBack, 2, none)
theorem mX12_daysBack : MK zX12_daysBack 0 := ⟨gt_of 1538 (by decide +kernel) rfl, gt_of 84 (by decide +kernel) rfl, by decide +kernel, by decide⟩
abbrev zX12_dearest : Mt := (yX12_dearest, cX12_dearest, 6, some (.int))
theorem mX12_dearest : MK zX12_dearest 1 := ⟨gt_of 1530 (by decide +kernel) rfl, gt_of 84 (by decide +kernel) rfl, by decide +kernel, by decide⟩
abbrev zX12_doesSee : Mt := (yX12_doesSee, cX12_doesSee, 3, some (.boolean))
theorem mX12_doesSee : MK zX12_doesSee 2 := ⟨gt_of 1433 (by decide +kernel) rfl, gt_of 84 (by decide +kernel) rfl, by decide +kernel, by decide⟩
abbrev zX12_drawn : Mt := (yX12_drawn, cX12_drawn, 2, some (.int))
theorem mX12_drawn : MK zX12_drawn 1 := ⟨gt_of 1575 (by decide +kernel) rfl, gt_of 84 (by decide +kernel) rfl, by decide +kernel, by decide⟩
abbrev zX12_draws : Mt := (yX12_draws, cX12_draws, 4, none)
theorem mX12_draws : MK zX12_draws 1 := ⟨gt_of 1579 (by decide +kernel) rfl, gt_of 84 (by decide +kernel) rfl, by decide +kernel, by decide⟩
abbrev zX12_either : Mt := (yX12_either, cX12_either, 3, some (.int))
theorem mX12_either : MK zX12_either 0 := ⟨gt_of 1387 (by decide +kernel) rfl, gt_of 84 (by decide +kernel) rfl, by decide +kernel, by decide⟩
abbrev zX12_fail : Mt := (yX12_fail, cX12_fail, 1, none)
theorem mX12_fail : MK zX12_fail 0 := ⟨gt_of 1383 (by decide +kernel) rfl, gt_of 84 (by decide +kernel) rfl, by decide +kernel, by decide⟩
abbrev zX12_feed : Mt := (yX12_feed, cX12_feed, 2, some (.int))
theorem mX12_feed : MK zX12_feed 1 := ⟨gt_of 1437 (by decide +kernel) rfl, gt_of 84 (by decide +kernel) rfl, by decide +kernel, by decide⟩
abbrev zX12_film : Mt := (yX12_film, cX12_film, 4, some (.int))
theorem mX12_film : MK zX12_film 2 := ⟨gt_of 1566 (by decide +kernel) rfl, gt_of 84 (by decide +kernel) rfl, by decide +kernel, by decide⟩
abbrev zX12_force : Mt := (yX12_force, cX12_force, 3, some (.int))
theorem mX12_force : MK zX12_force 1 := ⟨gt_of 1446 (by decide +kernel) rfl, gt_of 84 (by decide +kernel) rfl, by decide +kernel, by decide⟩
abbrev zX12_fromNow : Mt := (yX12_fromNow, cX12_fromNow, 2, none)
theorem mX12_fromNow : MK zX12_fromNow 0 := ⟨gt_of 1488 (by decide +kernel) rfl, gt_of 84 (by decide +kernel) rfl, by decide +kernel, by decide⟩
abbrev zX12_gathers : Mt := (yX12_gathers, cX12_gathers, 3, none)
theorem mX12_gathers : MK zX12_gathers 0 := ⟨gt_of 1457 (by decide +kernel) rfl, gt_of 84 (by decide +kernel) rfl, by decide +kernel, by decide⟩
abbrev zX12_give : Mt := (yX12_give, cX12_give, 6, some (.int))
theorem mX12_give : MK zX12_give 0 := ⟨gt_of 1542 (by decide +kernel) rfl, gt_of 84 (by decide +kernel) rfl, by decide +kernel, by decide⟩
abbrev zX12_goesThrough : Mt := (yX12_goesThrough, cX12_goesThrough, 9, none)
theorem mX12_goesThrough : MK zX12_goesThrough 4 := ⟨gt_of 1504 (by decide +kernel) rfl, gt_of 84 (by decide +kernel) rfl, by decide +kernel, by decide⟩
abbrev zX12_image : Mt := (yX12_image, cX12_image, 2, some (.int))
theorem mX12_image : MK zX12_image 0 := ⟨gt_of 1589 (by decide +kernel) rfl, gt_of 84 (by decide +kernel) rfl, by decide +kernel, by decide⟩
abbrev zX12_in : Mt := (yX12_in, cX12_in, 6, some (.boolean))
theorem mX12_in : MK zX12_in 3 := ⟨gt_of 1323 (by decide +kernel) rfl, gt_of 84 (by decide +kernel) rfl, by decide +kernel, by decide⟩
abbrev zX12_init : Mt := (yX12_init, cX12_init, 2, none)
theorem mX12_init : MK zX12_init 0 := ⟨gt_of 1141 (by decide +kernel) rfl, gt_of 84 (by decide +kernel) rfl, by decide +kernel, by decide⟩
abbrev zX12_isLetter : Mt := (yX12_isLetter, cX12_isLetter, 3, some (.boolean))
theorem mX12_isLetter : MK zX12_isLetter 2 := ⟨gt_of 1375 (by decide +kernel) rfl, gt_of 84 (by decide +kernel) rfl, by decide +kernel, by decide⟩
abbrev zX12_isPlace : Mt := (yX12_isPlace, cX12_isPlace, 1, some (.boolean))
theorem mX12_isPlace : MK zX12_isPlace 1 := ⟨gt_of 1342 (by decide +kernel) rfl, gt_of 84 (by decide +kernel) rfl, by decide +kernel, by decide⟩
abbrev zX12_isRoom : Mt := (yX12_isRoom, cX12_isRoom, 5, some (.boolean))
theorem mX12_isRoom : MK zX12_isRoom 1 := ⟨gt_of 1558 (by decide +kernel) rfl, gt_of 84 (by decide +kernel) rfl, by decide +kernel, by decide⟩
abbrev zX12_isSheet : Mt := (yX12_isSheet, cX12_isSheet, 1, some (.boolean))
theorem mX12_isSheet : MK zX12_isSheet 1 := ⟨gt_of 1554 (by decide +kernel) rfl, gt_of 84 (by decide +kernel) rfl, by decide +kernel, by decide⟩
abbrev zX12_isSign : Mt := (yX12_isSign, cX12_isSign, 2, some (.boolean))
theorem mX12_isSign : MK zX12_isSign 1 := ⟨gt_of 1415 (by decide +kernel) rfl, gt_of 84 (by decide +kernel) rfl, by decide +kernel, by decide⟩
abbrev zX12_isThing : Mt := (yX12_isThing, cX12_isThing, 2, some (.boolean))
theorem mX12_isThing : MK zX12_isThing 1 := ⟨gt_of 1339 (by decide +kernel) rfl, gt_of 84 (by decide +kernel) rfl, by decide +kernel, by decide⟩
abbrev zX12_isWord : Mt := (yX12_isWord, cX12_isWord, 9, some (.boolean))
theorem mX12_isWord : MK zX12_isWord 8 := ⟨gt_of 1371 (by decide +kernel) rfl, gt_of 84 (by decide +kernel) rfl, by decide +kernel, by decide⟩
abbrev zX12_keepsDays : Mt := (yX12_keepsDays, cX12_keepsDays, 2, none)
theorem mX12_keepsDays : MK zX12_keepsDays 0 := ⟨gt_of 1534 (by decide +kernel) rfl, gt_of 84 (by decide +kernel) rfl, by decide +kernel, by decide⟩
abbrev zX12_leastBad : Mt := (yX12_leastBad, cX12_leastBad, 2, some (.int))
theorem mX12_leastBad : MK zX12_leastBad 1 := ⟨gt_of 1562 (by decide +kernel) rfl, gt_of 84 (by decide +kernel) rfl, by decide +kernel, by decide⟩
abbrev zX12_missedOf : Mt := (yX12_missedOf, cX12_missedOf, 3, some (.int))
theorem mX12_missedOf : MK zX12_missedOf 1 := ⟨gt_of 1476 (by decide +kernel) rfl, gt_of 84 (by decide +kernel) rfl, by decide +kernel, by decide⟩
abbrev zX12_name : Mt := (yX12_name, cX12_name, 1, some (.int))
theorem mX12_name : MK zX12_name 0 := ⟨gt_of 1419 (by decide +kernel) rfl, gt_of 84 (by decide +kernel) rfl, by decide +kernel, by decide⟩
abbrev zX12_next : Mt := (yX12_next, cX12_next, 3, none)
theorem mX12_next : MK zX12_next 0 := ⟨gt_of 1358 (by decide +kernel) rfl, gt_of 84 (by decide +kernel) rfl, by decide +kernel, by decide⟩
abbrev zX12_not : Mt := (yX12_not, cX12_not, 4, some (.int))
theorem mX12_not : MK zX12_not 0 := ⟨gt_of 1395 (by decide +kernel) rfl, gt_of 84 (by decide +kernel) rfl, by decide +kernel, by decide⟩
abbrev zX12_offendsOf : Mt := (yX12_offendsOf, cX12_offendsOf, 5, some (.int))
theorem mX12_offendsOf : MK zX12_offendsOf 2 := ⟨gt_of 1480 (by decide +kernel) rfl, gt_of 84 (by decide +kernel) rfl, by decide +kernel, by decide⟩
abbrev zX12_once : Mt := (yX12_once, cX12_once, 2, some (.int))
theorem mX12_once : MK zX12_once 1 := ⟨gt_of 1513 (by decide +kernel) rfl, gt_of 84 (by decide +kernel) rfl, by decide +kernel, by decide⟩
abbrev zX12_opens : Mt := (yX12_opens, cX12_opens, 1, some (.boolean))
theorem mX12_opens : MK zX12_opens 0 := ⟨gt_of 1399 (by decide +kernel) rfl, gt_of 84 (by decide +kernel) rfl, by decide +kernel, by decide⟩
abbrev zX12_over : Mt := (yX12_over, cX12_over, 1, some (.int))
theorem mX12_over : MK zX12_over 1 := ⟨gt_of 1619 (by decide +kernel) rfl, gt_of 84 (by decide +kernel) rfl, by decide +kernel, by decide⟩
abbrev zX12_part : Mt := (yX12_part, cX12_part, 3, some (.int))
theorem mX12_part : MK zX12_part 1 := ⟨gt_of 1379 (by decide +kernel) rfl, gt_of 84 (by decide +kernel) rfl, by decide +kernel, by decide⟩
abbrev zX12_put : Mt := (yX12_put, cX12_put, 4, some (.int))
theorem mX12_put : MK zX12_put 2 := ⟨gt_of 1335 (by decide +kernel) rfl, gt_of 84 (by decide +kernel) rfl, by decide +kernel, by decide⟩
abbrev zX12_read : Mt := (yX12_read, cX12_read, 6, some (.int))
theorem mX12_read : MK zX12_read 2 := ⟨gt_of 1354 (by decide +kernel) rfl, gt_of 84 (by decide +kernel) rfl, by decide +kernel, by decide⟩
abbrev zX12_says : Mt := (yX12_says, cX12_says, 5, some (.int))
theorem mX12_says : MK zX12_says 4 := ⟨gt_of 1350 (by decide +kernel) rfl, gt_of 84 (by decide +kernel) rfl, by decide +kernel, by decide⟩
abbrev zX12_seat : Mt := (yX12_seat, cX12_seat, 8, some (.int))
theorem mX12_seat : MK zX12_seat 2 := ⟨gt_of 1546 (by decide +kernel) rfl, gt_of 84 (by decide +kernel) rfl, by decide +kernel, by decide⟩
abbrev zX12_seeksFor : Mt := (yX12_seeksFor, cX12_seeksFor, 3, none)
theorem mX12_seeksFor : MK zX12_seeksFor 2 := ⟨gt_of 1492 (by decide +kernel) rfl, gt_of 84 (by decide +kernel) rfl, by decide +kernel, by decide⟩
abbrev zX12_seeksOnce : Mt := (yX12_seeksOnce, cX12_seeksOnce, 2, none)
theorem mX12_seeksOnce : MK zX12_seeksOnce 0 := ⟨gt_of 1517 (by decide +kernel) rfl, gt_of 84 (by decide +kernel) rfl, by decide +kernel, by decide⟩
abbrev zX12_seen : Mt := (yX12_seen, cX12_seen, 9, some (.int))
theorem mX12_seen : MK zX12_seen 2 := ⟨gt_of 1551 (by decide +kernel) rfl, gt_of 84 (by decide +kernel) rfl, by decide +kernel, by decide⟩
abbrev zX12_set : Mt := (yX12_set, cX12_set, 6, some (.int))
theorem mX12_set : MK zX12_set 3 := ⟨gt_of 1319 (by decide +kernel) rfl, gt_of 84 (by decide +kernel) rfl, by decide +kernel, by decide⟩
abbrev zX12_sheet : Mt := (yX12_sheet, cX12_sheet, 5, some (.int))
theorem mX12_sheet : MK zX12_sheet 3 := ⟨gt_of 1570 (by decide +kernel) rfl, gt_of 84 (by decide +kernel) rfl, by decide +kernel, by decide⟩
abbrev zX12_spell : Mt := (yX12_spell, cX12_spell, 10, none)
theorem mX12_spell : MK zX12_spell 9 := ⟨gt_of 1146 (by decide +kernel) rfl, gt_of 84 (by decide +kernel) rfl, by decide +kernel, by decide⟩
abbrev zX12_stands : Mt := (yX12_stands, cX12_stands, 4, some (.boolean))
theorem mX12_stands : MK zX12_stands 2 := ⟨gt_of 1346 (by decide +kernel) rfl, gt_of 84 (by decide +kernel) rfl, by decide +kernel, by decide⟩
abbrev zX12_taken : Mt := (yX12_taken, cX12_taken, 4, some (.int))
theorem mX12_taken : MK zX12_taken 2 := ⟨gt_of 1616 (by decide +kernel) rfl, gt_of 84 (by decide +kernel) rfl, by decide +kernel, by decide⟩
abbrev zX12_term : Mt := (yX12_term, cX12_term, 2, some (.int))
theorem mX12_term : MK zX12_term 0 := ⟨gt_of 1407 (by decide +kernel) rfl, gt_of 84 (by decide +kernel) rfl, by decide +kernel, by decide⟩
abbrev zX12_text : Mt := (yX12_text, cX12_text, 2, some (.int))
theorem mX12_text : MK zX12_text 0 := ⟨gt_of 1442 (by decide +kernel) rfl, gt_of 84 (by decide +kernel) rfl, by decide +kernel, by decide⟩
abbrev zX12_thing : Mt := (yX12_thing, cX12_thing, 4, some (.int))
theorem mX12_thing : MK zX12_thing 3 := ⟨gt_of 1330 (by decide +kernel) rfl, gt_of 84 (by decide +kernel) rfl, by decide +kernel, by decide⟩
abbrev zX12_things : Mt := (yX12_things, cX12_things, 8, some (.int))
theorem mX12_things : MK zX12_things 4 := ⟨gt_of 1611 (by decide +kernel) rfl, gt_of 84 (by decide +kernel) rfl, by decide +kernel, by decide⟩
abbrev zX12_tidy : Mt := (yX12_tidy, cX12_tidy, 4, some (.int))
theorem mX12_tidy : MK zX12_tidy 1 := ⟨gt_of 1508 (by decide +kernel) rfl, gt_of 84 (by decide +kernel) rfl, by decide +kernel, by decide⟩
abbrev zX12_timesBad : Mt := (yX12_timesBad, cX12_timesBad, 7, some (.int))
theorem mX12_timesBad : MK zX12_timesBad 3 := ⟨gt_of 1472 (by decide +kernel) rfl, gt_of 84 (by decide +kernel) rfl, by decide +kernel, by decide⟩
abbrev zX12_told : Mt := (yX12_told, cX12_told, 5, some (.int))
theorem mX12_told : MK zX12_told 2 := ⟨gt_of 1428 (by decide +kernel) rfl, gt_of 84 (by decide +kernel) rfl, by decide +kernel, by decide⟩
abbrev zX12_week : Mt := (yX12_week, cX12_week, 2, some (.int))
theorem mX12_week : MK zX12_week 1 := ⟨gt_of 1521 (by decide +kernel) rfl, gt_of 84 (by decide +kernel) rfl, by decide +kernel, by decide⟩
abbrev zX12_weeks : Mt := (yX12_weeks, cX12_weeks, 4, none)
theorem mX12_weeks : MK zX12_weeks 0 := ⟨gt_of 1526 (by decide +kernel) rfl, gt_of 84 (by decide +kernel) rfl, by decide +kernel, by decide⟩
abbrev zX12_within : Mt := (yX12_within, cX12_within, 3, some (.int))
theorem mX12_within : MK zX12_within 3 := ⟨gt_of 1424 (by decide +kernel) rfl, gt_of 84 (by decide +kernel) rfl, by decide +kernel, by decide⟩
abbrev zX1_init : Mt := (yX1_init, cX1_init, 5, none)
theorem mX1_init : MK zX1_init 4 := ⟨gt_of 578 (by decide +kernel) rfl, gt_of 86 (by decide +kernel) rfl, by decide +kernel, by decide⟩
abbrev zX1_missed : Mt := (yX1_missed, cX1_missed, 1, some (.int))
theorem mX1_missed : MK zX1_missed 0 := ⟨gt_of 803 (by decide +kernel) rfl, gt_of 86 (by decide +kernel) rfl, by decide +kernel, by decide⟩
abbrev zX1_offends : Mt := (yX1_offends, cX1_offends, 2, some (.int))
theorem mX1_offends : MK zX1_offends 1 := ⟨gt_of 780 (by decide +kernel) rfl, gt_of 86 (by decide +kernel) rfl, by decide +kernel, by decide⟩
abbrev zX1_stands : Mt := (yX1_stands, cX1_stands, 2, some (.boolean))
theorem mX1_stands : MK zX1_stands 1 := ⟨gt_of 667 (by decide +kernel) rfl, gt_of 86 (by decide +kernel) rfl, by decide +kernel, by decide⟩
abbrev zX2_has : Mt := (yX2_has, cX2_has, 2, some (.boolean))
theorem mX2_has : MK zX2_has 1 := ⟨gt_of 534 (by decide +kernel) rfl, gt_of 71 (by decide +kernel) rfl, by decide +kernel, by decide⟩
abbrev zX2_howManyArePut : Mt := (yX2_howManyArePut, cX2_howManyArePut, 3, some (.int))
theorem mX2_howManyArePut : MK zX2_howManyArePut 0 := ⟨gt_of 1104 (by decide +kernel) rfl, gt_of 71 (by decide +kernel) rfl, by decide +kernel, by decide⟩
abbrev zX2_init : Mt := (yX2_init, cX2_init, 2, none)
theorem mX2_init : MK zX2_init 0 := ⟨gt_of 103 (by decide +kernel) rfl, gt_of 71 (by decide +kernel) rfl, by decide +kernel, by decide⟩
abbrev zX2_isTaken : Mt := (yX2_isTaken, cX2_isTaken, 3, some (.boolean))
theorem mX2_isTaken : MK zX2_isTaken 1 := ⟨gt_of 680 (by decide +kernel) rfl, gt_of 71 (by decide +kernel) rfl, by decide +kernel, by decide⟩
abbrev zX2_take : Mt := (yX2_take, cX2_take, 3, none)
theorem mX2_take : MK zX2_take 1 := ⟨gt_of 1081 (by decide +kernel) rfl, gt_of 71 (by decide +kernel) rfl, by decide +kernel, by decide⟩
abbrev zX3_init : Mt := (yX3_init, cX3_init, 5, none)
theorem mX3_init : MK zX3_init 4 := ⟨gt_of 558 (by decide +kernel) rfl, gt_of 85 (by decide +kernel) rfl, by decide +kernel, by decide⟩
abbrev zX3_stands : Mt := (yX3_stands, cX3_stands, 2, some (.boolean))
theorem mX3_stands : MK zX3_stands 1 := ⟨gt_of 670 (by decide +kernel) rfl, gt_of 85 (by decide +kernel) rfl, by decide +kernel, by decide⟩
abbrev zX4_badDay : Mt := (yX4_badDay, cX4_badDay, 5, some (.int))
theorem mX4_badDay : MK zX4_badDay 1 := ⟨gt_of 824 (by decide +kernel) rfl, gt_of 75 (by decide +kernel) rfl, by decide +kernel, by decide⟩
abbrev zX4_bestFor : Mt := (yX4_bestFor, cX4_bestFor, 3, some (.int))
theorem mX4_bestFor : MK zX4_bestFor 2 := ⟨gt_of 884 (by decide +kernel) rfl, gt_of 75 (by decide +kernel) rfl, by decide +kernel, by decide⟩
abbrev zX4_bitOf : Mt := (yX4_bitOf, cX4_bitOf, 1, some (.int))
theorem mX4_bitOf : MK zX4_bitOf 1 := ⟨gt_of 944 (by decide +kernel) rfl, gt_of 75 (by decide +kernel) rfl, by decide +kernel, by decide⟩
abbrev zX4_costFrom : Mt := (yX4_costFrom, cX4_costFrom, 8, some (.int))
theorem mX4_costFrom : MK zX4_costFrom 5 := ⟨gt_of 941 (by decide +kernel) rfl, gt_of 75 (by decide +kernel) rfl, by decide +kernel, by decide⟩
abbrev zX4_draw : Mt := (yX4_draw, cX4_draw, 4, none)
theorem mX4_draw : MK zX4_draw 1 := ⟨gt_of 1063 (by decide +kernel) rfl, gt_of 75 (by decide +kernel) rfl, by decide +kernel, by decide⟩
abbrev zX4_enterFound : Mt := (yX4_enterFound, cX4_enterFound, 3, some (.int))
theorem mX4_enterFound : MK zX4_enterFound 0 := ⟨gt_of 974 (by decide +kernel) rfl, gt_of 75 (by decide +kernel) rfl, by decide +kernel, by decide⟩
abbrev zX4_enterNow : Mt := (yX4_enterNow, cX4_enterNow, 2, none)
theorem mX4_enterNow : MK zX4_enterNow 0 := ⟨gt_of 820 (by decide +kernel) rfl, gt_of 75 (by decide +kernel) rfl, by decide +kernel, by decide⟩
abbrev zX4_enters : Mt := (yX4_enters, cX4_enters, 5, some (.boolean))
theorem mX4_enters : MK zX4_enters 1 := ⟨gt_of 1021 (by decide +kernel) rfl, gt_of 75 (by decide +kernel) rfl, by decide +kernel, by decide⟩
abbrev zX4_expected : Mt := (yX4_expected, cX4_expected, 3, some (.int))
theorem mX4_expected : MK zX4_expected 0 := ⟨gt_of 1040 (by decide +kernel) rfl, gt_of 75 (by decide +kernel) rfl, by decide +kernel, by decide⟩
abbrev zX4_fillLeast : Mt := (yX4_fillLeast, cX4_fillLeast, 7, none)
theorem mX4_fillLeast : MK zX4_fillLeast 3 := ⟨gt_of 935 (by decide +kernel) rfl, gt_of 75 (by decide +kernel) rfl, by decide +kernel, by decide⟩
abbrev zX4_follow : Mt := (yX4_follow, cX4_follow, 8, none)
theorem mX4_follow : MK zX4_follow 2 := ⟨gt_of 949 (by decide +kernel) rfl, gt_of 75 (by decide +kernel) rfl, by decide +kernel, by decide⟩
abbrev zX4_giveAway : Mt := (yX4_giveAway, cX4_giveAway, 2, none)
theorem mX4_giveAway : MK zX4_giveAway 1 := ⟨gt_of 991 (by decide +kernel) rfl, gt_of 75 (by decide +kernel) rfl, by decide +kernel, by decide⟩
abbrev zX4_init : Mt := (yX4_init, cX4_init, 1, none)
theorem mX4_init : MK zX4_init 0 := ⟨gt_of 250 (by decide +kernel) rfl, gt_of 75 (by decide +kernel) rfl, by decide +kernel, by decide⟩
abbrev zX4_lackOf : Mt := (yX4_lackOf, cX4_lackOf, 4, some (.int))
theorem mX4_lackOf : MK zX4_lackOf 1 := ⟨gt_of 995 (by decide +kernel) rfl, gt_of 75 (by decide +kernel) rfl, by decide +kernel, by decide⟩
abbrev zX4_leaveOut : Mt := (yX4_leaveOut, cX4_leaveOut, 4, none)
theorem mX4_leaveOut : MK zX4_leaveOut 2 := ⟨gt_of 983 (by decide +kernel) rfl, gt_of 75 (by decide +kernel) rfl, by decide +kernel, by decide⟩
abbrev zX4_lookAround : Mt := (yX4_lookAround, cX4_lookAround, 2, none)
theorem mX4_lookAround : MK zX4_lookAround 0 := ⟨gt_of 751 (by decide +kernel) rfl, gt_of 75 (by decide +kernel) rfl, by decide +kernel, by decide⟩
abbrev zX4_onceCost : Mt := (yX4_onceCost, cX4_onceCost, 2, some (.int))
theorem mX4_onceCost : MK zX4_onceCost 0 := ⟨gt_of 961 (by decide +kernel) rfl, gt_of 75 (by decide +kernel) rfl, by decide +kernel, by decide⟩
abbrev zX4_priceDay : Mt := (yX4_priceDay, cX4_priceDay, 3, none)
theorem mX4_priceDay : MK zX4_priceDay 1 := ⟨gt_of 916 (by decide +kernel) rfl, gt_of 75 (by decide +kernel) rfl, by decide +kernel, by decide⟩
abbrev zX4_priceMoves : Mt := (yX4_priceMoves, cX4_priceMoves, 2, none)
theorem mX4_priceMoves : MK zX4_priceMoves 0 := ⟨gt_of 902 (by decide +kernel) rfl, gt_of 75 (by decide +kernel) rfl, by decide +kernel, by decide⟩
abbrev zX4_priceNothing : Mt := (yX4_priceNothing, cX4_priceNothing, 2, none)
theorem mX4_priceNothing : MK zX4_priceNothing 0 := ⟨gt_of 888 (by decide +kernel) rfl, gt_of 75 (by decide +kernel) rfl, by decide +kernel, by decide⟩
abbrev zX4_search : Mt := (yX4_search, cX4_search, 6, some (.int))
theorem mX4_search : MK zX4_search 1 := ⟨gt_of 930 (by decide +kernel) rfl, gt_of 75 (by decide +kernel) rfl, by decide +kernel, by decide⟩
abbrev zX4_sits : Mt := (yX4_sits, cX4_sits, 3, none)
theorem mX4_sits : MK zX4_sits 2 := ⟨gt_of 1013 (by decide +kernel) rfl, gt_of 75 (by decide +kernel) rfl, by decide +kernel, by decide⟩
abbrev zX4_start : Mt := (yX4_start, cX4_start, 4, none)
theorem mX4_start : MK zX4_start 2 := ⟨gt_of 746 (by decide +kernel) rfl, gt_of 75 (by decide +kernel) rfl, by decide +kernel, by decide⟩
abbrev zX4_surprised : Mt := (yX4_surprised, cX4_surprised, 4, some (.int))
theorem mX4_surprised : MK zX4_surprised 0 := ⟨gt_of 1036 (by decide +kernel) rfl, gt_of 75 (by decide +kernel) rfl, by decide +kernel, by decide⟩
abbrev zX4_thingsThat : Mt := (yX4_thingsThat, cX4_thingsThat, 7, some (.int))
theorem mX4_thingsThat : MK zX4_thingsThat 2 := ⟨gt_of 864 (by decide +kernel) rfl, gt_of 75 (by decide +kernel) rfl, by decide +kernel, by decide⟩
abbrev zX4_weekCost : Mt := (yX4_weekCost, cX4_weekCost, 4, some (.int))
theorem mX4_weekCost : MK zX4_weekCost 0 := ⟨gt_of 969 (by decide +kernel) rfl, gt_of 75 (by decide +kernel) rfl, by decide +kernel, by decide⟩
abbrev zX5_init : Mt := (yX5_init, cX5_init, 5, none)
theorem mX5_init : MK zX5_init 4 := ⟨gt_of 598 (by decide +kernel) rfl, gt_of 87 (by decide +kernel) rfl, by decide +kernel, by decide⟩
abbrev zX5_missed : Mt := (yX5_missed, cX5_missed, 1, some (.int))
theorem mX5_missed : MK zX5_missed 0 := ⟨gt_of 808 (by decide +kernel) rfl, gt_of 87 (by decide +kernel) rfl, by decide +kernel, by decide⟩
abbrev zX5_offends : Mt := (yX5_offends, cX5_offends, 2, some (.int))
theorem mX5_offends : MK zX5_offends 1 := ⟨gt_of 785 (by decide +kernel) rfl, gt_of 87 (by decide +kernel) rfl, by decide +kernel, by decide⟩
abbrev zX5_stands : Mt := (yX5_stands, cX5_stands, 2, some (.boolean))
theorem mX5_stands : MK zX5_stands 1 := ⟨gt_of 673 (by decide +kernel) rfl, gt_of 87 (by decide +kernel) rfl, by decide +kernel, by decide⟩
abbrev zX6_advance : Mt := (yX6_advance, cX6_advance, 1, none)
theorem mX6_advance : MK zX6_advance 0 := ⟨gt_of 369 (by decide +kernel) rfl, gt_of 74 (by decide +kernel) rfl, by decide +kernel, by decide⟩
abbrev zX6_both : Mt := (yX6_both, cX6_both, 3, none)
theorem mX6_both : MK zX6_both 1 := ⟨gt_of 428 (by decide +kernel) rfl, gt_of 74 (by decide +kernel) rfl, by decide +kernel, by decide⟩
abbrev zX6_comparison : Mt := (yX6_comparison, cX6_comparison, 3, none)
theorem mX6_comparison : MK zX6_comparison 1 := ⟨gt_of 436 (by decide +kernel) rfl, gt_of 74 (by decide +kernel) rfl, by decide +kernel, by decide⟩
abbrev zX6_digits : Mt := (yX6_digits, cX6_digits, 1, some (.int))
theorem mX6_digits : MK zX6_digits 0 := ⟨gt_of 409 (by decide +kernel) rfl, gt_of 74 (by decide +kernel) rfl, by decide +kernel, by decide⟩
abbrev zX6_either : Mt := (yX6_either, cX6_either, 3, none)
theorem mX6_either : MK zX6_either 1 := ⟨gt_of 424 (by decide +kernel) rfl, gt_of 74 (by decide +kernel) rfl, by decide +kernel, by decide⟩
abbrev zX6_emit : Mt := (yX6_emit, cX6_emit, 2, none)
theorem mX6_emit : MK zX6_emit 1 := ⟨gt_of 452 (by decide +kernel) rfl, gt_of 74 (by decide +kernel) rfl, by decide +kernel, by decide⟩
abbrev zX6_expect : Mt := (yX6_expect, cX6_expect, 2, none)
theorem mX6_expect : MK zX6_expect 1 := ⟨gt_of 416 (by decide +kernel) rfl, gt_of 74 (by decide +kernel) rfl, by decide +kernel, by decide⟩
abbrev zX6_fail : Mt := (yX6_fail, cX6_fail, 1, none)
theorem mX6_fail : MK zX6_fail 0 := ⟨gt_of 420 (by decide +kernel) rfl, gt_of 74 (by decide +kernel) rfl, by decide +kernel, by decide⟩
abbrev zX6_init : Mt := (yX6_init, cX6_init, 1, none)
theorem mX6_init : MK zX6_init 0 := ⟨gt_of 209 (by decide +kernel) rfl, gt_of 74 (by decide +kernel) rfl, by decide +kernel, by decide⟩
abbrev zX6_isDigit : Mt := (yX6_isDigit, cX6_isDigit, 1, some (.boolean))
theorem mX6_isDigit : MK zX6_isDigit 1 := ⟨gt_of 405 (by decide +kernel) rfl, gt_of 74 (by decide +kernel) rfl, by decide +kernel, by decide⟩
abbrev zX6_isLetter : Mt := (yX6_isLetter, cX6_isLetter, 1, some (.boolean))
theorem mX6_isLetter : MK zX6_isLetter 1 := ⟨gt_of 372 (by decide +kernel) rfl, gt_of 74 (by decide +kernel) rfl, by decide +kernel, by decide⟩
abbrev zX6_key : Mt := (yX6_key, cX6_key, 1, some (.int))
theorem mX6_key : MK zX6_key 0 := ⟨gt_of 380 (by decide +kernel) rfl, gt_of 74 (by decide +kernel) rfl, by decide +kernel, by decide⟩
abbrev zX6_made : Mt := (yX6_made, cX6_made, 1, some (.object "PutOut$Text"))
theorem mX6_made : MK zX6_made 0 := ⟨gt_of 456 (by decide +kernel) rfl, gt_of 74 (by decide +kernel) rfl, by decide +kernel, by decide⟩
abbrev zX6_name : Mt := (yX6_name, cX6_name, 1, some (.int))
theorem mX6_name : MK zX6_name 0 := ⟨gt_of 396 (by decide +kernel) rfl, gt_of 74 (by decide +kernel) rfl, by decide +kernel, by decide⟩
abbrev zX6_negation : Mt := (yX6_negation, cX6_negation, 2, none)
theorem mX6_negation : MK zX6_negation 1 := ⟨gt_of 432 (by decide +kernel) rfl, gt_of 74 (by decide +kernel) rfl, by decide +kernel, by decide⟩
abbrev zX6_one : Mt := (yX6_one, cX6_one, 2, none)
theorem mX6_one : MK zX6_one 1 := ⟨gt_of 448 (by decide +kernel) rfl, gt_of 74 (by decide +kernel) rfl, by decide +kernel, by decide⟩
abbrev zX6_read : Mt := (yX6_read, cX6_read, 4, some (.int))
theorem mX6_read : MK zX6_read 2 := ⟨gt_of 365 (by decide +kernel) rfl, gt_of 74 (by decide +kernel) rfl, by decide +kernel, by decide⟩
abbrev zX6_sign : Mt := (yX6_sign, cX6_sign, 1, some (.int))
theorem mX6_sign : MK zX6_sign 1 := ⟨gt_of 412 (by decide +kernel) rfl, gt_of 74 (by decide +kernel) rfl, by decide +kernel, by decide⟩
abbrev zX6_spells : Mt := (yX6_spells, cX6_spells, 3, some (.boolean))
theorem mX6_spells : MK zX6_spells 1 := ⟨gt_of 385 (by decide +kernel) rfl, gt_of 74 (by decide +kernel) rfl, by decide +kernel, by decide⟩
abbrev zX6_sum : Mt := (yX6_sum, cX6_sum, 4, none)
theorem mX6_sum : MK zX6_sum 1 := ⟨gt_of 440 (by decide +kernel) rfl, gt_of 74 (by decide +kernel) rfl, by decide +kernel, by decide⟩
abbrev zX6_term : Mt := (yX6_term, cX6_term, 3, none)
theorem mX6_term : MK zX6_term 1 := ⟨gt_of 444 (by decide +kernel) rfl, gt_of 74 (by decide +kernel) rfl, by decide +kernel, by decide⟩
abbrev zX6_word : Mt := (yX6_word, cX6_word, 2, some (.int))
theorem mX6_word : MK zX6_word 0 := ⟨gt_of 376 (by decide +kernel) rfl, gt_of 74 (by decide +kernel) rfl, by decide +kernel, by decide⟩
abbrev zX7_become : Mt := (yX7_become, cX7_become, 3, none)
theorem mX7_become : MK zX7_become 2 := ⟨gt_of 1053 (by decide +kernel) rfl, gt_of 76 (by decide +kernel) rfl, by decide +kernel, by decide⟩
abbrev zX7_holds : Mt := (yX7_holds, cX7_holds, 3, some (.boolean))
theorem mX7_holds : MK zX7_holds 2 := ⟨gt_of 1124 (by decide +kernel) rfl, gt_of 76 (by decide +kernel) rfl, by decide +kernel, by decide⟩
abbrev zX7_init : Mt := (yX7_init, cX7_init, 1, none)
theorem mX7_init : MK zX7_init 0 := ⟨gt_of 298 (by decide +kernel) rfl, gt_of 76 (by decide +kernel) rfl, by decide +kernel, by decide⟩
abbrev zX7_narrowed : Mt := (yX7_narrowed, cX7_narrowed, 2, some (.int))
theorem mX7_narrowed : MK zX7_narrowed 1 := ⟨gt_of 1116 (by decide +kernel) rfl, gt_of 76 (by decide +kernel) rfl, by decide +kernel, by decide⟩
abbrev zX8_init : Mt := (yX8_init, cX8_init, 4, none)
theorem mX8_init : MK zX8_init 3 := ⟨gt_of 461 (by decide +kernel) rfl, gt_of 81 (by decide +kernel) rfl, by decide +kernel, by decide⟩
abbrev zX8_joined : Mt := (yX8_joined, cX8_joined, 3, some (.int))
theorem mX8_joined : MK zX8_joined 3 := ⟨gt_of 712 (by decide +kernel) rfl, gt_of 81 (by decide +kernel) rfl, by decide +kernel, by decide⟩
abbrev zX8_named : Mt := (yX8_named, cX8_named, 4, some (.int))
theorem mX8_named : MK zX8_named 4 := ⟨gt_of 705 (by decide +kernel) rfl, gt_of 81 (by decide +kernel) rfl, by decide +kernel, by decide⟩
abbrev zX8_pop : Mt := (yX8_pop, cX8_pop, 1, some (.int))
theorem mX8_pop : MK zX8_pop 0 := ⟨gt_of 709 (by decide +kernel) rfl, gt_of 81 (by decide +kernel) rfl, by decide +kernel, by decide⟩
abbrev zX8_push : Mt := (yX8_push, cX8_push, 2, none)
theorem mX8_push : MK zX8_push 1 := ⟨gt_of 702 (by decide +kernel) rfl, gt_of 81 (by decide +kernel) rfl, by decide +kernel, by decide⟩
abbrev zX8_tells : Mt := (yX8_tells, cX8_tells, 9, some (.int))
theorem mX8_tells : MK zX8_tells 4 := ⟨gt_of 698 (by decide +kernel) rfl, gt_of 81 (by decide +kernel) rfl, by decide +kernel, by decide⟩
abbrev zX9_bad : Mt := (yX9_bad, cX9_bad, 4, some (.int))
theorem mX9_bad : MK zX9_bad 3 := ⟨gt_of 834 (by decide +kernel) rfl, gt_of 73 (by decide +kernel) rfl, by decide +kernel, by decide⟩
abbrev zX9_change : Mt := (yX9_change, cX9_change, 4, some (.int))
theorem mX9_change : MK zX9_change 2 := ⟨gt_of 545 (by decide +kernel) rfl, gt_of 73 (by decide +kernel) rfl, by decide +kernel, by decide⟩
abbrev zX9_harm : Mt := (yX9_harm, cX9_harm, 4, some (.int))
theorem mX9_harm : MK zX9_harm 2 := ⟨gt_of 844 (by decide +kernel) rfl, gt_of 73 (by decide +kernel) rfl, by decide +kernel, by decide⟩
abbrev zX9_init : Mt := (yX9_init, cX9_init, 5, none)
theorem mX9_init : MK zX9_init 4 := ⟨gt_of 113 (by decide +kernel) rfl, gt_of 73 (by decide +kernel) rfl, by decide +kernel, by decide⟩
abbrev zX9_isBarred : Mt := (yX9_isBarred, cX9_isBarred, 2, some (.boolean))
theorem mX9_isBarred : MK zX9_isBarred 1 := ⟨gt_of 1032 (by decide +kernel) rfl, gt_of 73 (by decide +kernel) rfl, by decide +kernel, by decide⟩
abbrev zX9_isMissed : Mt := (yX9_isMissed, cX9_isMissed, 3, some (.boolean))
theorem mX9_isMissed : MK zX9_isMissed 2 := ⟨gt_of 854 (by decide +kernel) rfl, gt_of 73 (by decide +kernel) rfl, by decide +kernel, by decide⟩
abbrev zX9_isOffending : Mt := (yX9_isOffending, cX9_isOffending, 3, some (.boolean))
theorem mX9_isOffending : MK zX9_isOffending 2 := ⟨gt_of 875 (by decide +kernel) rfl, gt_of 73 (by decide +kernel) rfl, by decide +kernel, by decide⟩
abbrev zX9_lackFor : Mt := (yX9_lackFor, cX9_lackFor, 2, some (.int))
theorem mX9_lackFor : MK zX9_lackFor 1 := ⟨gt_of 1005 (by decide +kernel) rfl, gt_of 73 (by decide +kernel) rfl, by decide +kernel, by decide⟩
abbrev zX9_learn : Mt := (yX9_learn, cX9_learn, 3, none)
theorem mX9_learn : MK zX9_learn 1 := ⟨gt_of 762 (by decide +kernel) rfl, gt_of 73 (by decide +kernel) rfl, by decide +kernel, by decide⟩
abbrev zX9_missed : Mt := (yX9_missed, cX9_missed, 1, some (.int))
theorem mX9_missed : MK zX9_missed 0 := ⟨gt_of 816 (by decide +kernel) rfl, gt_of 73 (by decide +kernel) rfl, by decide +kernel, by decide⟩
abbrev zX9_movesTo : Mt := (yX9_movesTo, cX9_movesTo, 3, some (.int))
theorem mX9_movesTo : MK zX9_movesTo 2 := ⟨gt_of 694 (by decide +kernel) rfl, gt_of 73 (by decide +kernel) rfl, by decide +kernel, by decide⟩
abbrev zX9_offenceTo : Mt := (yX9_offenceTo, cX9_offenceTo, 4, some (.int))
theorem mX9_offenceTo : MK zX9_offenceTo 1 := ⟨gt_of 769 (by decide +kernel) rfl, gt_of 73 (by decide +kernel) rfl, by decide +kernel, by decide⟩
abbrev zX9_offends : Mt := (yX9_offends, cX9_offends, 2, some (.int))
theorem mX9_offends : MK zX9_offends 1 := ⟨gt_of 793 (by decide +kernel) rfl, gt_of 73 (by decide +kernel) rfl, by decide +kernel, by decide⟩
abbrev zX9_priceDay : Mt := (yX9_priceDay, cX9_priceDay, 4, none)
theorem mX9_priceDay : MK zX9_priceDay 2 := ⟨gt_of 926 (by decide +kernel) rfl, gt_of 73 (by decide +kernel) rfl, by decide +kernel, by decide⟩
abbrev zX9_priceMoves : Mt := (yX9_priceMoves, cX9_priceMoves, 3, none)
theorem mX9_priceMoves : MK zX9_priceMoves 1 := ⟨gt_of 912 (by decide +kernel) rfl, gt_of 73 (by decide +kernel) rfl, by decide +kernel, by decide⟩
abbrev zX9_priceNothing : Mt := (yX9_priceNothing, cX9_priceNothing, 3, none)
theorem mX9_priceNothing : MK zX9_priceNothing 1 := ⟨gt_of 898 (by decide +kernel) rfl, gt_of 73 (by decide +kernel) rfl, by decide +kernel, by decide⟩
abbrev zX9_stands : Mt := (yX9_stands, cX9_stands, 2, some (.boolean))
theorem mX9_stands : MK zX9_stands 1 := ⟨gt_of 676 (by decide +kernel) rfl, gt_of 73 (by decide +kernel) rfl, by decide +kernel, by decide⟩
abbrev zX9_take : Mt := (yX9_take, cX9_take, 2, none)
theorem mX9_take : MK zX9_take 1 := ⟨gt_of 1092 (by decide +kernel) rfl, gt_of 73 (by decide +kernel) rfl, by decide +kernel, by decide⟩
theorem fk_9_37 : ∀ {ci : Nat}, isTh ci → FK RX9 37 ci 0 := by
  intro ci h
  rcases h with rfl | rfl | rfl | rfl | rfl | rfl
  · exact ⟨by decide, by decide, "PutOut$Thing", gt_of 115 (by decide +kernel) rfl, Or.inl rfl⟩
  · exact ⟨by decide, by decide, "PutOut$Thing", gt_of 115 (by decide +kernel) rfl, Or.inl rfl⟩
  · exact ⟨by decide, by decide, "PutOut$Thing", gt_of 115 (by decide +kernel) rfl, Or.inl rfl⟩
  · exact ⟨by decide, by decide, "PutOut$Thing", gt_of 115 (by decide +kernel) rfl, Or.inl rfl⟩
  · exact ⟨by decide, by decide, "PutOut$Thing", gt_of 115 (by decide +kernel) rfl, Or.inl rfl⟩
  · exact ⟨by decide, by decide, "PutOut$Thing", gt_of 115 (by decide +kernel) rfl, Or.inl rfl⟩
theorem fk_11_130 : ∀ {ci : Nat}, isTh ci → FK RX11 130 ci 0 := by
  intro ci h
  rcases h with rfl | rfl | rfl | rfl | rfl | rfl
  · exact ⟨by decide, by decide, "PutOut$Thing", gt_of 116 (by decide +kernel) rfl, Or.inl rfl⟩
  · exact ⟨by decide, by decide, "PutOut$Thing", gt_of 116 (by decide +kernel) rfl, Or.inl rfl⟩
  · exact ⟨by decide, by decide, "PutOut$Thing", gt_of 116 (by decide +kernel) rfl, Or.inl rfl⟩
  · exact ⟨by decide, by decide, "PutOut$Thing", gt_of 116 (by decide +kernel) rfl, Or.inl rfl⟩
  · exact ⟨by decide, by decide, "PutOut$Thing", gt_of 116 (by decide +kernel) rfl, Or.inl rfl⟩
  · exact ⟨by decide, by decide, "PutOut$Thing", gt_of 116 (by decide +kernel) rfl, Or.inl rfl⟩
theorem fk_9_40 : ∀ {ci : Nat}, isTh ci → FK RX9 40 ci 1 := by
  intro ci h
  rcases h with rfl | rfl | rfl | rfl | rfl | rfl
  · exact ⟨by decide, by decide, "PutOut$Thing", gt_of 117 (by decide +kernel) rfl, Or.inl rfl⟩
  · exact ⟨by decide, by decide, "PutOut$Thing", gt_of 117 (by decide +kernel) rfl, Or.inl rfl⟩
  · exact ⟨by decide, by decide, "PutOut$Thing", gt_of 117 (by decide +kernel) rfl, Or.inl rfl⟩
  · exact ⟨by decide, by decide, "PutOut$Thing", gt_of 117 (by decide +kernel) rfl, Or.inl rfl⟩
  · exact ⟨by decide, by decide, "PutOut$Thing", gt_of 117 (by decide +kernel) rfl, Or.inl rfl⟩
  · exact ⟨by decide, by decide, "PutOut$Thing", gt_of 117 (by decide +kernel) rfl, Or.inl rfl⟩
theorem fk_8_56 : ∀ {ci : Nat}, isTh ci → FK RX8 56 ci 1 := by
  intro ci h
  rcases h with rfl | rfl | rfl | rfl | rfl | rfl
  · exact ⟨by decide, by decide, "PutOut$Thing", gt_of 118 (by decide +kernel) rfl, Or.inl rfl⟩
  · exact ⟨by decide, by decide, "PutOut$Thing", gt_of 118 (by decide +kernel) rfl, Or.inl rfl⟩
  · exact ⟨by decide, by decide, "PutOut$Thing", gt_of 118 (by decide +kernel) rfl, Or.inl rfl⟩
  · exact ⟨by decide, by decide, "PutOut$Thing", gt_of 118 (by decide +kernel) rfl, Or.inl rfl⟩
  · exact ⟨by decide, by decide, "PutOut$Thing", gt_of 118 (by decide +kernel) rfl, Or.inl rfl⟩
  · exact ⟨by decide, by decide, "PutOut$Thing", gt_of 118 (by decide +kernel) rfl, Or.inl rfl⟩
theorem fk_9_43 : ∀ {ci : Nat}, isTh ci → FK RX9 43 ci 2 := by
  intro ci h
  rcases h with rfl | rfl | rfl | rfl | rfl | rfl
  · exact ⟨by decide, by decide, "PutOut$Thing", gt_of 119 (by decide +kernel) rfl, Or.inl rfl⟩
  · exact ⟨by decide, by decide, "PutOut$Thing", gt_of 119 (by decide +kernel) rfl, Or.inl rfl⟩
  · exact ⟨by decide, by decide, "PutOut$Thing", gt_of 119 (by decide +kernel) rfl, Or.inl rfl⟩
  · exact ⟨by decide, by decide, "PutOut$Thing", gt_of 119 (by decide +kernel) rfl, Or.inl rfl⟩
  · exact ⟨by decide, by decide, "PutOut$Thing", gt_of 119 (by decide +kernel) rfl, Or.inl rfl⟩
  · exact ⟨by decide, by decide, "PutOut$Thing", gt_of 119 (by decide +kernel) rfl, Or.inl rfl⟩
theorem fk_10_11 : ∀ {ci : Nat}, isTh ci → FK RX10 11 ci 2 := by
  intro ci h
  rcases h with rfl | rfl | rfl | rfl | rfl | rfl
  · exact ⟨by decide, by decide, "PutOut$Vase", gt_of 120 (by decide +kernel) rfl, Or.inr (gt_of 121 (by decide +kernel) rfl)⟩
  · exact ⟨by decide, by decide, "PutOut$Vase", gt_of 120 (by decide +kernel) rfl, Or.inr (gt_of 121 (by decide +kernel) rfl)⟩
  · exact ⟨by decide, by decide, "PutOut$Vase", gt_of 120 (by decide +kernel) rfl, Or.inr (gt_of 121 (by decide +kernel) rfl)⟩
  · exact ⟨by decide, by decide, "PutOut$Vase", gt_of 120 (by decide +kernel) rfl, Or.inr (gt_of 121 (by decide +kernel) rfl)⟩
  · exact ⟨by decide, by decide, "PutOut$Vase", gt_of 120 (by decide +kernel) rfl, Or.inr (gt_of 121 (by decide +kernel) rfl)⟩
  · exact ⟨by decide, by decide, "PutOut$Vase", gt_of 120 (by decide +kernel) rfl, Or.inr (gt_of 121 (by decide +kernel) rfl)⟩
theorem fk_1_11 : ∀ {ci : Nat}, isTh ci → FK RX1 11 ci 2 := by
  intro ci h
  rcases h with rfl | rfl | rfl | rfl | rfl | rfl
  · exact ⟨by decide, by decide, "PutOut$Clock", gt_of 122 (by decide +kernel) rfl, Or.inr (gt_of 123 (by decide +kernel) rfl)⟩
  · exact ⟨by decide, by decide, "PutOut$Clock", gt_of 122 (by decide +kernel) rfl, Or.inr (gt_of 123 (by decide +kernel) rfl)⟩
  · exact ⟨by decide, by decide, "PutOut$Clock", gt_of 122 (by decide +kernel) rfl, Or.inr (gt_of 123 (by decide +kernel) rfl)⟩
  · exact ⟨by decide, by decide, "PutOut$Clock", gt_of 122 (by decide +kernel) rfl, Or.inr (gt_of 123 (by decide +kernel) rfl)⟩
  · exact ⟨by decide, by decide, "PutOut$Clock", gt_of 122 (by decide +kernel) rfl, Or.inr (gt_of 123 (by decide +kernel) rfl)⟩
  · exact ⟨by decide, by decide, "PutOut$Clock", gt_of 122 (by decide +kernel) rfl, Or.inr (gt_of 123 (by decide +kernel) rfl)⟩
theorem fk_8_67 : ∀ {ci : Nat}, isTh ci → FK RX8 67 ci 2 := by
  intro ci h
  rcases h with rfl | rfl | rfl | rfl | rfl | rfl
  · exact ⟨by decide, by decide, "PutOut$Thing", gt_of 124 (by decide +kernel) rfl, Or.inl rfl⟩
  · exact ⟨by decide, by decide, "PutOut$Thing", gt_of 124 (by decide +kernel) rfl, Or.inl rfl⟩
  · exact ⟨by decide, by decide, "PutOut$Thing", gt_of 124 (by decide +kernel) rfl, Or.inl rfl⟩
  · exact ⟨by decide, by decide, "PutOut$Thing", gt_of 124 (by decide +kernel) rfl, Or.inl rfl⟩
  · exact ⟨by decide, by decide, "PutOut$Thing", gt_of 124 (by decide +kernel) rfl, Or.inl rfl⟩
  · exact ⟨by decide, by decide, "PutOut$Thing", gt_of 124 (by decide +kernel) rfl, Or.inl rfl⟩
theorem fk_11_133 : ∀ {ci : Nat}, isTh ci → FK RX11 133 ci 2 := by
  intro ci h
  rcases h with rfl | rfl | rfl | rfl | rfl | rfl
  · exact ⟨by decide, by decide, "PutOut$Thing", gt_of 125 (by decide +kernel) rfl, Or.inl rfl⟩
  · exact ⟨by decide, by decide, "PutOut$Thing", gt_of 125 (by decide +kernel) rfl, Or.inl rfl⟩
  · exact ⟨by decide, by decide, "PutOut$Thing", gt_of 125 (by decide +kernel) rfl, Or.inl rfl⟩
  · exact ⟨by decide, by decide, "PutOut$Thing", gt_of 125 (by decide +kernel) rfl, Or.inl rfl⟩
  · exact ⟨by decide, by decide, "PutOut$Thing", gt_of 125 (by decide +kernel) rfl, Or.inl rfl⟩
  · exact ⟨by decide, by decide, "PutOut$Thing", gt_of 125 (by decide +kernel) rfl, Or.inl rfl⟩
theorem fk_9_49 : ∀ {ci : Nat}, isTh ci → FK RX9 49 ci 3 := by
  intro ci h
  rcases h with rfl | rfl | rfl | rfl | rfl | rfl
  · exact ⟨by decide, by decide, "PutOut$Thing", gt_of 126 (by decide +kernel) rfl, Or.inl rfl⟩
  · exact ⟨by decide, by decide, "PutOut$Thing", gt_of 126 (by decide +kernel) rfl, Or.inl rfl⟩
  · exact ⟨by decide, by decide, "PutOut$Thing", gt_of 126 (by decide +kernel) rfl, Or.inl rfl⟩
  · exact ⟨by decide, by decide, "PutOut$Thing", gt_of 126 (by decide +kernel) rfl, Or.inl rfl⟩
  · exact ⟨by decide, by decide, "PutOut$Thing", gt_of 126 (by decide +kernel) rfl, Or.inl rfl⟩
  · exact ⟨by decide, by decide, "PutOut$Thing", gt_of 126 (by decide +kernel) rfl, Or.inl rfl⟩
theorem fk_5_15 : ∀ {ci : Nat}, isTh ci → FK RX5 15 ci 3 := by
  intro ci h
  rcases h with rfl | rfl | rfl | rfl | rfl | rfl
  · exact ⟨by decide, by decide, "PutOut$Portrait", gt_of 127 (by decide +kernel) rfl, Or.inr (gt_of 128 (by decide +kernel) rfl)⟩
  · exact ⟨by decide, by decide, "PutOut$Portrait", gt_of 127 (by decide +kernel) rfl, Or.inr (gt_of 128 (by decide +kernel) rfl)⟩
  · exact ⟨by decide, by decide, "PutOut$Portrait", gt_of 127 (by decide +kernel) rfl, Or.inr (gt_of 128 (by decide +kernel) rfl)⟩
  · exact ⟨by decide, by decide, "PutOut$Portrait", gt_of 127 (by decide +kernel) rfl, Or.inr (gt_of 128 (by decide +kernel) rfl)⟩
  · exact ⟨by decide, by decide, "PutOut$Portrait", gt_of 127 (by decide +kernel) rfl, Or.inr (gt_of 128 (by decide +kernel) rfl)⟩
  · exact ⟨by decide, by decide, "PutOut$Portrait", gt_of 127 (by decide +kernel) rfl, Or.inr (gt_of 128 (by decide +kernel) rfl)⟩
theorem fk_8_61 : ∀ {ci : Nat}, isTh ci → FK RX8 61 ci 3 := by
  intro ci h
  rcases h with rfl | rfl | rfl | rfl | rfl | rfl
  · exact ⟨by decide, by decide, "PutOut$Thing", gt_of 129 (by decide +kernel) rfl, Or.inl rfl⟩
  · exact ⟨by decide, by decide, "PutOut$Thing", gt_of 129 (by decide +kernel) rfl, Or.inl rfl⟩
  · exact ⟨by decide, by decide, "PutOut$Thing", gt_of 129 (by decide +kernel) rfl, Or.inl rfl⟩
  · exact ⟨by decide, by decide, "PutOut$Thing", gt_of 129 (by decide +kernel) rfl, Or.inl rfl⟩
  · exact ⟨by decide, by decide, "PutOut$Thing", gt_of 129 (by decide +kernel) rfl, Or.inl rfl⟩
  · exact ⟨by decide, by decide, "PutOut$Thing", gt_of 129 (by decide +kernel) rfl, Or.inl rfl⟩
theorem fk_11_136 : ∀ {ci : Nat}, isTh ci → FK RX11 136 ci 3 := by
  intro ci h
  rcases h with rfl | rfl | rfl | rfl | rfl | rfl
  · exact ⟨by decide, by decide, "PutOut$Thing", gt_of 130 (by decide +kernel) rfl, Or.inl rfl⟩
  · exact ⟨by decide, by decide, "PutOut$Thing", gt_of 130 (by decide +kernel) rfl, Or.inl rfl⟩
  · exact ⟨by decide, by decide, "PutOut$Thing", gt_of 130 (by decide +kernel) rfl, Or.inl rfl⟩
  · exact ⟨by decide, by decide, "PutOut$Thing", gt_of 130 (by decide +kernel) rfl, Or.inl rfl⟩
  · exact ⟨by decide, by decide, "PutOut$Thing", gt_of 130 (by decide +kernel) rfl, Or.inl rfl⟩
  · exact ⟨by decide, by decide, "PutOut$Thing", gt_of 130 (by decide +kernel) rfl, Or.inl rfl⟩
theorem fk_4_110 : ∀ {ci : Nat}, isTh ci → FK RX4 110 ci 3 := by
  intro ci h
  rcases h with rfl | rfl | rfl | rfl | rfl | rfl
  · exact ⟨by decide, by decide, "PutOut$Thing", gt_of 131 (by decide +kernel) rfl, Or.inl rfl⟩
  · exact ⟨by decide, by decide, "PutOut$Thing", gt_of 131 (by decide +kernel) rfl, Or.inl rfl⟩
  · exact ⟨by decide, by decide, "PutOut$Thing", gt_of 131 (by decide +kernel) rfl, Or.inl rfl⟩
  · exact ⟨by decide, by decide, "PutOut$Thing", gt_of 131 (by decide +kernel) rfl, Or.inl rfl⟩
  · exact ⟨by decide, by decide, "PutOut$Thing", gt_of 131 (by decide +kernel) rfl, Or.inl rfl⟩
  · exact ⟨by decide, by decide, "PutOut$Thing", gt_of 131 (by decide +kernel) rfl, Or.inl rfl⟩
theorem fk_9_46 : ∀ {ci : Nat}, isTh ci → FK RX9 46 ci 4 := by
  intro ci h
  rcases h with rfl | rfl | rfl | rfl | rfl | rfl
  · exact ⟨by decide, by decide, "PutOut$Thing", gt_of 132 (by decide +kernel) rfl, Or.inl rfl⟩
  · exact ⟨by decide, by decide, "PutOut$Thing", gt_of 132 (by decide +kernel) rfl, Or.inl rfl⟩
  · exact ⟨by decide, by decide, "PutOut$Thing", gt_of 132 (by decide +kernel) rfl, Or.inl rfl⟩
  · exact ⟨by decide, by decide, "PutOut$Thing", gt_of 132 (by decide +kernel) rfl, Or.inl rfl⟩
  · exact ⟨by decide, by decide, "PutOut$Thing", gt_of 132 (by decide +kernel) rfl, Or.inl rfl⟩
  · exact ⟨by decide, by decide, "PutOut$Thing", gt_of 132 (by decide +kernel) rfl, Or.inl rfl⟩
theorem fk_8_64 : ∀ {ci : Nat}, isTh ci → FK RX8 64 ci 4 := by
  intro ci h
  rcases h with rfl | rfl | rfl | rfl | rfl | rfl
  · exact ⟨by decide, by decide, "PutOut$Thing", gt_of 133 (by decide +kernel) rfl, Or.inl rfl⟩
  · exact ⟨by decide, by decide, "PutOut$Thing", gt_of 133 (by decide +kernel) rfl, Or.inl rfl⟩
  · exact ⟨by decide, by decide, "PutOut$Thing", gt_of 133 (by decide +kernel) rfl, Or.inl rfl⟩
  · exact ⟨by decide, by decide, "PutOut$Thing", gt_of 133 (by decide +kernel) rfl, Or.inl rfl⟩
  · exact ⟨by decide, by decide, "PutOut$Thing", gt_of 133 (by decide +kernel) rfl, Or.inl rfl⟩
  · exact ⟨by decide, by decide, "PutOut$Thing", gt_of 133 (by decide +kernel) rfl, Or.inl rfl⟩
theorem fk_11_139 : ∀ {ci : Nat}, isTh ci → FK RX11 139 ci 4 := by
  intro ci h
  rcases h with rfl | rfl | rfl | rfl | rfl | rfl
  · exact ⟨by decide, by decide, "PutOut$Thing", gt_of 134 (by decide +kernel) rfl, Or.inl rfl⟩
  · exact ⟨by decide, by decide, "PutOut$Thing", gt_of 134 (by decide +kernel) rfl, Or.inl rfl⟩
  · exact ⟨by decide, by decide, "PutOut$Thing", gt_of 134 (by decide +kernel) rfl, Or.inl rfl⟩
  · exact ⟨by decide, by decide, "PutOut$Thing", gt_of 134 (by decide +kernel) rfl, Or.inl rfl⟩
  · exact ⟨by decide, by decide, "PutOut$Thing", gt_of 134 (by decide +kernel) rfl, Or.inl rfl⟩
  · exact ⟨by decide, by decide, "PutOut$Thing", gt_of 134 (by decide +kernel) rfl, Or.inl rfl⟩
theorem fk_9_9 : ∀ {ci : Nat}, isTh ci → FK RX9 9 ci 5 := by
  intro ci h
  rcases h with rfl | rfl | rfl | rfl | rfl | rfl
  · exact ⟨by decide, by decide, "PutOut$Thing", gt_of 135 (by decide +kernel) rfl, Or.inl rfl⟩
  · exact ⟨by decide, by decide, "PutOut$Thing", gt_of 135 (by decide +kernel) rfl, Or.inl rfl⟩
  · exact ⟨by decide, by decide, "PutOut$Thing", gt_of 135 (by decide +kernel) rfl, Or.inl rfl⟩
  · exact ⟨by decide, by decide, "PutOut$Thing", gt_of 135 (by decide +kernel) rfl, Or.inl rfl⟩
  · exact ⟨by decide, by decide, "PutOut$Thing", gt_of 135 (by decide +kernel) rfl, Or.inl rfl⟩
  · exact ⟨by decide, by decide, "PutOut$Thing", gt_of 135 (by decide +kernel) rfl, Or.inl rfl⟩
theorem fk_2_47 : ∀ {ci : Nat}, isTh ci → FK RX2 47 ci 5 := by
  intro ci h
  rcases h with rfl | rfl | rfl | rfl | rfl | rfl
  · exact ⟨by decide, by decide, "PutOut$Thing", gt_of 136 (by decide +kernel) rfl, Or.inl rfl⟩
  · exact ⟨by decide, by decide, "PutOut$Thing", gt_of 136 (by decide +kernel) rfl, Or.inl rfl⟩
  · exact ⟨by decide, by decide, "PutOut$Thing", gt_of 136 (by decide +kernel) rfl, Or.inl rfl⟩
  · exact ⟨by decide, by decide, "PutOut$Thing", gt_of 136 (by decide +kernel) rfl, Or.inl rfl⟩
  · exact ⟨by decide, by decide, "PutOut$Thing", gt_of 136 (by decide +kernel) rfl, Or.inl rfl⟩
  · exact ⟨by decide, by decide, "PutOut$Thing", gt_of 136 (by decide +kernel) rfl, Or.inl rfl⟩
theorem fk_11_114 : ∀ {ci : Nat}, isTh ci → FK RX11 114 ci 5 := by
  intro ci h
  rcases h with rfl | rfl | rfl | rfl | rfl | rfl
  · exact ⟨by decide, by decide, "PutOut$Thing", gt_of 137 (by decide +kernel) rfl, Or.inl rfl⟩
  · exact ⟨by decide, by decide, "PutOut$Thing", gt_of 137 (by decide +kernel) rfl, Or.inl rfl⟩
  · exact ⟨by decide, by decide, "PutOut$Thing", gt_of 137 (by decide +kernel) rfl, Or.inl rfl⟩
  · exact ⟨by decide, by decide, "PutOut$Thing", gt_of 137 (by decide +kernel) rfl, Or.inl rfl⟩
  · exact ⟨by decide, by decide, "PutOut$Thing", gt_of 137 (by decide +kernel) rfl, Or.inl rfl⟩
  · exact ⟨by decide, by decide, "PutOut$Thing", gt_of 137 (by decide +kernel) rfl, Or.inl rfl⟩
theorem fk_4_81 : ∀ {ci : Nat}, isTh ci → FK RX4 81 ci 5 := by
  intro ci h
  rcases h with rfl | rfl | rfl | rfl | rfl | rfl
  · exact ⟨by decide, by decide, "PutOut$Thing", gt_of 138 (by decide +kernel) rfl, Or.inl rfl⟩
  · exact ⟨by decide, by decide, "PutOut$Thing", gt_of 138 (by decide +kernel) rfl, Or.inl rfl⟩
  · exact ⟨by decide, by decide, "PutOut$Thing", gt_of 138 (by decide +kernel) rfl, Or.inl rfl⟩
  · exact ⟨by decide, by decide, "PutOut$Thing", gt_of 138 (by decide +kernel) rfl, Or.inl rfl⟩
  · exact ⟨by decide, by decide, "PutOut$Thing", gt_of 138 (by decide +kernel) rfl, Or.inl rfl⟩
  · exact ⟨by decide, by decide, "PutOut$Thing", gt_of 138 (by decide +kernel) rfl, Or.inl rfl⟩
theorem fk_9_15 : ∀ {ci : Nat}, isTh ci → FK RX9 15 ci 6 := by
  intro ci h
  rcases h with rfl | rfl | rfl | rfl | rfl | rfl
  · exact ⟨by decide, by decide, "PutOut$Thing", gt_of 139 (by decide +kernel) rfl, Or.inl rfl⟩
  · exact ⟨by decide, by decide, "PutOut$Thing", gt_of 139 (by decide +kernel) rfl, Or.inl rfl⟩
  · exact ⟨by decide, by decide, "PutOut$Thing", gt_of 139 (by decide +kernel) rfl, Or.inl rfl⟩
  · exact ⟨by decide, by decide, "PutOut$Thing", gt_of 139 (by decide +kernel) rfl, Or.inl rfl⟩
  · exact ⟨by decide, by decide, "PutOut$Thing", gt_of 139 (by decide +kernel) rfl, Or.inl rfl⟩
  · exact ⟨by decide, by decide, "PutOut$Thing", gt_of 139 (by decide +kernel) rfl, Or.inl rfl⟩
theorem fk_9_19 : ∀ {ci : Nat}, isTh ci → FK RX9 19 ci 7 := by
  intro ci h
  rcases h with rfl | rfl | rfl | rfl | rfl | rfl
  · exact ⟨by decide, by decide, "PutOut$Thing", gt_of 140 (by decide +kernel) rfl, Or.inl rfl⟩
  · exact ⟨by decide, by decide, "PutOut$Thing", gt_of 140 (by decide +kernel) rfl, Or.inl rfl⟩
  · exact ⟨by decide, by decide, "PutOut$Thing", gt_of 140 (by decide +kernel) rfl, Or.inl rfl⟩
  · exact ⟨by decide, by decide, "PutOut$Thing", gt_of 140 (by decide +kernel) rfl, Or.inl rfl⟩
  · exact ⟨by decide, by decide, "PutOut$Thing", gt_of 140 (by decide +kernel) rfl, Or.inl rfl⟩
  · exact ⟨by decide, by decide, "PutOut$Thing", gt_of 140 (by decide +kernel) rfl, Or.inl rfl⟩
theorem fk_9_22 : ∀ {ci : Nat}, isTh ci → FK RX9 22 ci 8 := by
  intro ci h
  rcases h with rfl | rfl | rfl | rfl | rfl | rfl
  · exact ⟨by decide, by decide, "PutOut$Thing", gt_of 141 (by decide +kernel) rfl, Or.inl rfl⟩
  · exact ⟨by decide, by decide, "PutOut$Thing", gt_of 141 (by decide +kernel) rfl, Or.inl rfl⟩
  · exact ⟨by decide, by decide, "PutOut$Thing", gt_of 141 (by decide +kernel) rfl, Or.inl rfl⟩
  · exact ⟨by decide, by decide, "PutOut$Thing", gt_of 141 (by decide +kernel) rfl, Or.inl rfl⟩
  · exact ⟨by decide, by decide, "PutOut$Thing", gt_of 141 (by decide +kernel) rfl, Or.inl rfl⟩
  · exact ⟨by decide, by decide, "PutOut$Thing", gt_of 141 (by decide +kernel) rfl, Or.inl rfl⟩
theorem fk_9_25 : ∀ {ci : Nat}, isTh ci → FK RX9 25 ci 9 := by
  intro ci h
  rcases h with rfl | rfl | rfl | rfl | rfl | rfl
  · exact ⟨by decide, by decide, "PutOut$Thing", gt_of 142 (by decide +kernel) rfl, Or.inl rfl⟩
  · exact ⟨by decide, by decide, "PutOut$Thing", gt_of 142 (by decide +kernel) rfl, Or.inl rfl⟩
  · exact ⟨by decide, by decide, "PutOut$Thing", gt_of 142 (by decide +kernel) rfl, Or.inl rfl⟩
  · exact ⟨by decide, by decide, "PutOut$Thing", gt_of 142 (by decide +kernel) rfl, Or.inl rfl⟩
  · exact ⟨by decide, by decide, "PutOut$Thing", gt_of 142 (by decide +kernel) rfl, Or.inl rfl⟩
  · exact ⟨by decide, by decide, "PutOut$Thing", gt_of 142 (by decide +kernel) rfl, Or.inl rfl⟩
theorem fk_9_28 : ∀ {ci : Nat}, isTh ci → FK RX9 28 ci 10 := by
  intro ci h
  rcases h with rfl | rfl | rfl | rfl | rfl | rfl
  · exact ⟨by decide, by decide, "PutOut$Thing", gt_of 143 (by decide +kernel) rfl, Or.inl rfl⟩
  · exact ⟨by decide, by decide, "PutOut$Thing", gt_of 143 (by decide +kernel) rfl, Or.inl rfl⟩
  · exact ⟨by decide, by decide, "PutOut$Thing", gt_of 143 (by decide +kernel) rfl, Or.inl rfl⟩
  · exact ⟨by decide, by decide, "PutOut$Thing", gt_of 143 (by decide +kernel) rfl, Or.inl rfl⟩
  · exact ⟨by decide, by decide, "PutOut$Thing", gt_of 143 (by decide +kernel) rfl, Or.inl rfl⟩
  · exact ⟨by decide, by decide, "PutOut$Thing", gt_of 143 (by decide +kernel) rfl, Or.inl rfl⟩
theorem fk_9_31 : ∀ {ci : Nat}, isTh ci → FK RX9 31 ci 11 := by
  intro ci h
  rcases h with rfl | rfl | rfl | rfl | rfl | rfl
  · exact ⟨by decide, by decide, "PutOut$Thing", gt_of 144 (by decide +kernel) rfl, Or.inl rfl⟩
  · exact ⟨by decide, by decide, "PutOut$Thing", gt_of 144 (by decide +kernel) rfl, Or.inl rfl⟩
  · exact ⟨by decide, by decide, "PutOut$Thing", gt_of 144 (by decide +kernel) rfl, Or.inl rfl⟩
  · exact ⟨by decide, by decide, "PutOut$Thing", gt_of 144 (by decide +kernel) rfl, Or.inl rfl⟩
  · exact ⟨by decide, by decide, "PutOut$Thing", gt_of 144 (by decide +kernel) rfl, Or.inl rfl⟩
  · exact ⟨by decide, by decide, "PutOut$Thing", gt_of 144 (by decide +kernel) rfl, Or.inl rfl⟩
theorem fk_9_34 : ∀ {ci : Nat}, isTh ci → FK RX9 34 ci 12 := by
  intro ci h
  rcases h with rfl | rfl | rfl | rfl | rfl | rfl
  · exact ⟨by decide, by decide, "PutOut$Thing", gt_of 145 (by decide +kernel) rfl, Or.inl rfl⟩
  · exact ⟨by decide, by decide, "PutOut$Thing", gt_of 145 (by decide +kernel) rfl, Or.inl rfl⟩
  · exact ⟨by decide, by decide, "PutOut$Thing", gt_of 145 (by decide +kernel) rfl, Or.inl rfl⟩
  · exact ⟨by decide, by decide, "PutOut$Thing", gt_of 145 (by decide +kernel) rfl, Or.inl rfl⟩
  · exact ⟨by decide, by decide, "PutOut$Thing", gt_of 145 (by decide +kernel) rfl, Or.inl rfl⟩
  · exact ⟨by decide, by decide, "PutOut$Thing", gt_of 145 (by decide +kernel) rfl, Or.inl rfl⟩
theorem fk_4_177 : ∀ {ci : Nat}, isTh ci → FK RX4 177 ci 12 := by
  intro ci h
  rcases h with rfl | rfl | rfl | rfl | rfl | rfl
  · exact ⟨by decide, by decide, "PutOut$Thing", gt_of 146 (by decide +kernel) rfl, Or.inl rfl⟩
  · exact ⟨by decide, by decide, "PutOut$Thing", gt_of 146 (by decide +kernel) rfl, Or.inl rfl⟩
  · exact ⟨by decide, by decide, "PutOut$Thing", gt_of 146 (by decide +kernel) rfl, Or.inl rfl⟩
  · exact ⟨by decide, by decide, "PutOut$Thing", gt_of 146 (by decide +kernel) rfl, Or.inl rfl⟩
  · exact ⟨by decide, by decide, "PutOut$Thing", gt_of 146 (by decide +kernel) rfl, Or.inl rfl⟩
  · exact ⟨by decide, by decide, "PutOut$Thing", gt_of 146 (by decide +kernel) rfl, Or.inl rfl⟩
theorem fk_2_9 : FK RX2 9 2 0 := ⟨by decide, by decide, "PutOut$House", gt_of 175 (by decide +kernel) rfl, Or.inl rfl⟩
theorem fk_4_58 : FK RX4 58 2 0 := ⟨by decide, by decide, "PutOut$House", gt_of 176 (by decide +kernel) rfl, Or.inl rfl⟩
theorem fk_11_77 : FK RX11 77 2 0 := ⟨by decide, by decide, "PutOut$House", gt_of 177 (by decide +kernel) rfl, Or.inl rfl⟩
theorem fk_2_15 : FK RX2 15 2 1 := ⟨by decide, by decide, "PutOut$House", gt_of 178 (by decide +kernel) rfl, Or.inl rfl⟩
theorem fk_4_65 : FK RX4 65 2 1 := ⟨by decide, by decide, "PutOut$House", gt_of 179 (by decide +kernel) rfl, Or.inl rfl⟩
theorem fk_11_84 : FK RX11 84 2 1 := ⟨by decide, by decide, "PutOut$House", gt_of 180 (by decide +kernel) rfl, Or.inl rfl⟩
theorem fk_2_18 : FK RX2 18 2 2 := ⟨by decide, by decide, "PutOut$House", gt_of 181 (by decide +kernel) rfl, Or.inl rfl⟩
theorem fk_4_66 : FK RX4 66 2 2 := ⟨by decide, by decide, "PutOut$House", gt_of 182 (by decide +kernel) rfl, Or.inl rfl⟩
theorem fk_11_87 : FK RX11 87 2 2 := ⟨by decide, by decide, "PutOut$House", gt_of 183 (by decide +kernel) rfl, Or.inl rfl⟩
theorem fk_2_23 : FK RX2 23 2 3 := ⟨by decide, by decide, "PutOut$House", gt_of 184 (by decide +kernel) rfl, Or.inl rfl⟩
theorem fk_4_54 : FK RX4 54 2 3 := ⟨by decide, by decide, "PutOut$House", gt_of 185 (by decide +kernel) rfl, Or.inl rfl⟩
theorem fk_11_94 : FK RX11 94 2 3 := ⟨by decide, by decide, "PutOut$House", gt_of 186 (by decide +kernel) rfl, Or.inl rfl⟩
theorem fk_2_27 : FK RX2 27 2 4 := ⟨by decide, by decide, "PutOut$House", gt_of 187 (by decide +kernel) rfl, Or.inl rfl⟩
theorem fk_4_57 : FK RX4 57 2 4 := ⟨by decide, by decide, "PutOut$House", gt_of 188 (by decide +kernel) rfl, Or.inl rfl⟩
theorem fk_11_108 : FK RX11 108 2 4 := ⟨by decide, by decide, "PutOut$House", gt_of 189 (by decide +kernel) rfl, Or.inl rfl⟩
theorem fk_2_31 : FK RX2 31 2 5 := ⟨by decide, by decide, "PutOut$House", gt_of 190 (by decide +kernel) rfl, Or.inl rfl⟩
theorem fk_11_146 : FK RX11 146 2 5 := ⟨by decide, by decide, "PutOut$House", gt_of 191 (by decide +kernel) rfl, Or.inl rfl⟩
theorem fk_6_9 : FK RX6 9 6 0 := ⟨by decide, by decide, "PutOut$Reader", gt_of 211 (by decide +kernel) rfl, Or.inl rfl⟩
theorem fk_6_15 : FK RX6 15 6 1 := ⟨by decide, by decide, "PutOut$Reader", gt_of 212 (by decide +kernel) rfl, Or.inl rfl⟩
theorem fk_6_19 : FK RX6 19 6 2 := ⟨by decide, by decide, "PutOut$Reader", gt_of 213 (by decide +kernel) rfl, Or.inl rfl⟩
theorem fk_6_22 : FK RX6 22 6 3 := ⟨by decide, by decide, "PutOut$Reader", gt_of 214 (by decide +kernel) rfl, Or.inl rfl⟩
theorem fk_6_25 : FK RX6 25 6 4 := ⟨by decide, by decide, "PutOut$Reader", gt_of 215 (by decide +kernel) rfl, Or.inl rfl⟩
theorem fk_6_28 : FK RX6 28 6 5 := ⟨by decide, by decide, "PutOut$Reader", gt_of 216 (by decide +kernel) rfl, Or.inl rfl⟩
theorem fk_6_31 : FK RX6 31 6 6 := ⟨by decide, by decide, "PutOut$Reader", gt_of 217 (by decide +kernel) rfl, Or.inl rfl⟩
theorem fk_6_34 : FK RX6 34 6 7 := ⟨by decide, by decide, "PutOut$Reader", gt_of 218 (by decide +kernel) rfl, Or.inl rfl⟩
theorem fk_6_37 : FK RX6 37 6 8 := ⟨by decide, by decide, "PutOut$Reader", gt_of 219 (by decide +kernel) rfl, Or.inl rfl⟩
theorem fk_6_40 : FK RX6 40 6 9 := ⟨by decide, by decide, "PutOut$Reader", gt_of 220 (by decide +kernel) rfl, Or.inl rfl⟩
theorem fk_4_11 : FK RX4 11 4 0 := ⟨by decide, by decide, "PutOut$Planner", gt_of 255 (by decide +kernel) rfl, Or.inl rfl⟩
theorem fk_4_17 : FK RX4 17 4 1 := ⟨by decide, by decide, "PutOut$Planner", gt_of 256 (by decide +kernel) rfl, Or.inl rfl⟩
theorem fk_4_21 : FK RX4 21 4 2 := ⟨by decide, by decide, "PutOut$Planner", gt_of 257 (by decide +kernel) rfl, Or.inl rfl⟩
theorem fk_4_24 : FK RX4 24 4 3 := ⟨by decide, by decide, "PutOut$Planner", gt_of 258 (by decide +kernel) rfl, Or.inl rfl⟩
theorem fk_4_28 : FK RX4 28 4 4 := ⟨by decide, by decide, "PutOut$Planner", gt_of 259 (by decide +kernel) rfl, Or.inl rfl⟩
theorem fk_4_31 : FK RX4 31 4 5 := ⟨by decide, by decide, "PutOut$Planner", gt_of 260 (by decide +kernel) rfl, Or.inl rfl⟩
theorem fk_4_34 : FK RX4 34 4 6 := ⟨by decide, by decide, "PutOut$Planner", gt_of 261 (by decide +kernel) rfl, Or.inl rfl⟩
theorem fk_4_37 : FK RX4 37 4 7 := ⟨by decide, by decide, "PutOut$Planner", gt_of 262 (by decide +kernel) rfl, Or.inl rfl⟩
theorem fk_4_40 : FK RX4 40 4 8 := ⟨by decide, by decide, "PutOut$Planner", gt_of 263 (by decide +kernel) rfl, Or.inl rfl⟩
theorem fk_11_162 : FK RX11 162 4 8 := ⟨by decide, by decide, "PutOut$Planner", gt_of 264 (by decide +kernel) rfl, Or.inl rfl⟩
theorem fk_4_43 : FK RX4 43 4 9 := ⟨by decide, by decide, "PutOut$Planner", gt_of 265 (by decide +kernel) rfl, Or.inl rfl⟩
theorem fk_11_171 : FK RX11 171 4 9 := ⟨by decide, by decide, "PutOut$Planner", gt_of 266 (by decide +kernel) rfl, Or.inl rfl⟩
theorem fk_4_46 : FK RX4 46 4 10 := ⟨by decide, by decide, "PutOut$Planner", gt_of 267 (by decide +kernel) rfl, Or.inl rfl⟩
theorem fk_11_174 : FK RX11 174 4 10 := ⟨by decide, by decide, "PutOut$Planner", gt_of 268 (by decide +kernel) rfl, Or.inl rfl⟩
theorem fk_4_51 : FK RX4 51 4 11 := ⟨by decide, by decide, "PutOut$Planner", gt_of 269 (by decide +kernel) rfl, Or.inl rfl⟩
theorem fk_7_9 : FK RX7 9 7 0 := ⟨by decide, by decide, "PutOut$Sheet", gt_of 300 (by decide +kernel) rfl, Or.inl rfl⟩
theorem fk_11_193 : FK RX11 193 7 0 := ⟨by decide, by decide, "PutOut$Sheet", gt_of 301 (by decide +kernel) rfl, Or.inl rfl⟩
theorem fk_7_15 : FK RX7 15 7 1 := ⟨by decide, by decide, "PutOut$Sheet", gt_of 302 (by decide +kernel) rfl, Or.inl rfl⟩
theorem fk_11_196 : FK RX11 196 7 1 := ⟨by decide, by decide, "PutOut$Sheet", gt_of 303 (by decide +kernel) rfl, Or.inl rfl⟩
theorem fk_7_18 : FK RX7 18 7 2 := ⟨by decide, by decide, "PutOut$Sheet", gt_of 304 (by decide +kernel) rfl, Or.inl rfl⟩
theorem fk_11_199 : FK RX11 199 7 2 := ⟨by decide, by decide, "PutOut$Sheet", gt_of 305 (by decide +kernel) rfl, Or.inl rfl⟩
theorem fk_8_21 : FK RX8 21 8 0 := ⟨by decide, by decide, "PutOut$Text", gt_of 479 (by decide +kernel) rfl, Or.inl rfl⟩
theorem fk_8_25 : FK RX8 25 8 1 := ⟨by decide, by decide, "PutOut$Text", gt_of 480 (by decide +kernel) rfl, Or.inl rfl⟩
theorem fk_8_28 : FK RX8 28 8 2 := ⟨by decide, by decide, "PutOut$Text", gt_of 481 (by decide +kernel) rfl, Or.inl rfl⟩
theorem fk_8_9 : FK RX8 9 8 3 := ⟨by decide, by decide, "PutOut$Text", gt_of 482 (by decide +kernel) rfl, Or.inl rfl⟩
theorem fk_11_10 : FK RX11 10 11 0 := ⟨by decide, by decide, "PutOut", gt_of 493 (by decide +kernel) rfl, Or.inl rfl⟩
theorem fk_11_16 : FK RX11 16 11 1 := ⟨by decide, by decide, "PutOut", gt_of 494 (by decide +kernel) rfl, Or.inl rfl⟩
theorem fk_11_19 : FK RX11 19 11 2 := ⟨by decide, by decide, "PutOut", gt_of 495 (by decide +kernel) rfl, Or.inl rfl⟩
theorem fk_11_23 : FK RX11 23 11 3 := ⟨by decide, by decide, "PutOut", gt_of 496 (by decide +kernel) rfl, Or.inl rfl⟩
theorem fk_11_30 : FK RX11 30 11 4 := ⟨by decide, by decide, "PutOut", gt_of 497 (by decide +kernel) rfl, Or.inl rfl⟩
theorem fk_11_36 : FK RX11 36 11 5 := ⟨by decide, by decide, "PutOut", gt_of 498 (by decide +kernel) rfl, Or.inl rfl⟩
theorem fk_11_40 : FK RX11 40 11 6 := ⟨by decide, by decide, "PutOut", gt_of 499 (by decide +kernel) rfl, Or.inl rfl⟩
theorem fk_11_45 : FK RX11 45 11 7 := ⟨by decide, by decide, "PutOut", gt_of 500 (by decide +kernel) rfl, Or.inl rfl⟩
theorem fk_11_52 : FK RX11 52 11 8 := ⟨by decide, by decide, "PutOut", gt_of 501 (by decide +kernel) rfl, Or.inl rfl⟩
theorem fk_12_13 : FK RX12 13 12 1 := ⟨by decide, by decide, "PutOutModel", gt_of 1147 (by decide +kernel) rfl, Or.inl rfl⟩
theorem fk_12_17 : FK RX12 17 12 2 := ⟨by decide, by decide, "PutOutModel", gt_of 1148 (by decide +kernel) rfl, Or.inl rfl⟩
theorem fk_12_103 : FK RX12 103 12 3 := ⟨by decide, by decide, "PutOutModel", gt_of 1149 (by decide +kernel) rfl, Or.inl rfl⟩
theorem fk_12_263 : FK RX12 263 12 4 := ⟨by decide, by decide, "PutOutModel", gt_of 1150 (by decide +kernel) rfl, Or.inl rfl⟩
theorem fk_12_20 : FK RX12 20 12 5 := ⟨by decide, by decide, "PutOutModel", gt_of 1151 (by decide +kernel) rfl, Or.inl rfl⟩
theorem fk_12_145 : FK RX12 145 12 6 := ⟨by decide, by decide, "PutOutModel", gt_of 1152 (by decide +kernel) rfl, Or.inl rfl⟩
theorem fk_12_23 : FK RX12 23 12 7 := ⟨by decide, by decide, "PutOutModel", gt_of 1153 (by decide +kernel) rfl, Or.inl rfl⟩
theorem fk_12_26 : FK RX12 26 12 8 := ⟨by decide, by decide, "PutOutModel", gt_of 1154 (by decide +kernel) rfl, Or.inl rfl⟩
theorem fk_12_29 : FK RX12 29 12 9 := ⟨by decide, by decide, "PutOutModel", gt_of 1155 (by decide +kernel) rfl, Or.inl rfl⟩
theorem fk_12_32 : FK RX12 32 12 10 := ⟨by decide, by decide, "PutOutModel", gt_of 1156 (by decide +kernel) rfl, Or.inl rfl⟩
theorem fk_12_35 : FK RX12 35 12 11 := ⟨by decide, by decide, "PutOutModel", gt_of 1157 (by decide +kernel) rfl, Or.inl rfl⟩
theorem fk_12_38 : FK RX12 38 12 12 := ⟨by decide, by decide, "PutOutModel", gt_of 1158 (by decide +kernel) rfl, Or.inl rfl⟩
theorem fk_12_41 : FK RX12 41 12 13 := ⟨by decide, by decide, "PutOutModel", gt_of 1159 (by decide +kernel) rfl, Or.inl rfl⟩
theorem fk_12_44 : FK RX12 44 12 14 := ⟨by decide, by decide, "PutOutModel", gt_of 1160 (by decide +kernel) rfl, Or.inl rfl⟩
theorem fk_12_106 : FK RX12 106 12 15 := ⟨by decide, by decide, "PutOutModel", gt_of 1161 (by decide +kernel) rfl, Or.inl rfl⟩
theorem fk_12_204 : FK RX12 204 12 16 := ⟨by decide, by decide, "PutOutModel", gt_of 1162 (by decide +kernel) rfl, Or.inl rfl⟩
theorem fk_12_207 : FK RX12 207 12 17 := ⟨by decide, by decide, "PutOutModel", gt_of 1163 (by decide +kernel) rfl, Or.inl rfl⟩
theorem fk_12_210 : FK RX12 210 12 18 := ⟨by decide, by decide, "PutOutModel", gt_of 1164 (by decide +kernel) rfl, Or.inl rfl⟩
theorem fk_12_213 : FK RX12 213 12 19 := ⟨by decide, by decide, "PutOutModel", gt_of 1165 (by decide +kernel) rfl, Or.inl rfl⟩
theorem fk_12_216 : FK RX12 216 12 20 := ⟨by decide, by decide, "PutOutModel", gt_of 1166 (by decide +kernel) rfl, Or.inl rfl⟩
theorem fk_12_219 : FK RX12 219 12 21 := ⟨by decide, by decide, "PutOutModel", gt_of 1167 (by decide +kernel) rfl, Or.inl rfl⟩
theorem fk_12_151 : FK RX12 151 12 22 := ⟨by decide, by decide, "PutOutModel", gt_of 1168 (by decide +kernel) rfl, Or.inl rfl⟩
theorem fk_12_148 : FK RX12 148 12 23 := ⟨by decide, by decide, "PutOutModel", gt_of 1169 (by decide +kernel) rfl, Or.inl rfl⟩
theorem fk_12_154 : FK RX12 154 12 24 := ⟨by decide, by decide, "PutOutModel", gt_of 1170 (by decide +kernel) rfl, Or.inl rfl⟩
theorem fk_12_164 : FK RX12 164 12 25 := ⟨by decide, by decide, "PutOutModel", gt_of 1171 (by decide +kernel) rfl, Or.inl rfl⟩
theorem fk_12_161 : FK RX12 161 12 26 := ⟨by decide, by decide, "PutOutModel", gt_of 1172 (by decide +kernel) rfl, Or.inl rfl⟩
theorem fk_12_175 : FK RX12 175 12 27 := ⟨by decide, by decide, "PutOutModel", gt_of 1173 (by decide +kernel) rfl, Or.inl rfl⟩
theorem fk_12_191 : FK RX12 191 12 28 := ⟨by decide, by decide, "PutOutModel", gt_of 1174 (by decide +kernel) rfl, Or.inl rfl⟩
theorem fk_12_181 : FK RX12 181 12 29 := ⟨by decide, by decide, "PutOutModel", gt_of 1175 (by decide +kernel) rfl, Or.inl rfl⟩
theorem fk_12_185 : FK RX12 185 12 30 := ⟨by decide, by decide, "PutOutModel", gt_of 1176 (by decide +kernel) rfl, Or.inl rfl⟩
theorem fk_12_47 : FK RX12 47 12 31 := ⟨by decide, by decide, "PutOutModel", gt_of 1177 (by decide +kernel) rfl, Or.inl rfl⟩
theorem fk_12_50 : FK RX12 50 12 32 := ⟨by decide, by decide, "PutOutModel", gt_of 1178 (by decide +kernel) rfl, Or.inl rfl⟩
theorem fk_12_53 : FK RX12 53 12 33 := ⟨by decide, by decide, "PutOutModel", gt_of 1179 (by decide +kernel) rfl, Or.inl rfl⟩
theorem fk_12_56 : FK RX12 56 12 34 := ⟨by decide, by decide, "PutOutModel", gt_of 1180 (by decide +kernel) rfl, Or.inl rfl⟩
theorem fk_12_59 : FK RX12 59 12 35 := ⟨by decide, by decide, "PutOutModel", gt_of 1181 (by decide +kernel) rfl, Or.inl rfl⟩
theorem fk_12_62 : FK RX12 62 12 36 := ⟨by decide, by decide, "PutOutModel", gt_of 1182 (by decide +kernel) rfl, Or.inl rfl⟩
theorem fk_12_65 : FK RX12 65 12 37 := ⟨by decide, by decide, "PutOutModel", gt_of 1183 (by decide +kernel) rfl, Or.inl rfl⟩
theorem fk_12_288 : FK RX12 288 12 38 := ⟨by decide, by decide, "PutOutModel", gt_of 1184 (by decide +kernel) rfl, Or.inl rfl⟩
theorem fk_12_282 : FK RX12 282 12 39 := ⟨by decide, by decide, "PutOutModel", gt_of 1185 (by decide +kernel) rfl, Or.inl rfl⟩
theorem fk_12_295 : FK RX12 295 12 40 := ⟨by decide, by decide, "PutOutModel", gt_of 1186 (by decide +kernel) rfl, Or.inl rfl⟩
theorem fk_12_68 : FK RX12 68 12 41 := ⟨by decide, by decide, "PutOutModel", gt_of 1187 (by decide +kernel) rfl, Or.inl rfl⟩
theorem fk_12_298 : FK RX12 298 12 42 := ⟨by decide, by decide, "PutOutModel", gt_of 1188 (by decide +kernel) rfl, Or.inl rfl⟩
theorem fk_12_330 : FK RX12 330 12 43 := ⟨by decide, by decide, "PutOutModel", gt_of 1189 (by decide +kernel) rfl, Or.inl rfl⟩
theorem fk_12_333 : FK RX12 333 12 44 := ⟨by decide, by decide, "PutOutModel", gt_of 1190 (by decide +kernel) rfl, Or.inl rfl⟩
theorem fk_12_336 : FK RX12 336 12 45 := ⟨by decide, by decide, "PutOutModel", gt_of 1191 (by decide +kernel) rfl, Or.inl rfl⟩
theorem fk_12_71 : FK RX12 71 12 46 := ⟨by decide, by decide, "PutOutModel", gt_of 1192 (by decide +kernel) rfl, Or.inl rfl⟩
theorem fk_12_74 : FK RX12 74 12 47 := ⟨by decide, by decide, "PutOutModel", gt_of 1193 (by decide +kernel) rfl, Or.inl rfl⟩
theorem fk_12_77 : FK RX12 77 12 48 := ⟨by decide, by decide, "PutOutModel", gt_of 1194 (by decide +kernel) rfl, Or.inl rfl⟩
theorem fk_12_80 : FK RX12 80 12 49 := ⟨by decide, by decide, "PutOutModel", gt_of 1195 (by decide +kernel) rfl, Or.inl rfl⟩
theorem fk_12_83 : FK RX12 83 12 50 := ⟨by decide, by decide, "PutOutModel", gt_of 1196 (by decide +kernel) rfl, Or.inl rfl⟩
theorem fk_12_370 : FK RX12 370 12 51 := ⟨by decide, by decide, "PutOutModel", gt_of 1197 (by decide +kernel) rfl, Or.inl rfl⟩
theorem fk_12_86 : FK RX12 86 12 52 := ⟨by decide, by decide, "PutOutModel", gt_of 1198 (by decide +kernel) rfl, Or.inl rfl⟩
theorem fk_12_90 : FK RX12 90 12 53 := ⟨by decide, by decide, "PutOutModel", gt_of 1199 (by decide +kernel) rfl, Or.inl rfl⟩
theorem fk_12_93 : FK RX12 93 12 54 := ⟨by decide, by decide, "PutOutModel", gt_of 1200 (by decide +kernel) rfl, Or.inl rfl⟩
theorem fk_12_96 : FK RX12 96 12 55 := ⟨by decide, by decide, "PutOutModel", gt_of 1201 (by decide +kernel) rfl, Or.inl rfl⟩
theorem lk_L_9 : LKI RL 9 yX11_init := ⟨gt_of 93 (by decide +kernel) rfl, rfl, gt_of 94 (by decide +kernel) rfl⟩
theorem lw_11_1 : Cond.methodLink RX11 1 ⟨"java/lang/Object", "<init>", "()V"⟩ ∈ gT := gt_of 96 (by decide +kernel) rfl
theorem lk_11_9 : LKI RX11 9 yX2_init := ⟨gt_of 101 (by decide +kernel) rfl, rfl, gt_of 102 (by decide +kernel) rfl⟩
theorem lw_2_3 : Cond.methodLink RX2 3 ⟨"java/lang/Object", "<init>", "()V"⟩ ∈ gT := gt_of 104 (by decide +kernel) rfl
theorem lk_2_34 : LKS RX2 34 yJ7_fill_53178 := ⟨gt_of 107 (by decide +kernel) rfl, gt_of 108 (by decide +kernel) rfl⟩
theorem lk_2_40 : LKI RX2 40 yX9_init := ⟨gt_of 111 (by decide +kernel) rfl, rfl, gt_of 112 (by decide +kernel) rfl⟩
theorem lw_9_3 : Cond.methodLink RX9 3 ⟨"java/lang/Object", "<init>", "()V"⟩ ∈ gT := gt_of 114 (by decide +kernel) rfl
theorem lk_11_29 : LKIN RX11 29 yX6_init := ⟨by decide +kernel, rfl, gt_of 208 (by decide +kernel) rfl⟩
theorem lw_6_3 : Cond.methodLink RX6 3 ⟨"java/lang/Object", "<init>", "()V"⟩ ∈ gT := gt_of 210 (by decide +kernel) rfl
theorem lk_11_51 : LKIN RX11 51 yX4_init := ⟨by decide +kernel, rfl, gt_of 249 (by decide +kernel) rfl⟩
theorem lw_4_3 : Cond.methodLink RX4 3 ⟨"java/lang/Object", "<init>", "()V"⟩ ∈ gT := gt_of 251 (by decide +kernel) rfl
theorem lk_11_56 : LKIN RX11 56 yX7_init := ⟨by decide +kernel, rfl, gt_of 297 (by decide +kernel) rfl⟩
theorem lw_7_3 : Cond.methodLink RX7 3 ⟨"java/lang/Object", "<init>", "()V"⟩ ∈ gT := gt_of 299 (by decide +kernel) rfl
theorem lk_11_69 : LKV RX11 69 6 yX6_read := ⟨by decide, gt_of 362 (by decide +kernel) rfl, gt_of 363 (by decide +kernel) rfl, gt_of 364 (by decide +kernel) rfl⟩
theorem lk_6_43 : LKV RX6 43 6 yX6_advance := ⟨by decide, gt_of 366 (by decide +kernel) rfl, gt_of 368 (by decide +kernel) rfl, gt_of 0 (by decide +kernel) rfl⟩
theorem lk_6_82 : LKS RX6 82 yX6_isLetter := ⟨gt_of 370 (by decide +kernel) rfl, gt_of 371 (by decide +kernel) rfl⟩
theorem lk_6_86 : LKV RX6 86 6 yX6_word := ⟨by decide, gt_of 373 (by decide +kernel) rfl, gt_of 375 (by decide +kernel) rfl, gt_of 1 (by decide +kernel) rfl⟩
theorem lk_6_100 : LKV RX6 100 6 yX6_key := ⟨by decide, gt_of 377 (by decide +kernel) rfl, gt_of 379 (by decide +kernel) rfl, gt_of 2 (by decide +kernel) rfl⟩
theorem lk_6_108 : LKV RX6 108 6 yX6_spells := ⟨by decide, gt_of 382 (by decide +kernel) rfl, gt_of 384 (by decide +kernel) rfl, gt_of 3 (by decide +kernel) rfl⟩
theorem lk_6_103 : LKV RX6 103 6 yX6_name := ⟨by decide, gt_of 393 (by decide +kernel) rfl, gt_of 395 (by decide +kernel) rfl, gt_of 4 (by decide +kernel) rfl⟩
theorem lk_6_90 : LKS RX6 90 yX6_isDigit := ⟨gt_of 403 (by decide +kernel) rfl, gt_of 404 (by decide +kernel) rfl⟩
theorem lk_6_93 : LKV RX6 93 6 yX6_digits := ⟨by decide, gt_of 406 (by decide +kernel) rfl, gt_of 408 (by decide +kernel) rfl, gt_of 5 (by decide +kernel) rfl⟩
theorem lk_6_96 : LKS RX6 96 yX6_sign := ⟨gt_of 410 (by decide +kernel) rfl, gt_of 411 (by decide +kernel) rfl⟩
theorem lk_6_46 : LKV RX6 46 6 yX6_expect := ⟨by decide, gt_of 413 (by decide +kernel) rfl, gt_of 415 (by decide +kernel) rfl, gt_of 6 (by decide +kernel) rfl⟩
theorem lk_6_70 : LKV RX6 70 6 yX6_fail := ⟨by decide, gt_of 417 (by decide +kernel) rfl, gt_of 419 (by decide +kernel) rfl, gt_of 7 (by decide +kernel) rfl⟩
theorem lk_6_50 : LKV RX6 50 6 yX6_either := ⟨by decide, gt_of 421 (by decide +kernel) rfl, gt_of 423 (by decide +kernel) rfl, gt_of 8 (by decide +kernel) rfl⟩
theorem lk_6_61 : LKV RX6 61 6 yX6_both := ⟨by decide, gt_of 425 (by decide +kernel) rfl, gt_of 427 (by decide +kernel) rfl, gt_of 9 (by decide +kernel) rfl⟩
theorem lk_6_64 : LKV RX6 64 6 yX6_negation := ⟨by decide, gt_of 429 (by decide +kernel) rfl, gt_of 431 (by decide +kernel) rfl, gt_of 10 (by decide +kernel) rfl⟩
theorem lk_6_67 : LKV RX6 67 6 yX6_comparison := ⟨by decide, gt_of 433 (by decide +kernel) rfl, gt_of 435 (by decide +kernel) rfl, gt_of 11 (by decide +kernel) rfl⟩
theorem lk_6_73 : LKV RX6 73 6 yX6_sum := ⟨by decide, gt_of 437 (by decide +kernel) rfl, gt_of 439 (by decide +kernel) rfl, gt_of 12 (by decide +kernel) rfl⟩
theorem lk_6_76 : LKV RX6 76 6 yX6_term := ⟨by decide, gt_of 441 (by decide +kernel) rfl, gt_of 443 (by decide +kernel) rfl, gt_of 13 (by decide +kernel) rfl⟩
theorem lk_6_79 : LKV RX6 79 6 yX6_one := ⟨by decide, gt_of 445 (by decide +kernel) rfl, gt_of 447 (by decide +kernel) rfl, gt_of 14 (by decide +kernel) rfl⟩
theorem lk_6_53 : LKV RX6 53 6 yX6_emit := ⟨by decide, gt_of 449 (by decide +kernel) rfl, gt_of 451 (by decide +kernel) rfl, gt_of 15 (by decide +kernel) rfl⟩
theorem lk_11_73 : LKV RX11 73 6 yX6_made := ⟨by decide, gt_of 453 (by decide +kernel) rfl, gt_of 454 (by decide +kernel) rfl, gt_of 455 (by decide +kernel) rfl⟩
theorem lk_6_58 : LKI RX6 58 yX8_init := ⟨gt_of 459 (by decide +kernel) rfl, rfl, gt_of 460 (by decide +kernel) rfl⟩
theorem lw_8_3 : Cond.methodLink RX8 3 ⟨"java/lang/Object", "<init>", "()V"⟩ ∈ gT := gt_of 462 (by decide +kernel) rfl
theorem lk_8_15 : LKS RX8 15 yJ7_copyOf_59c91 := ⟨gt_of 463 (by decide +kernel) rfl, gt_of 464 (by decide +kernel) rfl⟩
theorem lk_L_13 : LKV RL 13 11 yX11_set := ⟨by decide, gt_of 521 (by decide +kernel) rfl, gt_of 522 (by decide +kernel) rfl, gt_of 523 (by decide +kernel) rfl⟩
theorem lk_11_80 : LKS RX11 80 yX11_exchange := ⟨gt_of 525 (by decide +kernel) rfl, gt_of 526 (by decide +kernel) rfl⟩
theorem lk_11_104 : LKS RX11 104 yX11_isBelow := ⟨gt_of 528 (by decide +kernel) rfl, gt_of 529 (by decide +kernel) rfl⟩
theorem lk_11_90 : LKV RX11 90 2 yX2_has := ⟨by decide, gt_of 531 (by decide +kernel) rfl, gt_of 532 (by decide +kernel) rfl, gt_of 533 (by decide +kernel) rfl⟩
theorem lk_2_43 : LKSN RX2 43 yX11_isBelow := ⟨by decide +kernel, gt_of 529 (by decide +kernel) rfl⟩
theorem lku_11_98_0 : LKU RX11 98 0 yX9_change yX9_change := ⟨by decide, gt_of 536 (by decide +kernel) rfl, gt_of 539 (by decide +kernel) rfl, gt_of 537 (by decide +kernel) rfl, ⟨_, _, _, gt_of (w := .code yX9_change cX9_change 4 (some (.int))) 545 (by decide +kernel) rfl⟩, gt_of 540 (by decide +kernel) rfl, gt_of 537 (by decide +kernel) rfl, by decide +kernel, rfl⟩
theorem lku_11_98_1 : LKU RX11 98 1 yX9_change yX9_change := ⟨by decide, gt_of 536 (by decide +kernel) rfl, gt_of 539 (by decide +kernel) rfl, gt_of 537 (by decide +kernel) rfl, ⟨_, _, _, gt_of (w := .code yX9_change cX9_change 4 (some (.int))) 545 (by decide +kernel) rfl⟩, gt_of 541 (by decide +kernel) rfl, gt_of 537 (by decide +kernel) rfl, by decide +kernel, rfl⟩
theorem lku_11_98_3 : LKU RX11 98 3 yX9_change yX9_change := ⟨by decide, gt_of 536 (by decide +kernel) rfl, gt_of 539 (by decide +kernel) rfl, gt_of 537 (by decide +kernel) rfl, ⟨_, _, _, gt_of (w := .code yX9_change cX9_change 4 (some (.int))) 545 (by decide +kernel) rfl⟩, gt_of 542 (by decide +kernel) rfl, gt_of 537 (by decide +kernel) rfl, by decide +kernel, rfl⟩
theorem lku_11_98_5 : LKU RX11 98 5 yX9_change yX9_change := ⟨by decide, gt_of 536 (by decide +kernel) rfl, gt_of 539 (by decide +kernel) rfl, gt_of 537 (by decide +kernel) rfl, ⟨_, _, _, gt_of (w := .code yX9_change cX9_change 4 (some (.int))) 545 (by decide +kernel) rfl⟩, gt_of 543 (by decide +kernel) rfl, gt_of 537 (by decide +kernel) rfl, by decide +kernel, rfl⟩
theorem lku_11_98_9 : LKU RX11 98 9 yX9_change yX9_change := ⟨by decide, gt_of 536 (by decide +kernel) rfl, gt_of 539 (by decide +kernel) rfl, gt_of 537 (by decide +kernel) rfl, ⟨_, _, _, gt_of (w := .code yX9_change cX9_change 4 (some (.int))) 545 (by decide +kernel) rfl⟩, gt_of 538 (by decide +kernel) rfl, gt_of 537 (by decide +kernel) rfl, by decide +kernel, rfl⟩
theorem lku_11_98_10 : LKU RX11 98 10 yX9_change yX9_change := ⟨by decide, gt_of 536 (by decide +kernel) rfl, gt_of 539 (by decide +kernel) rfl, gt_of 537 (by decide +kernel) rfl, ⟨_, _, _, gt_of (w := .code yX9_change cX9_change 4 (some (.int))) 545 (by decide +kernel) rfl⟩, gt_of 544 (by decide +kernel) rfl, gt_of 537 (by decide +kernel) rfl, by decide +kernel, rfl⟩
theorem lk_11_98 : LKV RX11 98 9 yX9_change := ⟨by decide, gt_of 536 (by decide +kernel) rfl, gt_of 537 (by decide +kernel) rfl, gt_of 538 (by decide +kernel) rfl⟩
theorem lk_9_52 : LKSN RX9 52 yX11_isBelow := ⟨by decide +kernel, gt_of 529 (by decide +kernel) rfl⟩
theorem lk_L_18 : LKV RL 18 11 yX11_thing := ⟨by decide, gt_of 547 (by decide +kernel) rfl, gt_of 548 (by decide +kernel) rfl, gt_of 549 (by decide +kernel) rfl⟩
theorem lk_11_111 : LKS RX11 111 yX11_made := ⟨gt_of 551 (by decide +kernel) rfl, gt_of 552 (by decide +kernel) rfl⟩
theorem lk_11_260 : LKI RX11 260 yX3_init := ⟨gt_of 556 (by decide +kernel) rfl, rfl, gt_of 557 (by decide +kernel) rfl⟩
theorem lk_3_1 : LKI RX3 1 yX9_init := ⟨gt_of 559 (by decide +kernel) rfl, rfl, gt_of 112 (by decide +kernel) rfl⟩
theorem lk_11_265 : LKI RX11 265 yX1_init := ⟨gt_of 576 (by decide +kernel) rfl, rfl, gt_of 577 (by decide +kernel) rfl⟩
theorem lk_1_1 : LKI RX1 1 yX9_init := ⟨gt_of 579 (by decide +kernel) rfl, rfl, gt_of 112 (by decide +kernel) rfl⟩
theorem lk_11_268 : LKI RX11 268 yX5_init := ⟨gt_of 596 (by decide +kernel) rfl, rfl, gt_of 597 (by decide +kernel) rfl⟩
theorem lk_5_1 : LKI RX5 1 yX3_init := ⟨gt_of 599 (by decide +kernel) rfl, rfl, gt_of 557 (by decide +kernel) rfl⟩
theorem lk_11_271 : LKI RX11 271 yX10_init := ⟨gt_of 616 (by decide +kernel) rfl, rfl, gt_of 617 (by decide +kernel) rfl⟩
theorem lk_10_1 : LKI RX10 1 yX1_init := ⟨gt_of 619 (by decide +kernel) rfl, rfl, gt_of 577 (by decide +kernel) rfl⟩
theorem lk_11_274 : LKI RX11 274 yX0_init := ⟨gt_of 636 (by decide +kernel) rfl, rfl, gt_of 637 (by decide +kernel) rfl⟩
theorem lk_0_1 : LKI RX0 1 yX9_init := ⟨gt_of 639 (by decide +kernel) rfl, rfl, gt_of 112 (by decide +kernel) rfl⟩
theorem lk_11_275 : LKI RX11 275 yX9_init := ⟨gt_of 655 (by decide +kernel) rfl, rfl, gt_of 112 (by decide +kernel) rfl⟩
theorem lk_L_22 : LKV RL 22 11 yX11_put := ⟨by decide, gt_of 656 (by decide +kernel) rfl, gt_of 657 (by decide +kernel) rfl, gt_of 658 (by decide +kernel) rfl⟩
theorem lku_11_117_0 : LKU RX11 117 0 yX9_stands yX9_stands := ⟨by decide, gt_of 660 (by decide +kernel) rfl, gt_of 663 (by decide +kernel) rfl, gt_of 661 (by decide +kernel) rfl, ⟨_, _, _, gt_of (w := .code yX9_stands cX9_stands 2 (some (.boolean))) 676 (by decide +kernel) rfl⟩, gt_of 664 (by decide +kernel) rfl, gt_of 661 (by decide +kernel) rfl, by decide +kernel, rfl⟩
theorem lku_11_117_1 : LKU RX11 117 1 yX9_stands yX1_stands := ⟨by decide, gt_of 660 (by decide +kernel) rfl, gt_of 663 (by decide +kernel) rfl, gt_of 661 (by decide +kernel) rfl, ⟨_, _, _, gt_of (w := .code yX9_stands cX9_stands 2 (some (.boolean))) 676 (by decide +kernel) rfl⟩, gt_of 665 (by decide +kernel) rfl, gt_of 666 (by decide +kernel) rfl, by decide +kernel, rfl⟩
theorem lku_11_117_3 : LKU RX11 117 3 yX9_stands yX3_stands := ⟨by decide, gt_of 660 (by decide +kernel) rfl, gt_of 663 (by decide +kernel) rfl, gt_of 661 (by decide +kernel) rfl, ⟨_, _, _, gt_of (w := .code yX9_stands cX9_stands 2 (some (.boolean))) 676 (by decide +kernel) rfl⟩, gt_of 668 (by decide +kernel) rfl, gt_of 669 (by decide +kernel) rfl, by decide +kernel, rfl⟩
theorem lku_11_117_5 : LKU RX11 117 5 yX9_stands yX5_stands := ⟨by decide, gt_of 660 (by decide +kernel) rfl, gt_of 663 (by decide +kernel) rfl, gt_of 661 (by decide +kernel) rfl, ⟨_, _, _, gt_of (w := .code yX9_stands cX9_stands 2 (some (.boolean))) 676 (by decide +kernel) rfl⟩, gt_of 671 (by decide +kernel) rfl, gt_of 672 (by decide +kernel) rfl, by decide +kernel, rfl⟩
theorem lku_11_117_9 : LKU RX11 117 9 yX9_stands yX9_stands := ⟨by decide, gt_of 660 (by decide +kernel) rfl, gt_of 663 (by decide +kernel) rfl, gt_of 661 (by decide +kernel) rfl, ⟨_, _, _, gt_of (w := .code yX9_stands cX9_stands 2 (some (.boolean))) 676 (by decide +kernel) rfl⟩, gt_of 662 (by decide +kernel) rfl, gt_of 661 (by decide +kernel) rfl, by decide +kernel, rfl⟩
theorem lku_11_117_10 : LKU RX11 117 10 yX9_stands yX1_stands := ⟨by decide, gt_of 660 (by decide +kernel) rfl, gt_of 663 (by decide +kernel) rfl, gt_of 661 (by decide +kernel) rfl, ⟨_, _, _, gt_of (w := .code yX9_stands cX9_stands 2 (some (.boolean))) 676 (by decide +kernel) rfl⟩, gt_of 675 (by decide +kernel) rfl, gt_of 666 (by decide +kernel) rfl, by decide +kernel, rfl⟩
theorem lk_11_117 : LKV RX11 117 9 yX9_stands := ⟨by decide, gt_of 660 (by decide +kernel) rfl, gt_of 661 (by decide +kernel) rfl, gt_of 662 (by decide +kernel) rfl⟩
theorem lsu_5_7 : LKSU RX5 7 yX3_stands := ⟨gt_of 674 (by decide +kernel) rfl, gt_of 1620 (by decide +kernel) rfl, gt_of 613 (by decide +kernel) rfl, gt_of 669 (by decide +kernel) rfl, by decide +kernel⟩
theorem lk_11_120 : LKV RX11 120 2 yX2_isTaken := ⟨by decide, gt_of 677 (by decide +kernel) rfl, gt_of 678 (by decide +kernel) rfl, gt_of 679 (by decide +kernel) rfl⟩
theorem lk_11_123 : LKV RX11 123 11 yX11_rule := ⟨by decide, gt_of 681 (by decide +kernel) rfl, gt_of 683 (by decide +kernel) rfl, gt_of 16 (by decide +kernel) rfl⟩
theorem lku_11_126_0 : LKU RX11 126 0 yX9_movesTo yX9_movesTo := ⟨by decide, gt_of 685 (by decide +kernel) rfl, gt_of 688 (by decide +kernel) rfl, gt_of 686 (by decide +kernel) rfl, ⟨_, _, _, gt_of (w := .code yX9_movesTo cX9_movesTo 3 (some (.int))) 694 (by decide +kernel) rfl⟩, gt_of 689 (by decide +kernel) rfl, gt_of 686 (by decide +kernel) rfl, by decide +kernel, rfl⟩
theorem lku_11_126_1 : LKU RX11 126 1 yX9_movesTo yX9_movesTo := ⟨by decide, gt_of 685 (by decide +kernel) rfl, gt_of 688 (by decide +kernel) rfl, gt_of 686 (by decide +kernel) rfl, ⟨_, _, _, gt_of (w := .code yX9_movesTo cX9_movesTo 3 (some (.int))) 694 (by decide +kernel) rfl⟩, gt_of 690 (by decide +kernel) rfl, gt_of 686 (by decide +kernel) rfl, by decide +kernel, rfl⟩
theorem lku_11_126_3 : LKU RX11 126 3 yX9_movesTo yX9_movesTo := ⟨by decide, gt_of 685 (by decide +kernel) rfl, gt_of 688 (by decide +kernel) rfl, gt_of 686 (by decide +kernel) rfl, ⟨_, _, _, gt_of (w := .code yX9_movesTo cX9_movesTo 3 (some (.int))) 694 (by decide +kernel) rfl⟩, gt_of 691 (by decide +kernel) rfl, gt_of 686 (by decide +kernel) rfl, by decide +kernel, rfl⟩
theorem lku_11_126_5 : LKU RX11 126 5 yX9_movesTo yX9_movesTo := ⟨by decide, gt_of 685 (by decide +kernel) rfl, gt_of 688 (by decide +kernel) rfl, gt_of 686 (by decide +kernel) rfl, ⟨_, _, _, gt_of (w := .code yX9_movesTo cX9_movesTo 3 (some (.int))) 694 (by decide +kernel) rfl⟩, gt_of 692 (by decide +kernel) rfl, gt_of 686 (by decide +kernel) rfl, by decide +kernel, rfl⟩
theorem lku_11_126_9 : LKU RX11 126 9 yX9_movesTo yX9_movesTo := ⟨by decide, gt_of 685 (by decide +kernel) rfl, gt_of 688 (by decide +kernel) rfl, gt_of 686 (by decide +kernel) rfl, ⟨_, _, _, gt_of (w := .code yX9_movesTo cX9_movesTo 3 (some (.int))) 694 (by decide +kernel) rfl⟩, gt_of 687 (by decide +kernel) rfl, gt_of 686 (by decide +kernel) rfl, by decide +kernel, rfl⟩
theorem lku_11_126_10 : LKU RX11 126 10 yX9_movesTo yX9_movesTo := ⟨by decide, gt_of 685 (by decide +kernel) rfl, gt_of 688 (by decide +kernel) rfl, gt_of 686 (by decide +kernel) rfl, ⟨_, _, _, gt_of (w := .code yX9_movesTo cX9_movesTo 3 (some (.int))) 694 (by decide +kernel) rfl⟩, gt_of 693 (by decide +kernel) rfl, gt_of 686 (by decide +kernel) rfl, by decide +kernel, rfl⟩
theorem lk_11_126 : LKV RX11 126 9 yX9_movesTo := ⟨by decide, gt_of 685 (by decide +kernel) rfl, gt_of 686 (by decide +kernel) rfl, gt_of 687 (by decide +kernel) rfl⟩
theorem lk_9_56 : LKV RX9 56 8 yX8_tells := ⟨by decide, gt_of 695 (by decide +kernel) rfl, gt_of 696 (by decide +kernel) rfl, gt_of 697 (by decide +kernel) rfl⟩
theorem lk_8_31 : LKV RX8 31 8 yX8_push := ⟨by decide, gt_of 699 (by decide +kernel) rfl, gt_of 701 (by decide +kernel) rfl, gt_of 17 (by decide +kernel) rfl⟩
theorem lk_8_35 : LKS RX8 35 yX8_named := ⟨gt_of 703 (by decide +kernel) rfl, gt_of 704 (by decide +kernel) rfl⟩
theorem lk_8_39 : LKV RX8 39 8 yX8_pop := ⟨by decide, gt_of 706 (by decide +kernel) rfl, gt_of 708 (by decide +kernel) rfl, gt_of 18 (by decide +kernel) rfl⟩
theorem lk_8_43 : LKS RX8 43 yX8_joined := ⟨gt_of 710 (by decide +kernel) rfl, gt_of 711 (by decide +kernel) rfl⟩
theorem lk_8_47 : LKS RX8 47 yJ9_min_7cf53 := ⟨gt_of 713 (by decide +kernel) rfl, gt_of 474 (by decide +kernel) rfl⟩
theorem lk_8_53 : LKS RX8 53 yJ9_max_7cf53 := ⟨gt_of 714 (by decide +kernel) rfl, gt_of 715 (by decide +kernel) rfl⟩
theorem lk_L_27 : LKV RL 27 11 yX11_told := ⟨by decide, gt_of 717 (by decide +kernel) rfl, gt_of 718 (by decide +kernel) rfl, gt_of 719 (by decide +kernel) rfl⟩
theorem lk_11_142 : LKS RX11 142 yX11_viewersOf := ⟨gt_of 721 (by decide +kernel) rfl, gt_of 722 (by decide +kernel) rfl⟩
theorem lk_11_276 : LKS RX11 276 yX11_hasBit := ⟨gt_of 724 (by decide +kernel) rfl, gt_of 725 (by decide +kernel) rfl⟩
theorem lk_L_31 : LKV RL 31 11 yX11_feed := ⟨by decide, gt_of 727 (by decide +kernel) rfl, gt_of 728 (by decide +kernel) rfl, gt_of 729 (by decide +kernel) rfl⟩
theorem lk_L_36 : LKV RL 36 11 yX11_text := ⟨by decide, gt_of 731 (by decide +kernel) rfl, gt_of 732 (by decide +kernel) rfl, gt_of 733 (by decide +kernel) rfl⟩
theorem lk_L_41 : LKV RL 41 11 yX11_force := ⟨by decide, gt_of 735 (by decide +kernel) rfl, gt_of 736 (by decide +kernel) rfl, gt_of 737 (by decide +kernel) rfl⟩
theorem lk_L_45 : LKV RL 45 11 yX11_day := ⟨by decide, gt_of 739 (by decide +kernel) rfl, gt_of 740 (by decide +kernel) rfl, gt_of 741 (by decide +kernel) rfl⟩
theorem lk_11_148 : LKV RX11 148 4 yX4_start := ⟨by decide, gt_of 743 (by decide +kernel) rfl, gt_of 744 (by decide +kernel) rfl, gt_of 745 (by decide +kernel) rfl⟩
theorem lw_4_59 : Cond.methodLink RX4 59 ⟨"java/lang/System", "arraycopy", "(Ljava/lang/Object;ILjava/lang/Object;II)V"⟩ ∈ gT := gt_of 747 (by decide +kernel) rfl
theorem lk_4_67 : LKV RX4 67 4 yX4_lookAround := ⟨by decide, gt_of 748 (by decide +kernel) rfl, gt_of 750 (by decide +kernel) rfl, gt_of 19 (by decide +kernel) rfl⟩
theorem lk_4_77 : LKSN RX4 77 yX11_viewersOf := ⟨by decide +kernel, gt_of 722 (by decide +kernel) rfl⟩
theorem lku_4_70_0 : LKU RX4 70 0 yX9_learn yX9_learn := ⟨by decide, gt_of 753 (by decide +kernel) rfl, gt_of 756 (by decide +kernel) rfl, gt_of 754 (by decide +kernel) rfl, ⟨_, _, _, gt_of (w := .code yX9_learn cX9_learn 3 (none)) 762 (by decide +kernel) rfl⟩, gt_of 757 (by decide +kernel) rfl, gt_of 754 (by decide +kernel) rfl, by decide +kernel, rfl⟩
theorem lku_4_70_1 : LKU RX4 70 1 yX9_learn yX9_learn := ⟨by decide, gt_of 753 (by decide +kernel) rfl, gt_of 756 (by decide +kernel) rfl, gt_of 754 (by decide +kernel) rfl, ⟨_, _, _, gt_of (w := .code yX9_learn cX9_learn 3 (none)) 762 (by decide +kernel) rfl⟩, gt_of 758 (by decide +kernel) rfl, gt_of 754 (by decide +kernel) rfl, by decide +kernel, rfl⟩
theorem lku_4_70_3 : LKU RX4 70 3 yX9_learn yX9_learn := ⟨by decide, gt_of 753 (by decide +kernel) rfl, gt_of 756 (by decide +kernel) rfl, gt_of 754 (by decide +kernel) rfl, ⟨_, _, _, gt_of (w := .code yX9_learn cX9_learn 3 (none)) 762 (by decide +kernel) rfl⟩, gt_of 759 (by decide +kernel) rfl, gt_of 754 (by decide +kernel) rfl, by decide +kernel, rfl⟩
theorem lku_4_70_5 : LKU RX4 70 5 yX9_learn yX9_learn := ⟨by decide, gt_of 753 (by decide +kernel) rfl, gt_of 756 (by decide +kernel) rfl, gt_of 754 (by decide +kernel) rfl, ⟨_, _, _, gt_of (w := .code yX9_learn cX9_learn 3 (none)) 762 (by decide +kernel) rfl⟩, gt_of 760 (by decide +kernel) rfl, gt_of 754 (by decide +kernel) rfl, by decide +kernel, rfl⟩
theorem lku_4_70_9 : LKU RX4 70 9 yX9_learn yX9_learn := ⟨by decide, gt_of 753 (by decide +kernel) rfl, gt_of 756 (by decide +kernel) rfl, gt_of 754 (by decide +kernel) rfl, ⟨_, _, _, gt_of (w := .code yX9_learn cX9_learn 3 (none)) 762 (by decide +kernel) rfl⟩, gt_of 755 (by decide +kernel) rfl, gt_of 754 (by decide +kernel) rfl, by decide +kernel, rfl⟩
theorem lku_4_70_10 : LKU RX4 70 10 yX9_learn yX9_learn := ⟨by decide, gt_of 753 (by decide +kernel) rfl, gt_of 756 (by decide +kernel) rfl, gt_of 754 (by decide +kernel) rfl, ⟨_, _, _, gt_of (w := .code yX9_learn cX9_learn 3 (none)) 762 (by decide +kernel) rfl⟩, gt_of 761 (by decide +kernel) rfl, gt_of 754 (by decide +kernel) rfl, by decide +kernel, rfl⟩
theorem lk_4_70 : LKV RX4 70 9 yX9_learn := ⟨by decide, gt_of 753 (by decide +kernel) rfl, gt_of 754 (by decide +kernel) rfl, gt_of 755 (by decide +kernel) rfl⟩
theorem lku_9_62_0 : LKU RX9 62 0 yX9_movesTo yX9_movesTo := ⟨by decide, gt_of 763 (by decide +kernel) rfl, gt_of 688 (by decide +kernel) rfl, gt_of 686 (by decide +kernel) rfl, ⟨_, _, _, gt_of (w := .code yX9_movesTo cX9_movesTo 3 (some (.int))) 694 (by decide +kernel) rfl⟩, gt_of 689 (by decide +kernel) rfl, gt_of 686 (by decide +kernel) rfl, by decide +kernel, rfl⟩
theorem lku_9_62_1 : LKU RX9 62 1 yX9_movesTo yX9_movesTo := ⟨by decide, gt_of 763 (by decide +kernel) rfl, gt_of 688 (by decide +kernel) rfl, gt_of 686 (by decide +kernel) rfl, ⟨_, _, _, gt_of (w := .code yX9_movesTo cX9_movesTo 3 (some (.int))) 694 (by decide +kernel) rfl⟩, gt_of 690 (by decide +kernel) rfl, gt_of 686 (by decide +kernel) rfl, by decide +kernel, rfl⟩
theorem lku_9_62_3 : LKU RX9 62 3 yX9_movesTo yX9_movesTo := ⟨by decide, gt_of 763 (by decide +kernel) rfl, gt_of 688 (by decide +kernel) rfl, gt_of 686 (by decide +kernel) rfl, ⟨_, _, _, gt_of (w := .code yX9_movesTo cX9_movesTo 3 (some (.int))) 694 (by decide +kernel) rfl⟩, gt_of 691 (by decide +kernel) rfl, gt_of 686 (by decide +kernel) rfl, by decide +kernel, rfl⟩
theorem lku_9_62_5 : LKU RX9 62 5 yX9_movesTo yX9_movesTo := ⟨by decide, gt_of 763 (by decide +kernel) rfl, gt_of 688 (by decide +kernel) rfl, gt_of 686 (by decide +kernel) rfl, ⟨_, _, _, gt_of (w := .code yX9_movesTo cX9_movesTo 3 (some (.int))) 694 (by decide +kernel) rfl⟩, gt_of 692 (by decide +kernel) rfl, gt_of 686 (by decide +kernel) rfl, by decide +kernel, rfl⟩
theorem lku_9_62_9 : LKU RX9 62 9 yX9_movesTo yX9_movesTo := ⟨by decide, gt_of 763 (by decide +kernel) rfl, gt_of 688 (by decide +kernel) rfl, gt_of 686 (by decide +kernel) rfl, ⟨_, _, _, gt_of (w := .code yX9_movesTo cX9_movesTo 3 (some (.int))) 694 (by decide +kernel) rfl⟩, gt_of 687 (by decide +kernel) rfl, gt_of 686 (by decide +kernel) rfl, by decide +kernel, rfl⟩
theorem lku_9_62_10 : LKU RX9 62 10 yX9_movesTo yX9_movesTo := ⟨by decide, gt_of 763 (by decide +kernel) rfl, gt_of 688 (by decide +kernel) rfl, gt_of 686 (by decide +kernel) rfl, ⟨_, _, _, gt_of (w := .code yX9_movesTo cX9_movesTo 3 (some (.int))) 694 (by decide +kernel) rfl⟩, gt_of 693 (by decide +kernel) rfl, gt_of 686 (by decide +kernel) rfl, by decide +kernel, rfl⟩
theorem lk_9_62 : LKV RX9 62 9 yX9_movesTo := ⟨by decide, gt_of 763 (by decide +kernel) rfl, gt_of 686 (by decide +kernel) rfl, gt_of 687 (by decide +kernel) rfl⟩
theorem lku_9_66_0 : LKU RX9 66 0 yX9_stands yX9_stands := ⟨by decide, gt_of 764 (by decide +kernel) rfl, gt_of 663 (by decide +kernel) rfl, gt_of 661 (by decide +kernel) rfl, ⟨_, _, _, gt_of (w := .code yX9_stands cX9_stands 2 (some (.boolean))) 676 (by decide +kernel) rfl⟩, gt_of 664 (by decide +kernel) rfl, gt_of 661 (by decide +kernel) rfl, by decide +kernel, rfl⟩
theorem lku_9_66_1 : LKU RX9 66 1 yX9_stands yX1_stands := ⟨by decide, gt_of 764 (by decide +kernel) rfl, gt_of 663 (by decide +kernel) rfl, gt_of 661 (by decide +kernel) rfl, ⟨_, _, _, gt_of (w := .code yX9_stands cX9_stands 2 (some (.boolean))) 676 (by decide +kernel) rfl⟩, gt_of 665 (by decide +kernel) rfl, gt_of 666 (by decide +kernel) rfl, by decide +kernel, rfl⟩
theorem lku_9_66_3 : LKU RX9 66 3 yX9_stands yX3_stands := ⟨by decide, gt_of 764 (by decide +kernel) rfl, gt_of 663 (by decide +kernel) rfl, gt_of 661 (by decide +kernel) rfl, ⟨_, _, _, gt_of (w := .code yX9_stands cX9_stands 2 (some (.boolean))) 676 (by decide +kernel) rfl⟩, gt_of 668 (by decide +kernel) rfl, gt_of 669 (by decide +kernel) rfl, by decide +kernel, rfl⟩
theorem lku_9_66_5 : LKU RX9 66 5 yX9_stands yX5_stands := ⟨by decide, gt_of 764 (by decide +kernel) rfl, gt_of 663 (by decide +kernel) rfl, gt_of 661 (by decide +kernel) rfl, ⟨_, _, _, gt_of (w := .code yX9_stands cX9_stands 2 (some (.boolean))) 676 (by decide +kernel) rfl⟩, gt_of 671 (by decide +kernel) rfl, gt_of 672 (by decide +kernel) rfl, by decide +kernel, rfl⟩
theorem lku_9_66_9 : LKU RX9 66 9 yX9_stands yX9_stands := ⟨by decide, gt_of 764 (by decide +kernel) rfl, gt_of 663 (by decide +kernel) rfl, gt_of 661 (by decide +kernel) rfl, ⟨_, _, _, gt_of (w := .code yX9_stands cX9_stands 2 (some (.boolean))) 676 (by decide +kernel) rfl⟩, gt_of 662 (by decide +kernel) rfl, gt_of 661 (by decide +kernel) rfl, by decide +kernel, rfl⟩
theorem lku_9_66_10 : LKU RX9 66 10 yX9_stands yX1_stands := ⟨by decide, gt_of 764 (by decide +kernel) rfl, gt_of 663 (by decide +kernel) rfl, gt_of 661 (by decide +kernel) rfl, ⟨_, _, _, gt_of (w := .code yX9_stands cX9_stands 2 (some (.boolean))) 676 (by decide +kernel) rfl⟩, gt_of 675 (by decide +kernel) rfl, gt_of 666 (by decide +kernel) rfl, by decide +kernel, rfl⟩
theorem lk_9_66 : LKV RX9 66 9 yX9_stands := ⟨by decide, gt_of 764 (by decide +kernel) rfl, gt_of 661 (by decide +kernel) rfl, gt_of 662 (by decide +kernel) rfl⟩
theorem lku_9_71_9 : LKU RX9 71 9 yX9_offenceTo yX9_offenceTo := ⟨by decide, gt_of 766 (by decide +kernel) rfl, gt_of 1621 (by decide +kernel) rfl, gt_of 768 (by decide +kernel) rfl, ⟨_, _, _, gt_of (w := .code yX9_offenceTo cX9_offenceTo 4 (some (.int))) 769 (by decide +kernel) rfl⟩, gt_of 20 (by decide +kernel) rfl, gt_of 768 (by decide +kernel) rfl, by decide +kernel, rfl⟩
theorem lk_9_71 : LKV RX9 71 9 yX9_offenceTo := ⟨by decide, gt_of 766 (by decide +kernel) rfl, gt_of 768 (by decide +kernel) rfl, gt_of 20 (by decide +kernel) rfl⟩
theorem lk_9_79 : LKSN RX9 79 yX11_hasBit := ⟨by decide +kernel, gt_of 725 (by decide +kernel) rfl⟩
theorem lku_9_82_0 : LKU RX9 82 0 yX9_offends yX0_offends := ⟨by decide, gt_of 771 (by decide +kernel) rfl, gt_of 774 (by decide +kernel) rfl, gt_of 772 (by decide +kernel) rfl, ⟨_, _, _, gt_of (w := .code yX9_offends cX9_offends 2 (some (.int))) 793 (by decide +kernel) rfl⟩, gt_of 775 (by decide +kernel) rfl, gt_of 776 (by decide +kernel) rfl, by decide +kernel, rfl⟩
theorem lku_9_82_1 : LKU RX9 82 1 yX9_offends yX1_offends := ⟨by decide, gt_of 771 (by decide +kernel) rfl, gt_of 774 (by decide +kernel) rfl, gt_of 772 (by decide +kernel) rfl, ⟨_, _, _, gt_of (w := .code yX9_offends cX9_offends 2 (some (.int))) 793 (by decide +kernel) rfl⟩, gt_of 778 (by decide +kernel) rfl, gt_of 779 (by decide +kernel) rfl, by decide +kernel, rfl⟩
theorem lku_9_82_3 : LKU RX9 82 3 yX9_offends yX9_offends := ⟨by decide, gt_of 771 (by decide +kernel) rfl, gt_of 774 (by decide +kernel) rfl, gt_of 772 (by decide +kernel) rfl, ⟨_, _, _, gt_of (w := .code yX9_offends cX9_offends 2 (some (.int))) 793 (by decide +kernel) rfl⟩, gt_of 782 (by decide +kernel) rfl, gt_of 772 (by decide +kernel) rfl, by decide +kernel, rfl⟩
theorem lku_9_82_5 : LKU RX9 82 5 yX9_offends yX5_offends := ⟨by decide, gt_of 771 (by decide +kernel) rfl, gt_of 774 (by decide +kernel) rfl, gt_of 772 (by decide +kernel) rfl, ⟨_, _, _, gt_of (w := .code yX9_offends cX9_offends 2 (some (.int))) 793 (by decide +kernel) rfl⟩, gt_of 783 (by decide +kernel) rfl, gt_of 784 (by decide +kernel) rfl, by decide +kernel, rfl⟩
theorem lku_9_82_9 : LKU RX9 82 9 yX9_offends yX9_offends := ⟨by decide, gt_of 771 (by decide +kernel) rfl, gt_of 774 (by decide +kernel) rfl, gt_of 772 (by decide +kernel) rfl, ⟨_, _, _, gt_of (w := .code yX9_offends cX9_offends 2 (some (.int))) 793 (by decide +kernel) rfl⟩, gt_of 773 (by decide +kernel) rfl, gt_of 772 (by decide +kernel) rfl, by decide +kernel, rfl⟩
theorem lku_9_82_10 : LKU RX9 82 10 yX9_offends yX10_offends := ⟨by decide, gt_of 771 (by decide +kernel) rfl, gt_of 774 (by decide +kernel) rfl, gt_of 772 (by decide +kernel) rfl, ⟨_, _, _, gt_of (w := .code yX9_offends cX9_offends 2 (some (.int))) 793 (by decide +kernel) rfl⟩, gt_of 789 (by decide +kernel) rfl, gt_of 790 (by decide +kernel) rfl, by decide +kernel, rfl⟩
theorem lk_9_82 : LKV RX9 82 9 yX9_offends := ⟨by decide, gt_of 771 (by decide +kernel) rfl, gt_of 772 (by decide +kernel) rfl, gt_of 773 (by decide +kernel) rfl⟩
theorem lsu_1_17 : LKSU RX1 17 yX9_offends := ⟨gt_of 781 (by decide +kernel) rfl, gt_of 774 (by decide +kernel) rfl, gt_of 593 (by decide +kernel) rfl, gt_of 772 (by decide +kernel) rfl, by decide +kernel⟩
theorem lku_1_17_0 : LKU RX1 17 0 yX9_offends yX0_offends := ⟨by decide, gt_of 781 (by decide +kernel) rfl, gt_of 774 (by decide +kernel) rfl, gt_of 772 (by decide +kernel) rfl, ⟨_, _, _, gt_of (w := .code yX9_offends cX9_offends 2 (some (.int))) 793 (by decide +kernel) rfl⟩, gt_of 775 (by decide +kernel) rfl, gt_of 776 (by decide +kernel) rfl, by decide +kernel, rfl⟩
theorem lku_1_17_1 : LKU RX1 17 1 yX9_offends yX1_offends := ⟨by decide, gt_of 781 (by decide +kernel) rfl, gt_of 774 (by decide +kernel) rfl, gt_of 772 (by decide +kernel) rfl, ⟨_, _, _, gt_of (w := .code yX9_offends cX9_offends 2 (some (.int))) 793 (by decide +kernel) rfl⟩, gt_of 778 (by decide +kernel) rfl, gt_of 779 (by decide +kernel) rfl, by decide +kernel, rfl⟩
theorem lku_1_17_3 : LKU RX1 17 3 yX9_offends yX9_offends := ⟨by decide, gt_of 781 (by decide +kernel) rfl, gt_of 774 (by decide +kernel) rfl, gt_of 772 (by decide +kernel) rfl, ⟨_, _, _, gt_of (w := .code yX9_offends cX9_offends 2 (some (.int))) 793 (by decide +kernel) rfl⟩, gt_of 782 (by decide +kernel) rfl, gt_of 772 (by decide +kernel) rfl, by decide +kernel, rfl⟩
theorem lku_1_17_5 : LKU RX1 17 5 yX9_offends yX5_offends := ⟨by decide, gt_of 781 (by decide +kernel) rfl, gt_of 774 (by decide +kernel) rfl, gt_of 772 (by decide +kernel) rfl, ⟨_, _, _, gt_of (w := .code yX9_offends cX9_offends 2 (some (.int))) 793 (by decide +kernel) rfl⟩, gt_of 783 (by decide +kernel) rfl, gt_of 784 (by decide +kernel) rfl, by decide +kernel, rfl⟩
theorem lku_1_17_9 : LKU RX1 17 9 yX9_offends yX9_offends := ⟨by decide, gt_of 781 (by decide +kernel) rfl, gt_of 774 (by decide +kernel) rfl, gt_of 772 (by decide +kernel) rfl, ⟨_, _, _, gt_of (w := .code yX9_offends cX9_offends 2 (some (.int))) 793 (by decide +kernel) rfl⟩, gt_of 773 (by decide +kernel) rfl, gt_of 772 (by decide +kernel) rfl, by decide +kernel, rfl⟩
theorem lku_1_17_10 : LKU RX1 17 10 yX9_offends yX10_offends := ⟨by decide, gt_of 781 (by decide +kernel) rfl, gt_of 774 (by decide +kernel) rfl, gt_of 772 (by decide +kernel) rfl, ⟨_, _, _, gt_of (w := .code yX9_offends cX9_offends 2 (some (.int))) 793 (by decide +kernel) rfl⟩, gt_of 789 (by decide +kernel) rfl, gt_of 790 (by decide +kernel) rfl, by decide +kernel, rfl⟩
theorem lk_1_17 : LKV RX1 17 9 yX9_offends := ⟨by decide, gt_of 781 (by decide +kernel) rfl, gt_of 772 (by decide +kernel) rfl, gt_of 773 (by decide +kernel) rfl⟩
theorem lw_5_21 : Cond.methodLink RX5 21 ⟨"PutOut$Picture", "offends", "(I)I"⟩ ∈ gT := gt_of 786 (by decide +kernel) rfl
theorem lsu_10_17 : LKSU RX10 17 yX1_offends := ⟨gt_of 792 (by decide +kernel) rfl, gt_of 1622 (by decide +kernel) rfl, gt_of 633 (by decide +kernel) rfl, gt_of 779 (by decide +kernel) rfl, by decide +kernel⟩
theorem lku_9_75_0 : LKU RX9 75 0 yX9_missed yX0_missed := ⟨by decide, gt_of 794 (by decide +kernel) rfl, gt_of 797 (by decide +kernel) rfl, gt_of 795 (by decide +kernel) rfl, ⟨_, _, _, gt_of (w := .code yX9_missed cX9_missed 1 (some (.int))) 816 (by decide +kernel) rfl⟩, gt_of 798 (by decide +kernel) rfl, gt_of 799 (by decide +kernel) rfl, by decide +kernel, rfl⟩
theorem lku_9_75_1 : LKU RX9 75 1 yX9_missed yX1_missed := ⟨by decide, gt_of 794 (by decide +kernel) rfl, gt_of 797 (by decide +kernel) rfl, gt_of 795 (by decide +kernel) rfl, ⟨_, _, _, gt_of (w := .code yX9_missed cX9_missed 1 (some (.int))) 816 (by decide +kernel) rfl⟩, gt_of 801 (by decide +kernel) rfl, gt_of 802 (by decide +kernel) rfl, by decide +kernel, rfl⟩
theorem lku_9_75_3 : LKU RX9 75 3 yX9_missed yX9_missed := ⟨by decide, gt_of 794 (by decide +kernel) rfl, gt_of 797 (by decide +kernel) rfl, gt_of 795 (by decide +kernel) rfl, ⟨_, _, _, gt_of (w := .code yX9_missed cX9_missed 1 (some (.int))) 816 (by decide +kernel) rfl⟩, gt_of 805 (by decide +kernel) rfl, gt_of 795 (by decide +kernel) rfl, by decide +kernel, rfl⟩
theorem lku_9_75_5 : LKU RX9 75 5 yX9_missed yX5_missed := ⟨by decide, gt_of 794 (by decide +kernel) rfl, gt_of 797 (by decide +kernel) rfl, gt_of 795 (by decide +kernel) rfl, ⟨_, _, _, gt_of (w := .code yX9_missed cX9_missed 1 (some (.int))) 816 (by decide +kernel) rfl⟩, gt_of 806 (by decide +kernel) rfl, gt_of 807 (by decide +kernel) rfl, by decide +kernel, rfl⟩
theorem lku_9_75_9 : LKU RX9 75 9 yX9_missed yX9_missed := ⟨by decide, gt_of 794 (by decide +kernel) rfl, gt_of 797 (by decide +kernel) rfl, gt_of 795 (by decide +kernel) rfl, ⟨_, _, _, gt_of (w := .code yX9_missed cX9_missed 1 (some (.int))) 816 (by decide +kernel) rfl⟩, gt_of 796 (by decide +kernel) rfl, gt_of 795 (by decide +kernel) rfl, by decide +kernel, rfl⟩
theorem lku_9_75_10 : LKU RX9 75 10 yX9_missed yX10_missed := ⟨by decide, gt_of 794 (by decide +kernel) rfl, gt_of 797 (by decide +kernel) rfl, gt_of 795 (by decide +kernel) rfl, ⟨_, _, _, gt_of (w := .code yX9_missed cX9_missed 1 (some (.int))) 816 (by decide +kernel) rfl⟩, gt_of 812 (by decide +kernel) rfl, gt_of 813 (by decide +kernel) rfl, by decide +kernel, rfl⟩
theorem lk_9_75 : LKV RX9 75 9 yX9_missed := ⟨by decide, gt_of 794 (by decide +kernel) rfl, gt_of 795 (by decide +kernel) rfl, gt_of 796 (by decide +kernel) rfl⟩
theorem lsu_1_7 : LKSU RX1 7 yX9_missed := ⟨gt_of 804 (by decide +kernel) rfl, gt_of 797 (by decide +kernel) rfl, gt_of 593 (by decide +kernel) rfl, gt_of 795 (by decide +kernel) rfl, by decide +kernel⟩
theorem lku_1_7_0 : LKU RX1 7 0 yX9_missed yX0_missed := ⟨by decide, gt_of 804 (by decide +kernel) rfl, gt_of 797 (by decide +kernel) rfl, gt_of 795 (by decide +kernel) rfl, ⟨_, _, _, gt_of (w := .code yX9_missed cX9_missed 1 (some (.int))) 816 (by decide +kernel) rfl⟩, gt_of 798 (by decide +kernel) rfl, gt_of 799 (by decide +kernel) rfl, by decide +kernel, rfl⟩
theorem lku_1_7_1 : LKU RX1 7 1 yX9_missed yX1_missed := ⟨by decide, gt_of 804 (by decide +kernel) rfl, gt_of 797 (by decide +kernel) rfl, gt_of 795 (by decide +kernel) rfl, ⟨_, _, _, gt_of (w := .code yX9_missed cX9_missed 1 (some (.int))) 816 (by decide +kernel) rfl⟩, gt_of 801 (by decide +kernel) rfl, gt_of 802 (by decide +kernel) rfl, by decide +kernel, rfl⟩
theorem lku_1_7_3 : LKU RX1 7 3 yX9_missed yX9_missed := ⟨by decide, gt_of 804 (by decide +kernel) rfl, gt_of 797 (by decide +kernel) rfl, gt_of 795 (by decide +kernel) rfl, ⟨_, _, _, gt_of (w := .code yX9_missed cX9_missed 1 (some (.int))) 816 (by decide +kernel) rfl⟩, gt_of 805 (by decide +kernel) rfl, gt_of 795 (by decide +kernel) rfl, by decide +kernel, rfl⟩
theorem lku_1_7_5 : LKU RX1 7 5 yX9_missed yX5_missed := ⟨by decide, gt_of 804 (by decide +kernel) rfl, gt_of 797 (by decide +kernel) rfl, gt_of 795 (by decide +kernel) rfl, ⟨_, _, _, gt_of (w := .code yX9_missed cX9_missed 1 (some (.int))) 816 (by decide +kernel) rfl⟩, gt_of 806 (by decide +kernel) rfl, gt_of 807 (by decide +kernel) rfl, by decide +kernel, rfl⟩
theorem lku_1_7_9 : LKU RX1 7 9 yX9_missed yX9_missed := ⟨by decide, gt_of 804 (by decide +kernel) rfl, gt_of 797 (by decide +kernel) rfl, gt_of 795 (by decide +kernel) rfl, ⟨_, _, _, gt_of (w := .code yX9_missed cX9_missed 1 (some (.int))) 816 (by decide +kernel) rfl⟩, gt_of 796 (by decide +kernel) rfl, gt_of 795 (by decide +kernel) rfl, by decide +kernel, rfl⟩
theorem lku_1_7_10 : LKU RX1 7 10 yX9_missed yX10_missed := ⟨by decide, gt_of 804 (by decide +kernel) rfl, gt_of 797 (by decide +kernel) rfl, gt_of 795 (by decide +kernel) rfl, ⟨_, _, _, gt_of (w := .code yX9_missed cX9_missed 1 (some (.int))) 816 (by decide +kernel) rfl⟩, gt_of 812 (by decide +kernel) rfl, gt_of 813 (by decide +kernel) rfl, by decide +kernel, rfl⟩
theorem lk_1_7 : LKV RX1 7 9 yX9_missed := ⟨by decide, gt_of 804 (by decide +kernel) rfl, gt_of 795 (by decide +kernel) rfl, gt_of 796 (by decide +kernel) rfl⟩
theorem lw_5_11 : Cond.methodLink RX5 11 ⟨"PutOut$Picture", "missed", "()I"⟩ ∈ gT := gt_of 809 (by decide +kernel) rfl
theorem lsu_10_7 : LKSU RX10 7 yX1_missed := ⟨gt_of 815 (by decide +kernel) rfl, gt_of 1623 (by decide +kernel) rfl, gt_of 633 (by decide +kernel) rfl, gt_of 802 (by decide +kernel) rfl, by decide +kernel⟩
theorem lk_4_74 : LKV RX4 74 4 yX4_enterNow := ⟨by decide, gt_of 817 (by decide +kernel) rfl, gt_of 819 (by decide +kernel) rfl, gt_of 21 (by decide +kernel) rfl⟩
theorem lk_11_152 : LKV RX11 152 4 yX4_badDay := ⟨by decide, gt_of 821 (by decide +kernel) rfl, gt_of 822 (by decide +kernel) rfl, gt_of 823 (by decide +kernel) rfl⟩
theorem lku_4_96_0 : LKU RX4 96 0 yX9_bad yX9_bad := ⟨by decide, gt_of 825 (by decide +kernel) rfl, gt_of 828 (by decide +kernel) rfl, gt_of 826 (by decide +kernel) rfl, ⟨_, _, _, gt_of (w := .code yX9_bad cX9_bad 4 (some (.int))) 834 (by decide +kernel) rfl⟩, gt_of 829 (by decide +kernel) rfl, gt_of 826 (by decide +kernel) rfl, by decide +kernel, rfl⟩
theorem lku_4_96_1 : LKU RX4 96 1 yX9_bad yX9_bad := ⟨by decide, gt_of 825 (by decide +kernel) rfl, gt_of 828 (by decide +kernel) rfl, gt_of 826 (by decide +kernel) rfl, ⟨_, _, _, gt_of (w := .code yX9_bad cX9_bad 4 (some (.int))) 834 (by decide +kernel) rfl⟩, gt_of 830 (by decide +kernel) rfl, gt_of 826 (by decide +kernel) rfl, by decide +kernel, rfl⟩
theorem lku_4_96_3 : LKU RX4 96 3 yX9_bad yX9_bad := ⟨by decide, gt_of 825 (by decide +kernel) rfl, gt_of 828 (by decide +kernel) rfl, gt_of 826 (by decide +kernel) rfl, ⟨_, _, _, gt_of (w := .code yX9_bad cX9_bad 4 (some (.int))) 834 (by decide +kernel) rfl⟩, gt_of 831 (by decide +kernel) rfl, gt_of 826 (by decide +kernel) rfl, by decide +kernel, rfl⟩
theorem lku_4_96_5 : LKU RX4 96 5 yX9_bad yX9_bad := ⟨by decide, gt_of 825 (by decide +kernel) rfl, gt_of 828 (by decide +kernel) rfl, gt_of 826 (by decide +kernel) rfl, ⟨_, _, _, gt_of (w := .code yX9_bad cX9_bad 4 (some (.int))) 834 (by decide +kernel) rfl⟩, gt_of 832 (by decide +kernel) rfl, gt_of 826 (by decide +kernel) rfl, by decide +kernel, rfl⟩
theorem lku_4_96_9 : LKU RX4 96 9 yX9_bad yX9_bad := ⟨by decide, gt_of 825 (by decide +kernel) rfl, gt_of 828 (by decide +kernel) rfl, gt_of 826 (by decide +kernel) rfl, ⟨_, _, _, gt_of (w := .code yX9_bad cX9_bad 4 (some (.int))) 834 (by decide +kernel) rfl⟩, gt_of 827 (by decide +kernel) rfl, gt_of 826 (by decide +kernel) rfl, by decide +kernel, rfl⟩
theorem lku_4_96_10 : LKU RX4 96 10 yX9_bad yX9_bad := ⟨by decide, gt_of 825 (by decide +kernel) rfl, gt_of 828 (by decide +kernel) rfl, gt_of 826 (by decide +kernel) rfl, ⟨_, _, _, gt_of (w := .code yX9_bad cX9_bad 4 (some (.int))) 834 (by decide +kernel) rfl⟩, gt_of 833 (by decide +kernel) rfl, gt_of 826 (by decide +kernel) rfl, by decide +kernel, rfl⟩
theorem lk_4_96 : LKV RX4 96 9 yX9_bad := ⟨by decide, gt_of 825 (by decide +kernel) rfl, gt_of 826 (by decide +kernel) rfl, gt_of 827 (by decide +kernel) rfl⟩
theorem lku_9_93_0 : LKU RX9 93 0 yX9_harm yX9_harm := ⟨by decide, gt_of 835 (by decide +kernel) rfl, gt_of 838 (by decide +kernel) rfl, gt_of 836 (by decide +kernel) rfl, ⟨_, _, _, gt_of (w := .code yX9_harm cX9_harm 4 (some (.int))) 844 (by decide +kernel) rfl⟩, gt_of 839 (by decide +kernel) rfl, gt_of 836 (by decide +kernel) rfl, by decide +kernel, rfl⟩
theorem lku_9_93_1 : LKU RX9 93 1 yX9_harm yX9_harm := ⟨by decide, gt_of 835 (by decide +kernel) rfl, gt_of 838 (by decide +kernel) rfl, gt_of 836 (by decide +kernel) rfl, ⟨_, _, _, gt_of (w := .code yX9_harm cX9_harm 4 (some (.int))) 844 (by decide +kernel) rfl⟩, gt_of 840 (by decide +kernel) rfl, gt_of 836 (by decide +kernel) rfl, by decide +kernel, rfl⟩
theorem lku_9_93_3 : LKU RX9 93 3 yX9_harm yX9_harm := ⟨by decide, gt_of 835 (by decide +kernel) rfl, gt_of 838 (by decide +kernel) rfl, gt_of 836 (by decide +kernel) rfl, ⟨_, _, _, gt_of (w := .code yX9_harm cX9_harm 4 (some (.int))) 844 (by decide +kernel) rfl⟩, gt_of 841 (by decide +kernel) rfl, gt_of 836 (by decide +kernel) rfl, by decide +kernel, rfl⟩
theorem lku_9_93_5 : LKU RX9 93 5 yX9_harm yX9_harm := ⟨by decide, gt_of 835 (by decide +kernel) rfl, gt_of 838 (by decide +kernel) rfl, gt_of 836 (by decide +kernel) rfl, ⟨_, _, _, gt_of (w := .code yX9_harm cX9_harm 4 (some (.int))) 844 (by decide +kernel) rfl⟩, gt_of 842 (by decide +kernel) rfl, gt_of 836 (by decide +kernel) rfl, by decide +kernel, rfl⟩
theorem lku_9_93_9 : LKU RX9 93 9 yX9_harm yX9_harm := ⟨by decide, gt_of 835 (by decide +kernel) rfl, gt_of 838 (by decide +kernel) rfl, gt_of 836 (by decide +kernel) rfl, ⟨_, _, _, gt_of (w := .code yX9_harm cX9_harm 4 (some (.int))) 844 (by decide +kernel) rfl⟩, gt_of 837 (by decide +kernel) rfl, gt_of 836 (by decide +kernel) rfl, by decide +kernel, rfl⟩
theorem lku_9_93_10 : LKU RX9 93 10 yX9_harm yX9_harm := ⟨by decide, gt_of 835 (by decide +kernel) rfl, gt_of 838 (by decide +kernel) rfl, gt_of 836 (by decide +kernel) rfl, ⟨_, _, _, gt_of (w := .code yX9_harm cX9_harm 4 (some (.int))) 844 (by decide +kernel) rfl⟩, gt_of 843 (by decide +kernel) rfl, gt_of 836 (by decide +kernel) rfl, by decide +kernel, rfl⟩
theorem lk_9_93 : LKV RX9 93 9 yX9_harm := ⟨by decide, gt_of 835 (by decide +kernel) rfl, gt_of 836 (by decide +kernel) rfl, gt_of 837 (by decide +kernel) rfl⟩
theorem lku_9_85_0 : LKU RX9 85 0 yX9_isMissed yX9_isMissed := ⟨by decide, gt_of 845 (by decide +kernel) rfl, gt_of 848 (by decide +kernel) rfl, gt_of 846 (by decide +kernel) rfl, ⟨_, _, _, gt_of (w := .code yX9_isMissed cX9_isMissed 3 (some (.boolean))) 854 (by decide +kernel) rfl⟩, gt_of 849 (by decide +kernel) rfl, gt_of 846 (by decide +kernel) rfl, by decide +kernel, rfl⟩
theorem lku_9_85_1 : LKU RX9 85 1 yX9_isMissed yX9_isMissed := ⟨by decide, gt_of 845 (by decide +kernel) rfl, gt_of 848 (by decide +kernel) rfl, gt_of 846 (by decide +kernel) rfl, ⟨_, _, _, gt_of (w := .code yX9_isMissed cX9_isMissed 3 (some (.boolean))) 854 (by decide +kernel) rfl⟩, gt_of 850 (by decide +kernel) rfl, gt_of 846 (by decide +kernel) rfl, by decide +kernel, rfl⟩
theorem lku_9_85_3 : LKU RX9 85 3 yX9_isMissed yX9_isMissed := ⟨by decide, gt_of 845 (by decide +kernel) rfl, gt_of 848 (by decide +kernel) rfl, gt_of 846 (by decide +kernel) rfl, ⟨_, _, _, gt_of (w := .code yX9_isMissed cX9_isMissed 3 (some (.boolean))) 854 (by decide +kernel) rfl⟩, gt_of 851 (by decide +kernel) rfl, gt_of 846 (by decide +kernel) rfl, by decide +kernel, rfl⟩
theorem lku_9_85_5 : LKU RX9 85 5 yX9_isMissed yX9_isMissed := ⟨by decide, gt_of 845 (by decide +kernel) rfl, gt_of 848 (by decide +kernel) rfl, gt_of 846 (by decide +kernel) rfl, ⟨_, _, _, gt_of (w := .code yX9_isMissed cX9_isMissed 3 (some (.boolean))) 854 (by decide +kernel) rfl⟩, gt_of 852 (by decide +kernel) rfl, gt_of 846 (by decide +kernel) rfl, by decide +kernel, rfl⟩
theorem lku_9_85_9 : LKU RX9 85 9 yX9_isMissed yX9_isMissed := ⟨by decide, gt_of 845 (by decide +kernel) rfl, gt_of 848 (by decide +kernel) rfl, gt_of 846 (by decide +kernel) rfl, ⟨_, _, _, gt_of (w := .code yX9_isMissed cX9_isMissed 3 (some (.boolean))) 854 (by decide +kernel) rfl⟩, gt_of 847 (by decide +kernel) rfl, gt_of 846 (by decide +kernel) rfl, by decide +kernel, rfl⟩
theorem lku_9_85_10 : LKU RX9 85 10 yX9_isMissed yX9_isMissed := ⟨by decide, gt_of 845 (by decide +kernel) rfl, gt_of 848 (by decide +kernel) rfl, gt_of 846 (by decide +kernel) rfl, ⟨_, _, _, gt_of (w := .code yX9_isMissed cX9_isMissed 3 (some (.boolean))) 854 (by decide +kernel) rfl⟩, gt_of 853 (by decide +kernel) rfl, gt_of 846 (by decide +kernel) rfl, by decide +kernel, rfl⟩
theorem lk_9_85 : LKV RX9 85 9 yX9_isMissed := ⟨by decide, gt_of 845 (by decide +kernel) rfl, gt_of 846 (by decide +kernel) rfl, gt_of 847 (by decide +kernel) rfl⟩
theorem lk_9_88 : LKS RX9 88 yJ6_bitCount_0f7a4 := ⟨gt_of 855 (by decide +kernel) rfl, gt_of 856 (by decide +kernel) rfl⟩
theorem lk_11_156 : LKV RX11 156 4 yX4_thingsThat := ⟨by decide, gt_of 861 (by decide +kernel) rfl, gt_of 862 (by decide +kernel) rfl, gt_of 863 (by decide +kernel) rfl⟩
theorem lku_4_100_0 : LKU RX4 100 0 yX9_isMissed yX9_isMissed := ⟨by decide, gt_of 865 (by decide +kernel) rfl, gt_of 848 (by decide +kernel) rfl, gt_of 846 (by decide +kernel) rfl, ⟨_, _, _, gt_of (w := .code yX9_isMissed cX9_isMissed 3 (some (.boolean))) 854 (by decide +kernel) rfl⟩, gt_of 849 (by decide +kernel) rfl, gt_of 846 (by decide +kernel) rfl, by decide +kernel, rfl⟩
theorem lku_4_100_1 : LKU RX4 100 1 yX9_isMissed yX9_isMissed := ⟨by decide, gt_of 865 (by decide +kernel) rfl, gt_of 848 (by decide +kernel) rfl, gt_of 846 (by decide +kernel) rfl, ⟨_, _, _, gt_of (w := .code yX9_isMissed cX9_isMissed 3 (some (.boolean))) 854 (by decide +kernel) rfl⟩, gt_of 850 (by decide +kernel) rfl, gt_of 846 (by decide +kernel) rfl, by decide +kernel, rfl⟩
theorem lku_4_100_3 : LKU RX4 100 3 yX9_isMissed yX9_isMissed := ⟨by decide, gt_of 865 (by decide +kernel) rfl, gt_of 848 (by decide +kernel) rfl, gt_of 846 (by decide +kernel) rfl, ⟨_, _, _, gt_of (w := .code yX9_isMissed cX9_isMissed 3 (some (.boolean))) 854 (by decide +kernel) rfl⟩, gt_of 851 (by decide +kernel) rfl, gt_of 846 (by decide +kernel) rfl, by decide +kernel, rfl⟩
theorem lku_4_100_5 : LKU RX4 100 5 yX9_isMissed yX9_isMissed := ⟨by decide, gt_of 865 (by decide +kernel) rfl, gt_of 848 (by decide +kernel) rfl, gt_of 846 (by decide +kernel) rfl, ⟨_, _, _, gt_of (w := .code yX9_isMissed cX9_isMissed 3 (some (.boolean))) 854 (by decide +kernel) rfl⟩, gt_of 852 (by decide +kernel) rfl, gt_of 846 (by decide +kernel) rfl, by decide +kernel, rfl⟩
theorem lku_4_100_9 : LKU RX4 100 9 yX9_isMissed yX9_isMissed := ⟨by decide, gt_of 865 (by decide +kernel) rfl, gt_of 848 (by decide +kernel) rfl, gt_of 846 (by decide +kernel) rfl, ⟨_, _, _, gt_of (w := .code yX9_isMissed cX9_isMissed 3 (some (.boolean))) 854 (by decide +kernel) rfl⟩, gt_of 847 (by decide +kernel) rfl, gt_of 846 (by decide +kernel) rfl, by decide +kernel, rfl⟩
theorem lku_4_100_10 : LKU RX4 100 10 yX9_isMissed yX9_isMissed := ⟨by decide, gt_of 865 (by decide +kernel) rfl, gt_of 848 (by decide +kernel) rfl, gt_of 846 (by decide +kernel) rfl, ⟨_, _, _, gt_of (w := .code yX9_isMissed cX9_isMissed 3 (some (.boolean))) 854 (by decide +kernel) rfl⟩, gt_of 853 (by decide +kernel) rfl, gt_of 846 (by decide +kernel) rfl, by decide +kernel, rfl⟩
theorem lk_4_100 : LKV RX4 100 9 yX9_isMissed := ⟨by decide, gt_of 865 (by decide +kernel) rfl, gt_of 846 (by decide +kernel) rfl, gt_of 847 (by decide +kernel) rfl⟩
theorem lku_4_103_0 : LKU RX4 103 0 yX9_isOffending yX9_isOffending := ⟨by decide, gt_of 866 (by decide +kernel) rfl, gt_of 869 (by decide +kernel) rfl, gt_of 867 (by decide +kernel) rfl, ⟨_, _, _, gt_of (w := .code yX9_isOffending cX9_isOffending 3 (some (.boolean))) 875 (by decide +kernel) rfl⟩, gt_of 870 (by decide +kernel) rfl, gt_of 867 (by decide +kernel) rfl, by decide +kernel, rfl⟩
theorem lku_4_103_1 : LKU RX4 103 1 yX9_isOffending yX9_isOffending := ⟨by decide, gt_of 866 (by decide +kernel) rfl, gt_of 869 (by decide +kernel) rfl, gt_of 867 (by decide +kernel) rfl, ⟨_, _, _, gt_of (w := .code yX9_isOffending cX9_isOffending 3 (some (.boolean))) 875 (by decide +kernel) rfl⟩, gt_of 871 (by decide +kernel) rfl, gt_of 867 (by decide +kernel) rfl, by decide +kernel, rfl⟩
theorem lku_4_103_3 : LKU RX4 103 3 yX9_isOffending yX9_isOffending := ⟨by decide, gt_of 866 (by decide +kernel) rfl, gt_of 869 (by decide +kernel) rfl, gt_of 867 (by decide +kernel) rfl, ⟨_, _, _, gt_of (w := .code yX9_isOffending cX9_isOffending 3 (some (.boolean))) 875 (by decide +kernel) rfl⟩, gt_of 872 (by decide +kernel) rfl, gt_of 867 (by decide +kernel) rfl, by decide +kernel, rfl⟩
theorem lku_4_103_5 : LKU RX4 103 5 yX9_isOffending yX9_isOffending := ⟨by decide, gt_of 866 (by decide +kernel) rfl, gt_of 869 (by decide +kernel) rfl, gt_of 867 (by decide +kernel) rfl, ⟨_, _, _, gt_of (w := .code yX9_isOffending cX9_isOffending 3 (some (.boolean))) 875 (by decide +kernel) rfl⟩, gt_of 873 (by decide +kernel) rfl, gt_of 867 (by decide +kernel) rfl, by decide +kernel, rfl⟩
theorem lku_4_103_9 : LKU RX4 103 9 yX9_isOffending yX9_isOffending := ⟨by decide, gt_of 866 (by decide +kernel) rfl, gt_of 869 (by decide +kernel) rfl, gt_of 867 (by decide +kernel) rfl, ⟨_, _, _, gt_of (w := .code yX9_isOffending cX9_isOffending 3 (some (.boolean))) 875 (by decide +kernel) rfl⟩, gt_of 868 (by decide +kernel) rfl, gt_of 867 (by decide +kernel) rfl, by decide +kernel, rfl⟩
theorem lku_4_103_10 : LKU RX4 103 10 yX9_isOffending yX9_isOffending := ⟨by decide, gt_of 866 (by decide +kernel) rfl, gt_of 869 (by decide +kernel) rfl, gt_of 867 (by decide +kernel) rfl, ⟨_, _, _, gt_of (w := .code yX9_isOffending cX9_isOffending 3 (some (.boolean))) 875 (by decide +kernel) rfl⟩, gt_of 874 (by decide +kernel) rfl, gt_of 867 (by decide +kernel) rfl, by decide +kernel, rfl⟩
theorem lk_4_103 : LKV RX4 103 9 yX9_isOffending := ⟨by decide, gt_of 866 (by decide +kernel) rfl, gt_of 867 (by decide +kernel) rfl, gt_of 868 (by decide +kernel) rfl⟩
theorem lku_4_106_0 : LKU RX4 106 0 yX9_harm yX9_harm := ⟨by decide, gt_of 876 (by decide +kernel) rfl, gt_of 838 (by decide +kernel) rfl, gt_of 836 (by decide +kernel) rfl, ⟨_, _, _, gt_of (w := .code yX9_harm cX9_harm 4 (some (.int))) 844 (by decide +kernel) rfl⟩, gt_of 839 (by decide +kernel) rfl, gt_of 836 (by decide +kernel) rfl, by decide +kernel, rfl⟩
theorem lku_4_106_1 : LKU RX4 106 1 yX9_harm yX9_harm := ⟨by decide, gt_of 876 (by decide +kernel) rfl, gt_of 838 (by decide +kernel) rfl, gt_of 836 (by decide +kernel) rfl, ⟨_, _, _, gt_of (w := .code yX9_harm cX9_harm 4 (some (.int))) 844 (by decide +kernel) rfl⟩, gt_of 840 (by decide +kernel) rfl, gt_of 836 (by decide +kernel) rfl, by decide +kernel, rfl⟩
theorem lku_4_106_3 : LKU RX4 106 3 yX9_harm yX9_harm := ⟨by decide, gt_of 876 (by decide +kernel) rfl, gt_of 838 (by decide +kernel) rfl, gt_of 836 (by decide +kernel) rfl, ⟨_, _, _, gt_of (w := .code yX9_harm cX9_harm 4 (some (.int))) 844 (by decide +kernel) rfl⟩, gt_of 841 (by decide +kernel) rfl, gt_of 836 (by decide +kernel) rfl, by decide +kernel, rfl⟩
theorem lku_4_106_5 : LKU RX4 106 5 yX9_harm yX9_harm := ⟨by decide, gt_of 876 (by decide +kernel) rfl, gt_of 838 (by decide +kernel) rfl, gt_of 836 (by decide +kernel) rfl, ⟨_, _, _, gt_of (w := .code yX9_harm cX9_harm 4 (some (.int))) 844 (by decide +kernel) rfl⟩, gt_of 842 (by decide +kernel) rfl, gt_of 836 (by decide +kernel) rfl, by decide +kernel, rfl⟩
theorem lku_4_106_9 : LKU RX4 106 9 yX9_harm yX9_harm := ⟨by decide, gt_of 876 (by decide +kernel) rfl, gt_of 838 (by decide +kernel) rfl, gt_of 836 (by decide +kernel) rfl, ⟨_, _, _, gt_of (w := .code yX9_harm cX9_harm 4 (some (.int))) 844 (by decide +kernel) rfl⟩, gt_of 837 (by decide +kernel) rfl, gt_of 836 (by decide +kernel) rfl, by decide +kernel, rfl⟩
theorem lku_4_106_10 : LKU RX4 106 10 yX9_harm yX9_harm := ⟨by decide, gt_of 876 (by decide +kernel) rfl, gt_of 838 (by decide +kernel) rfl, gt_of 836 (by decide +kernel) rfl, ⟨_, _, _, gt_of (w := .code yX9_harm cX9_harm 4 (some (.int))) 844 (by decide +kernel) rfl⟩, gt_of 843 (by decide +kernel) rfl, gt_of 836 (by decide +kernel) rfl, by decide +kernel, rfl⟩
theorem lk_4_106 : LKV RX4 106 9 yX9_harm := ⟨by decide, gt_of 876 (by decide +kernel) rfl, gt_of 836 (by decide +kernel) rfl, gt_of 837 (by decide +kernel) rfl⟩
theorem lk_L_49 : LKV RL 49 11 yX11_best := ⟨by decide, gt_of 877 (by decide +kernel) rfl, gt_of 878 (by decide +kernel) rfl, gt_of 879 (by decide +kernel) rfl⟩
theorem lk_11_159 : LKV RX11 159 4 yX4_bestFor := ⟨by decide, gt_of 881 (by decide +kernel) rfl, gt_of 882 (by decide +kernel) rfl, gt_of 883 (by decide +kernel) rfl⟩
theorem lk_4_113 : LKV RX4 113 4 yX4_priceNothing := ⟨by decide, gt_of 885 (by decide +kernel) rfl, gt_of 887 (by decide +kernel) rfl, gt_of 22 (by decide +kernel) rfl⟩
theorem lku_4_140_0 : LKU RX4 140 0 yX9_priceNothing yX9_priceNothing := ⟨by decide, gt_of 889 (by decide +kernel) rfl, gt_of 892 (by decide +kernel) rfl, gt_of 890 (by decide +kernel) rfl, ⟨_, _, _, gt_of (w := .code yX9_priceNothing cX9_priceNothing 3 (none)) 898 (by decide +kernel) rfl⟩, gt_of 893 (by decide +kernel) rfl, gt_of 890 (by decide +kernel) rfl, by decide +kernel, rfl⟩
theorem lku_4_140_1 : LKU RX4 140 1 yX9_priceNothing yX9_priceNothing := ⟨by decide, gt_of 889 (by decide +kernel) rfl, gt_of 892 (by decide +kernel) rfl, gt_of 890 (by decide +kernel) rfl, ⟨_, _, _, gt_of (w := .code yX9_priceNothing cX9_priceNothing 3 (none)) 898 (by decide +kernel) rfl⟩, gt_of 894 (by decide +kernel) rfl, gt_of 890 (by decide +kernel) rfl, by decide +kernel, rfl⟩
theorem lku_4_140_3 : LKU RX4 140 3 yX9_priceNothing yX9_priceNothing := ⟨by decide, gt_of 889 (by decide +kernel) rfl, gt_of 892 (by decide +kernel) rfl, gt_of 890 (by decide +kernel) rfl, ⟨_, _, _, gt_of (w := .code yX9_priceNothing cX9_priceNothing 3 (none)) 898 (by decide +kernel) rfl⟩, gt_of 895 (by decide +kernel) rfl, gt_of 890 (by decide +kernel) rfl, by decide +kernel, rfl⟩
theorem lku_4_140_5 : LKU RX4 140 5 yX9_priceNothing yX9_priceNothing := ⟨by decide, gt_of 889 (by decide +kernel) rfl, gt_of 892 (by decide +kernel) rfl, gt_of 890 (by decide +kernel) rfl, ⟨_, _, _, gt_of (w := .code yX9_priceNothing cX9_priceNothing 3 (none)) 898 (by decide +kernel) rfl⟩, gt_of 896 (by decide +kernel) rfl, gt_of 890 (by decide +kernel) rfl, by decide +kernel, rfl⟩
theorem lku_4_140_9 : LKU RX4 140 9 yX9_priceNothing yX9_priceNothing := ⟨by decide, gt_of 889 (by decide +kernel) rfl, gt_of 892 (by decide +kernel) rfl, gt_of 890 (by decide +kernel) rfl, ⟨_, _, _, gt_of (w := .code yX9_priceNothing cX9_priceNothing 3 (none)) 898 (by decide +kernel) rfl⟩, gt_of 891 (by decide +kernel) rfl, gt_of 890 (by decide +kernel) rfl, by decide +kernel, rfl⟩
theorem lku_4_140_10 : LKU RX4 140 10 yX9_priceNothing yX9_priceNothing := ⟨by decide, gt_of 889 (by decide +kernel) rfl, gt_of 892 (by decide +kernel) rfl, gt_of 890 (by decide +kernel) rfl, ⟨_, _, _, gt_of (w := .code yX9_priceNothing cX9_priceNothing 3 (none)) 898 (by decide +kernel) rfl⟩, gt_of 897 (by decide +kernel) rfl, gt_of 890 (by decide +kernel) rfl, by decide +kernel, rfl⟩
theorem lk_4_140 : LKV RX4 140 9 yX9_priceNothing := ⟨by decide, gt_of 889 (by decide +kernel) rfl, gt_of 890 (by decide +kernel) rfl, gt_of 891 (by decide +kernel) rfl⟩
theorem lk_4_126 : LKV RX4 126 4 yX4_priceMoves := ⟨by decide, gt_of 899 (by decide +kernel) rfl, gt_of 901 (by decide +kernel) rfl, gt_of 23 (by decide +kernel) rfl⟩
theorem lku_4_143_0 : LKU RX4 143 0 yX9_priceMoves yX9_priceMoves := ⟨by decide, gt_of 903 (by decide +kernel) rfl, gt_of 906 (by decide +kernel) rfl, gt_of 904 (by decide +kernel) rfl, ⟨_, _, _, gt_of (w := .code yX9_priceMoves cX9_priceMoves 3 (none)) 912 (by decide +kernel) rfl⟩, gt_of 907 (by decide +kernel) rfl, gt_of 904 (by decide +kernel) rfl, by decide +kernel, rfl⟩
theorem lku_4_143_1 : LKU RX4 143 1 yX9_priceMoves yX9_priceMoves := ⟨by decide, gt_of 903 (by decide +kernel) rfl, gt_of 906 (by decide +kernel) rfl, gt_of 904 (by decide +kernel) rfl, ⟨_, _, _, gt_of (w := .code yX9_priceMoves cX9_priceMoves 3 (none)) 912 (by decide +kernel) rfl⟩, gt_of 908 (by decide +kernel) rfl, gt_of 904 (by decide +kernel) rfl, by decide +kernel, rfl⟩
theorem lku_4_143_3 : LKU RX4 143 3 yX9_priceMoves yX9_priceMoves := ⟨by decide, gt_of 903 (by decide +kernel) rfl, gt_of 906 (by decide +kernel) rfl, gt_of 904 (by decide +kernel) rfl, ⟨_, _, _, gt_of (w := .code yX9_priceMoves cX9_priceMoves 3 (none)) 912 (by decide +kernel) rfl⟩, gt_of 909 (by decide +kernel) rfl, gt_of 904 (by decide +kernel) rfl, by decide +kernel, rfl⟩
theorem lku_4_143_5 : LKU RX4 143 5 yX9_priceMoves yX9_priceMoves := ⟨by decide, gt_of 903 (by decide +kernel) rfl, gt_of 906 (by decide +kernel) rfl, gt_of 904 (by decide +kernel) rfl, ⟨_, _, _, gt_of (w := .code yX9_priceMoves cX9_priceMoves 3 (none)) 912 (by decide +kernel) rfl⟩, gt_of 910 (by decide +kernel) rfl, gt_of 904 (by decide +kernel) rfl, by decide +kernel, rfl⟩
theorem lku_4_143_9 : LKU RX4 143 9 yX9_priceMoves yX9_priceMoves := ⟨by decide, gt_of 903 (by decide +kernel) rfl, gt_of 906 (by decide +kernel) rfl, gt_of 904 (by decide +kernel) rfl, ⟨_, _, _, gt_of (w := .code yX9_priceMoves cX9_priceMoves 3 (none)) 912 (by decide +kernel) rfl⟩, gt_of 905 (by decide +kernel) rfl, gt_of 904 (by decide +kernel) rfl, by decide +kernel, rfl⟩
theorem lku_4_143_10 : LKU RX4 143 10 yX9_priceMoves yX9_priceMoves := ⟨by decide, gt_of 903 (by decide +kernel) rfl, gt_of 906 (by decide +kernel) rfl, gt_of 904 (by decide +kernel) rfl, ⟨_, _, _, gt_of (w := .code yX9_priceMoves cX9_priceMoves 3 (none)) 912 (by decide +kernel) rfl⟩, gt_of 911 (by decide +kernel) rfl, gt_of 904 (by decide +kernel) rfl, by decide +kernel, rfl⟩
theorem lk_4_143 : LKV RX4 143 9 yX9_priceMoves := ⟨by decide, gt_of 903 (by decide +kernel) rfl, gt_of 904 (by decide +kernel) rfl, gt_of 905 (by decide +kernel) rfl⟩
theorem lk_4_116 : LKV RX4 116 4 yX4_priceDay := ⟨by decide, gt_of 913 (by decide +kernel) rfl, gt_of 915 (by decide +kernel) rfl, gt_of 24 (by decide +kernel) rfl⟩
theorem lku_4_145_0 : LKU RX4 145 0 yX9_priceDay yX9_priceDay := ⟨by decide, gt_of 917 (by decide +kernel) rfl, gt_of 920 (by decide +kernel) rfl, gt_of 918 (by decide +kernel) rfl, ⟨_, _, _, gt_of (w := .code yX9_priceDay cX9_priceDay 4 (none)) 926 (by decide +kernel) rfl⟩, gt_of 921 (by decide +kernel) rfl, gt_of 918 (by decide +kernel) rfl, by decide +kernel, rfl⟩
theorem lku_4_145_1 : LKU RX4 145 1 yX9_priceDay yX9_priceDay := ⟨by decide, gt_of 917 (by decide +kernel) rfl, gt_of 920 (by decide +kernel) rfl, gt_of 918 (by decide +kernel) rfl, ⟨_, _, _, gt_of (w := .code yX9_priceDay cX9_priceDay 4 (none)) 926 (by decide +kernel) rfl⟩, gt_of 922 (by decide +kernel) rfl, gt_of 918 (by decide +kernel) rfl, by decide +kernel, rfl⟩
theorem lku_4_145_3 : LKU RX4 145 3 yX9_priceDay yX9_priceDay := ⟨by decide, gt_of 917 (by decide +kernel) rfl, gt_of 920 (by decide +kernel) rfl, gt_of 918 (by decide +kernel) rfl, ⟨_, _, _, gt_of (w := .code yX9_priceDay cX9_priceDay 4 (none)) 926 (by decide +kernel) rfl⟩, gt_of 923 (by decide +kernel) rfl, gt_of 918 (by decide +kernel) rfl, by decide +kernel, rfl⟩
theorem lku_4_145_5 : LKU RX4 145 5 yX9_priceDay yX9_priceDay := ⟨by decide, gt_of 917 (by decide +kernel) rfl, gt_of 920 (by decide +kernel) rfl, gt_of 918 (by decide +kernel) rfl, ⟨_, _, _, gt_of (w := .code yX9_priceDay cX9_priceDay 4 (none)) 926 (by decide +kernel) rfl⟩, gt_of 924 (by decide +kernel) rfl, gt_of 918 (by decide +kernel) rfl, by decide +kernel, rfl⟩
theorem lku_4_145_9 : LKU RX4 145 9 yX9_priceDay yX9_priceDay := ⟨by decide, gt_of 917 (by decide +kernel) rfl, gt_of 920 (by decide +kernel) rfl, gt_of 918 (by decide +kernel) rfl, ⟨_, _, _, gt_of (w := .code yX9_priceDay cX9_priceDay 4 (none)) 926 (by decide +kernel) rfl⟩, gt_of 919 (by decide +kernel) rfl, gt_of 918 (by decide +kernel) rfl, by decide +kernel, rfl⟩
theorem lku_4_145_10 : LKU RX4 145 10 yX9_priceDay yX9_priceDay := ⟨by decide, gt_of 917 (by decide +kernel) rfl, gt_of 920 (by decide +kernel) rfl, gt_of 918 (by decide +kernel) rfl, ⟨_, _, _, gt_of (w := .code yX9_priceDay cX9_priceDay 4 (none)) 926 (by decide +kernel) rfl⟩, gt_of 925 (by decide +kernel) rfl, gt_of 918 (by decide +kernel) rfl, by decide +kernel, rfl⟩
theorem lk_4_145 : LKV RX4 145 9 yX9_priceDay := ⟨by decide, gt_of 917 (by decide +kernel) rfl, gt_of 918 (by decide +kernel) rfl, gt_of 919 (by decide +kernel) rfl⟩
theorem lk_4_123 : LKV RX4 123 4 yX4_search := ⟨by decide, gt_of 927 (by decide +kernel) rfl, gt_of 929 (by decide +kernel) rfl, gt_of 25 (by decide +kernel) rfl⟩
theorem lk_4_148 : LKS RX4 148 yJ7_fill_53178 := ⟨gt_of 931 (by decide +kernel) rfl, gt_of 108 (by decide +kernel) rfl⟩
theorem lk_4_154 : LKV RX4 154 4 yX4_fillLeast := ⟨by decide, gt_of 932 (by decide +kernel) rfl, gt_of 934 (by decide +kernel) rfl, gt_of 26 (by decide +kernel) rfl⟩
theorem lk_4_162 : LKS RX4 162 yJ6_bitCount_0f7a4 := ⟨gt_of 936 (by decide +kernel) rfl, gt_of 856 (by decide +kernel) rfl⟩
theorem lk_4_168 : LKV RX4 168 4 yX4_costFrom := ⟨by decide, gt_of 938 (by decide +kernel) rfl, gt_of 940 (by decide +kernel) rfl, gt_of 27 (by decide +kernel) rfl⟩
theorem lk_4_88 : LKS RX4 88 yX4_bitOf := ⟨gt_of 942 (by decide +kernel) rfl, gt_of 943 (by decide +kernel) rfl⟩
theorem lk_4_172 : LKS RX4 172 yJ9_min_7cf53 := ⟨gt_of 945 (by decide +kernel) rfl, gt_of 474 (by decide +kernel) rfl⟩
theorem lk_4_158 : LKV RX4 158 4 yX4_follow := ⟨by decide, gt_of 946 (by decide +kernel) rfl, gt_of 948 (by decide +kernel) rfl, gt_of 28 (by decide +kernel) rfl⟩
theorem lk_L_53 : LKV RL 53 11 yX11_tidy := ⟨by decide, gt_of 950 (by decide +kernel) rfl, gt_of 951 (by decide +kernel) rfl, gt_of 952 (by decide +kernel) rfl⟩
theorem lk_L_57 : LKV RL 57 11 yX11_once := ⟨by decide, gt_of 954 (by decide +kernel) rfl, gt_of 955 (by decide +kernel) rfl, gt_of 956 (by decide +kernel) rfl⟩
theorem lk_11_165 : LKV RX11 165 4 yX4_onceCost := ⟨by decide, gt_of 958 (by decide +kernel) rfl, gt_of 959 (by decide +kernel) rfl, gt_of 960 (by decide +kernel) rfl⟩
theorem lk_L_61 : LKV RL 61 11 yX11_week := ⟨by decide, gt_of 962 (by decide +kernel) rfl, gt_of 963 (by decide +kernel) rfl, gt_of 964 (by decide +kernel) rfl⟩
theorem lk_11_168 : LKV RX11 168 4 yX4_weekCost := ⟨by decide, gt_of 966 (by decide +kernel) rfl, gt_of 967 (by decide +kernel) rfl, gt_of 968 (by decide +kernel) rfl⟩
theorem lk_4_129 : LKV RX4 129 4 yX4_bestFor := ⟨by decide, gt_of 970 (by decide +kernel) rfl, gt_of 882 (by decide +kernel) rfl, gt_of 883 (by decide +kernel) rfl⟩
theorem lk_4_132 : LKV RX4 132 4 yX4_enterFound := ⟨by decide, gt_of 971 (by decide +kernel) rfl, gt_of 973 (by decide +kernel) rfl, gt_of 29 (by decide +kernel) rfl⟩
theorem lk_L_65 : LKV RL 65 11 yX11_dearest := ⟨by decide, gt_of 975 (by decide +kernel) rfl, gt_of 976 (by decide +kernel) rfl, gt_of 977 (by decide +kernel) rfl⟩
theorem lk_11_178 : LKV RX11 178 4 yX4_leaveOut := ⟨by decide, gt_of 980 (by decide +kernel) rfl, gt_of 981 (by decide +kernel) rfl, gt_of 982 (by decide +kernel) rfl⟩
theorem lk_L_69 : LKV RL 69 11 yX11_give := ⟨by decide, gt_of 984 (by decide +kernel) rfl, gt_of 985 (by decide +kernel) rfl, gt_of 986 (by decide +kernel) rfl⟩
theorem lk_11_182 : LKV RX11 182 4 yX4_giveAway := ⟨by decide, gt_of 988 (by decide +kernel) rfl, gt_of 989 (by decide +kernel) rfl, gt_of 990 (by decide +kernel) rfl⟩
theorem lk_11_186 : LKV RX11 186 4 yX4_lackOf := ⟨by decide, gt_of 992 (by decide +kernel) rfl, gt_of 993 (by decide +kernel) rfl, gt_of 994 (by decide +kernel) rfl⟩
theorem lku_4_136_0 : LKU RX4 136 0 yX9_lackFor yX9_lackFor := ⟨by decide, gt_of 996 (by decide +kernel) rfl, gt_of 999 (by decide +kernel) rfl, gt_of 997 (by decide +kernel) rfl, ⟨_, _, _, gt_of (w := .code yX9_lackFor cX9_lackFor 2 (some (.int))) 1005 (by decide +kernel) rfl⟩, gt_of 1000 (by decide +kernel) rfl, gt_of 997 (by decide +kernel) rfl, by decide +kernel, rfl⟩
theorem lku_4_136_1 : LKU RX4 136 1 yX9_lackFor yX9_lackFor := ⟨by decide, gt_of 996 (by decide +kernel) rfl, gt_of 999 (by decide +kernel) rfl, gt_of 997 (by decide +kernel) rfl, ⟨_, _, _, gt_of (w := .code yX9_lackFor cX9_lackFor 2 (some (.int))) 1005 (by decide +kernel) rfl⟩, gt_of 1001 (by decide +kernel) rfl, gt_of 997 (by decide +kernel) rfl, by decide +kernel, rfl⟩
theorem lku_4_136_3 : LKU RX4 136 3 yX9_lackFor yX9_lackFor := ⟨by decide, gt_of 996 (by decide +kernel) rfl, gt_of 999 (by decide +kernel) rfl, gt_of 997 (by decide +kernel) rfl, ⟨_, _, _, gt_of (w := .code yX9_lackFor cX9_lackFor 2 (some (.int))) 1005 (by decide +kernel) rfl⟩, gt_of 1002 (by decide +kernel) rfl, gt_of 997 (by decide +kernel) rfl, by decide +kernel, rfl⟩
theorem lku_4_136_5 : LKU RX4 136 5 yX9_lackFor yX9_lackFor := ⟨by decide, gt_of 996 (by decide +kernel) rfl, gt_of 999 (by decide +kernel) rfl, gt_of 997 (by decide +kernel) rfl, ⟨_, _, _, gt_of (w := .code yX9_lackFor cX9_lackFor 2 (some (.int))) 1005 (by decide +kernel) rfl⟩, gt_of 1003 (by decide +kernel) rfl, gt_of 997 (by decide +kernel) rfl, by decide +kernel, rfl⟩
theorem lku_4_136_9 : LKU RX4 136 9 yX9_lackFor yX9_lackFor := ⟨by decide, gt_of 996 (by decide +kernel) rfl, gt_of 999 (by decide +kernel) rfl, gt_of 997 (by decide +kernel) rfl, ⟨_, _, _, gt_of (w := .code yX9_lackFor cX9_lackFor 2 (some (.int))) 1005 (by decide +kernel) rfl⟩, gt_of 998 (by decide +kernel) rfl, gt_of 997 (by decide +kernel) rfl, by decide +kernel, rfl⟩
theorem lku_4_136_10 : LKU RX4 136 10 yX9_lackFor yX9_lackFor := ⟨by decide, gt_of 996 (by decide +kernel) rfl, gt_of 999 (by decide +kernel) rfl, gt_of 997 (by decide +kernel) rfl, ⟨_, _, _, gt_of (w := .code yX9_lackFor cX9_lackFor 2 (some (.int))) 1005 (by decide +kernel) rfl⟩, gt_of 1004 (by decide +kernel) rfl, gt_of 997 (by decide +kernel) rfl, by decide +kernel, rfl⟩
theorem lk_4_136 : LKV RX4 136 9 yX9_lackFor := ⟨by decide, gt_of 996 (by decide +kernel) rfl, gt_of 997 (by decide +kernel) rfl, gt_of 998 (by decide +kernel) rfl⟩
theorem lk_L_73 : LKV RL 73 11 yX11_seat := ⟨by decide, gt_of 1006 (by decide +kernel) rfl, gt_of 1007 (by decide +kernel) rfl, gt_of 1008 (by decide +kernel) rfl⟩
theorem lk_11_189 : LKV RX11 189 4 yX4_sits := ⟨by decide, gt_of 1010 (by decide +kernel) rfl, gt_of 1011 (by decide +kernel) rfl, gt_of 1012 (by decide +kernel) rfl⟩
theorem lk_L_77 : LKV RL 77 11 yX11_seen := ⟨by decide, gt_of 1014 (by decide +kernel) rfl, gt_of 1015 (by decide +kernel) rfl, gt_of 1016 (by decide +kernel) rfl⟩
theorem lk_11_202 : LKV RX11 202 4 yX4_enters := ⟨by decide, gt_of 1018 (by decide +kernel) rfl, gt_of 1019 (by decide +kernel) rfl, gt_of 1020 (by decide +kernel) rfl⟩
theorem lk_4_84 : LKSN RX4 84 yX11_isBelow := ⟨by decide +kernel, gt_of 529 (by decide +kernel) rfl⟩
theorem lku_4_92_0 : LKU RX4 92 0 yX9_isBarred yX9_isBarred := ⟨by decide, gt_of 1023 (by decide +kernel) rfl, gt_of 1026 (by decide +kernel) rfl, gt_of 1024 (by decide +kernel) rfl, ⟨_, _, _, gt_of (w := .code yX9_isBarred cX9_isBarred 2 (some (.boolean))) 1032 (by decide +kernel) rfl⟩, gt_of 1027 (by decide +kernel) rfl, gt_of 1024 (by decide +kernel) rfl, by decide +kernel, rfl⟩
theorem lku_4_92_1 : LKU RX4 92 1 yX9_isBarred yX9_isBarred := ⟨by decide, gt_of 1023 (by decide +kernel) rfl, gt_of 1026 (by decide +kernel) rfl, gt_of 1024 (by decide +kernel) rfl, ⟨_, _, _, gt_of (w := .code yX9_isBarred cX9_isBarred 2 (some (.boolean))) 1032 (by decide +kernel) rfl⟩, gt_of 1028 (by decide +kernel) rfl, gt_of 1024 (by decide +kernel) rfl, by decide +kernel, rfl⟩
theorem lku_4_92_3 : LKU RX4 92 3 yX9_isBarred yX9_isBarred := ⟨by decide, gt_of 1023 (by decide +kernel) rfl, gt_of 1026 (by decide +kernel) rfl, gt_of 1024 (by decide +kernel) rfl, ⟨_, _, _, gt_of (w := .code yX9_isBarred cX9_isBarred 2 (some (.boolean))) 1032 (by decide +kernel) rfl⟩, gt_of 1029 (by decide +kernel) rfl, gt_of 1024 (by decide +kernel) rfl, by decide +kernel, rfl⟩
theorem lku_4_92_5 : LKU RX4 92 5 yX9_isBarred yX9_isBarred := ⟨by decide, gt_of 1023 (by decide +kernel) rfl, gt_of 1026 (by decide +kernel) rfl, gt_of 1024 (by decide +kernel) rfl, ⟨_, _, _, gt_of (w := .code yX9_isBarred cX9_isBarred 2 (some (.boolean))) 1032 (by decide +kernel) rfl⟩, gt_of 1030 (by decide +kernel) rfl, gt_of 1024 (by decide +kernel) rfl, by decide +kernel, rfl⟩
theorem lku_4_92_9 : LKU RX4 92 9 yX9_isBarred yX9_isBarred := ⟨by decide, gt_of 1023 (by decide +kernel) rfl, gt_of 1026 (by decide +kernel) rfl, gt_of 1024 (by decide +kernel) rfl, ⟨_, _, _, gt_of (w := .code yX9_isBarred cX9_isBarred 2 (some (.boolean))) 1032 (by decide +kernel) rfl⟩, gt_of 1025 (by decide +kernel) rfl, gt_of 1024 (by decide +kernel) rfl, by decide +kernel, rfl⟩
theorem lku_4_92_10 : LKU RX4 92 10 yX9_isBarred yX9_isBarred := ⟨by decide, gt_of 1023 (by decide +kernel) rfl, gt_of 1026 (by decide +kernel) rfl, gt_of 1024 (by decide +kernel) rfl, ⟨_, _, _, gt_of (w := .code yX9_isBarred cX9_isBarred 2 (some (.boolean))) 1032 (by decide +kernel) rfl⟩, gt_of 1031 (by decide +kernel) rfl, gt_of 1024 (by decide +kernel) rfl, by decide +kernel, rfl⟩
theorem lk_4_92 : LKV RX4 92 9 yX9_isBarred := ⟨by decide, gt_of 1023 (by decide +kernel) rfl, gt_of 1024 (by decide +kernel) rfl, gt_of 1025 (by decide +kernel) rfl⟩
theorem lk_11_206 : LKV RX11 206 4 yX4_surprised := ⟨by decide, gt_of 1033 (by decide +kernel) rfl, gt_of 1034 (by decide +kernel) rfl, gt_of 1035 (by decide +kernel) rfl⟩
theorem lk_11_209 : LKV RX11 209 4 yX4_expected := ⟨by decide, gt_of 1037 (by decide +kernel) rfl, gt_of 1038 (by decide +kernel) rfl, gt_of 1039 (by decide +kernel) rfl⟩
theorem lk_4_120 : LKV RX4 120 4 yX4_badDay := ⟨by decide, gt_of 1041 (by decide +kernel) rfl, gt_of 822 (by decide +kernel) rfl, gt_of 823 (by decide +kernel) rfl⟩
theorem lk_11_212 : LKS RX11 212 yJ6_bitCount_0f7a4 := ⟨gt_of 1042 (by decide +kernel) rfl, gt_of 856 (by decide +kernel) rfl⟩
theorem lk_11_217 : LKS RX11 217 yX11_lowestBit := ⟨gt_of 1043 (by decide +kernel) rfl, gt_of 1044 (by decide +kernel) rfl⟩
theorem lk_L_81 : LKV RL 81 11 yX11_film := ⟨by decide, gt_of 1046 (by decide +kernel) rfl, gt_of 1047 (by decide +kernel) rfl, gt_of 1048 (by decide +kernel) rfl⟩
theorem lk_11_220 : LKV RX11 220 7 yX7_become := ⟨by decide, gt_of 1050 (by decide +kernel) rfl, gt_of 1051 (by decide +kernel) rfl, gt_of 1052 (by decide +kernel) rfl⟩
theorem lk_7_22 : LKS RX7 22 yJ7_fill_53178 := ⟨gt_of 1054 (by decide +kernel) rfl, gt_of 108 (by decide +kernel) rfl⟩
theorem lw_11_223 : Cond.methodLink RX11 223 ⟨"java/lang/System", "arraycopy", "(Ljava/lang/Object;ILjava/lang/Object;II)V"⟩ ∈ gT := gt_of 1055 (by decide +kernel) rfl
theorem lk_L_85 : LKV RL 85 11 yX11_drawn := ⟨by decide, gt_of 1056 (by decide +kernel) rfl, gt_of 1057 (by decide +kernel) rfl, gt_of 1058 (by decide +kernel) rfl⟩
theorem lk_11_229 : LKV RX11 229 4 yX4_draw := ⟨by decide, gt_of 1060 (by decide +kernel) rfl, gt_of 1061 (by decide +kernel) rfl, gt_of 1062 (by decide +kernel) rfl⟩
theorem lk_L_89 : LKV RL 89 11 yX11_chance := ⟨by decide, gt_of 1065 (by decide +kernel) rfl, gt_of 1066 (by decide +kernel) rfl, gt_of 1067 (by decide +kernel) rfl⟩
theorem lk_11_234 : LKS RX11 234 yX11_commonDivisor := ⟨gt_of 1070 (by decide +kernel) rfl, gt_of 1071 (by decide +kernel) rfl⟩
theorem lk_11_279 : LKS RX11 279 yJ9_max_7cf53 := ⟨gt_of 1073 (by decide +kernel) rfl, gt_of 715 (by decide +kernel) rfl⟩
theorem lk_L_94 : LKV RL 94 11 yX11_image := ⟨by decide, gt_of 1074 (by decide +kernel) rfl, gt_of 1075 (by decide +kernel) rfl, gt_of 1076 (by decide +kernel) rfl⟩
theorem lk_11_237 : LKV RX11 237 2 yX2_take := ⟨by decide, gt_of 1078 (by decide +kernel) rfl, gt_of 1079 (by decide +kernel) rfl, gt_of 1080 (by decide +kernel) rfl⟩
theorem lw_2_50 : Cond.methodLink RX2 50 ⟨"java/lang/System", "arraycopy", "(Ljava/lang/Object;ILjava/lang/Object;II)V"⟩ ∈ gT := gt_of 1082 (by decide +kernel) rfl
theorem lku_2_56_0 : LKU RX2 56 0 yX9_take yX9_take := ⟨by decide, gt_of 1083 (by decide +kernel) rfl, gt_of 1086 (by decide +kernel) rfl, gt_of 1084 (by decide +kernel) rfl, ⟨_, _, _, gt_of (w := .code yX9_take cX9_take 2 (none)) 1092 (by decide +kernel) rfl⟩, gt_of 1087 (by decide +kernel) rfl, gt_of 1084 (by decide +kernel) rfl, by decide +kernel, rfl⟩
theorem lku_2_56_1 : LKU RX2 56 1 yX9_take yX9_take := ⟨by decide, gt_of 1083 (by decide +kernel) rfl, gt_of 1086 (by decide +kernel) rfl, gt_of 1084 (by decide +kernel) rfl, ⟨_, _, _, gt_of (w := .code yX9_take cX9_take 2 (none)) 1092 (by decide +kernel) rfl⟩, gt_of 1088 (by decide +kernel) rfl, gt_of 1084 (by decide +kernel) rfl, by decide +kernel, rfl⟩
theorem lku_2_56_3 : LKU RX2 56 3 yX9_take yX9_take := ⟨by decide, gt_of 1083 (by decide +kernel) rfl, gt_of 1086 (by decide +kernel) rfl, gt_of 1084 (by decide +kernel) rfl, ⟨_, _, _, gt_of (w := .code yX9_take cX9_take 2 (none)) 1092 (by decide +kernel) rfl⟩, gt_of 1089 (by decide +kernel) rfl, gt_of 1084 (by decide +kernel) rfl, by decide +kernel, rfl⟩
theorem lku_2_56_5 : LKU RX2 56 5 yX9_take yX9_take := ⟨by decide, gt_of 1083 (by decide +kernel) rfl, gt_of 1086 (by decide +kernel) rfl, gt_of 1084 (by decide +kernel) rfl, ⟨_, _, _, gt_of (w := .code yX9_take cX9_take 2 (none)) 1092 (by decide +kernel) rfl⟩, gt_of 1090 (by decide +kernel) rfl, gt_of 1084 (by decide +kernel) rfl, by decide +kernel, rfl⟩
theorem lku_2_56_9 : LKU RX2 56 9 yX9_take yX9_take := ⟨by decide, gt_of 1083 (by decide +kernel) rfl, gt_of 1086 (by decide +kernel) rfl, gt_of 1084 (by decide +kernel) rfl, ⟨_, _, _, gt_of (w := .code yX9_take cX9_take 2 (none)) 1092 (by decide +kernel) rfl⟩, gt_of 1085 (by decide +kernel) rfl, gt_of 1084 (by decide +kernel) rfl, by decide +kernel, rfl⟩
theorem lku_2_56_10 : LKU RX2 56 10 yX9_take yX9_take := ⟨by decide, gt_of 1083 (by decide +kernel) rfl, gt_of 1086 (by decide +kernel) rfl, gt_of 1084 (by decide +kernel) rfl, ⟨_, _, _, gt_of (w := .code yX9_take cX9_take 2 (none)) 1092 (by decide +kernel) rfl⟩, gt_of 1091 (by decide +kernel) rfl, gt_of 1084 (by decide +kernel) rfl, by decide +kernel, rfl⟩
theorem lk_2_56 : LKV RX2 56 9 yX9_take := ⟨by decide, gt_of 1083 (by decide +kernel) rfl, gt_of 1084 (by decide +kernel) rfl, gt_of 1085 (by decide +kernel) rfl⟩
theorem lk_L_98 : LKV RL 98 11 yX11_back := ⟨by decide, gt_of 1093 (by decide +kernel) rfl, gt_of 1094 (by decide +kernel) rfl, gt_of 1095 (by decide +kernel) rfl⟩
theorem lk_L_102 : LKV RL 102 11 yX11_count := ⟨by decide, gt_of 1097 (by decide +kernel) rfl, gt_of 1098 (by decide +kernel) rfl, gt_of 1099 (by decide +kernel) rfl⟩
theorem lk_11_241 : LKV RX11 241 2 yX2_howManyArePut := ⟨by decide, gt_of 1101 (by decide +kernel) rfl, gt_of 1102 (by decide +kernel) rfl, gt_of 1103 (by decide +kernel) rfl⟩
theorem lk_L_106 : LKV RL 106 11 yX11_sheet := ⟨by decide, gt_of 1105 (by decide +kernel) rfl, gt_of 1106 (by decide +kernel) rfl, gt_of 1107 (by decide +kernel) rfl⟩
theorem lk_L_110 : LKV RL 110 11 yX11_cell := ⟨by decide, gt_of 1109 (by decide +kernel) rfl, gt_of 1110 (by decide +kernel) rfl, gt_of 1111 (by decide +kernel) rfl⟩
theorem lk_11_244 : LKV RX11 244 7 yX7_narrowed := ⟨by decide, gt_of 1113 (by decide +kernel) rfl, gt_of 1114 (by decide +kernel) rfl, gt_of 1115 (by decide +kernel) rfl⟩
theorem lk_L_114 : LKV RL 114 11 yX11_copy := ⟨by decide, gt_of 1117 (by decide +kernel) rfl, gt_of 1118 (by decide +kernel) rfl, gt_of 1119 (by decide +kernel) rfl⟩
theorem lk_11_247 : LKV RX11 247 7 yX7_holds := ⟨by decide, gt_of 1121 (by decide +kernel) rfl, gt_of 1122 (by decide +kernel) rfl, gt_of 1123 (by decide +kernel) rfl⟩
theorem lk_L_119 : LKV RL 119 11 yX11_things := ⟨by decide, gt_of 1125 (by decide +kernel) rfl, gt_of 1126 (by decide +kernel) rfl, gt_of 1127 (by decide +kernel) rfl⟩
theorem lk_11_250 : LKV RX11 250 11 yX11_thing := ⟨by decide, gt_of 1129 (by decide +kernel) rfl, gt_of 548 (by decide +kernel) rfl, gt_of 549 (by decide +kernel) rfl⟩
theorem lk_L_124 : LKV RL 124 11 yX11_taken := ⟨by decide, gt_of 1130 (by decide +kernel) rfl, gt_of 1131 (by decide +kernel) rfl, gt_of 1132 (by decide +kernel) rfl⟩
theorem lk_11_254 : LKS RX11 254 yX11_isOf := ⟨gt_of 1134 (by decide +kernel) rfl, gt_of 1135 (by decide +kernel) rfl⟩
theorem lk_L_12 : LKI RL 12 yX12_init := ⟨gt_of 1139 (by decide +kernel) rfl, rfl, gt_of 1140 (by decide +kernel) rfl⟩
theorem lw_12_7 : Cond.methodLink RX12 7 ⟨"java/lang/Object", "<init>", "()V"⟩ ∈ gT := gt_of 1142 (by decide +kernel) rfl
theorem lk_12_99 : LKV RX12 99 12 yX12_spell := ⟨by decide, gt_of 1143 (by decide +kernel) rfl, gt_of 1145 (by decide +kernel) rfl, gt_of 30 (by decide +kernel) rfl⟩
theorem lk_L_17 : LKV RL 17 12 yX12_set := ⟨by decide, gt_of 1316 (by decide +kernel) rfl, gt_of 1317 (by decide +kernel) rfl, gt_of 1318 (by decide +kernel) rfl⟩
theorem lk_12_109 : LKS RX12 109 yX12_in := ⟨gt_of 1321 (by decide +kernel) rfl, gt_of 1322 (by decide +kernel) rfl⟩
theorem lk_L_21 : LKV RL 21 12 yX12_thing := ⟨by decide, gt_of 1327 (by decide +kernel) rfl, gt_of 1328 (by decide +kernel) rfl, gt_of 1329 (by decide +kernel) rfl⟩
theorem lk_L_26 : LKV RL 26 12 yX12_put := ⟨by decide, gt_of 1332 (by decide +kernel) rfl, gt_of 1333 (by decide +kernel) rfl, gt_of 1334 (by decide +kernel) rfl⟩
theorem lk_12_123 : LKV RX12 123 12 yX12_isThing := ⟨by decide, gt_of 1336 (by decide +kernel) rfl, gt_of 1338 (by decide +kernel) rfl, gt_of 31 (by decide +kernel) rfl⟩
theorem lk_12_127 : LKS RX12 127 yX12_isPlace := ⟨gt_of 1340 (by decide +kernel) rfl, gt_of 1341 (by decide +kernel) rfl⟩
theorem lk_12_130 : LKV RX12 130 12 yX12_stands := ⟨by decide, gt_of 1343 (by decide +kernel) rfl, gt_of 1345 (by decide +kernel) rfl, gt_of 32 (by decide +kernel) rfl⟩
theorem lk_12_134 : LKV RX12 134 12 yX12_says := ⟨by decide, gt_of 1347 (by decide +kernel) rfl, gt_of 1349 (by decide +kernel) rfl, gt_of 33 (by decide +kernel) rfl⟩
theorem lk_12_259 : LKV RX12 259 12 yX12_read := ⟨by decide, gt_of 1351 (by decide +kernel) rfl, gt_of 1353 (by decide +kernel) rfl, gt_of 34 (by decide +kernel) rfl⟩
theorem lk_12_197 : LKV RX12 197 12 yX12_next := ⟨by decide, gt_of 1355 (by decide +kernel) rfl, gt_of 1357 (by decide +kernel) rfl, gt_of 35 (by decide +kernel) rfl⟩
theorem lk_12_157 : LKV RX12 157 12 yX12_byteAt := ⟨by decide, gt_of 1359 (by decide +kernel) rfl, gt_of 1361 (by decide +kernel) rfl, gt_of 36 (by decide +kernel) rfl⟩
theorem lk_12_200 : LKV RX12 200 12 yX12_isWord := ⟨by decide, gt_of 1368 (by decide +kernel) rfl, gt_of 1370 (by decide +kernel) rfl, gt_of 37 (by decide +kernel) rfl⟩
theorem lk_12_188 : LKV RX12 188 12 yX12_isLetter := ⟨by decide, gt_of 1372 (by decide +kernel) rfl, gt_of 1374 (by decide +kernel) rfl, gt_of 38 (by decide +kernel) rfl⟩
theorem lk_12_255 : LKV RX12 255 12 yX12_part := ⟨by decide, gt_of 1376 (by decide +kernel) rfl, gt_of 1378 (by decide +kernel) rfl, gt_of 39 (by decide +kernel) rfl⟩
theorem lk_12_194 : LKV RX12 194 12 yX12_fail := ⟨by decide, gt_of 1380 (by decide +kernel) rfl, gt_of 1382 (by decide +kernel) rfl, gt_of 40 (by decide +kernel) rfl⟩
theorem lk_12_233 : LKV RX12 233 12 yX12_either := ⟨by decide, gt_of 1384 (by decide +kernel) rfl, gt_of 1386 (by decide +kernel) rfl, gt_of 41 (by decide +kernel) rfl⟩
theorem lk_12_252 : LKV RX12 252 12 yX12_both := ⟨by decide, gt_of 1388 (by decide +kernel) rfl, gt_of 1390 (by decide +kernel) rfl, gt_of 42 (by decide +kernel) rfl⟩
theorem lk_12_244 : LKV RX12 244 12 yX12_not := ⟨by decide, gt_of 1392 (by decide +kernel) rfl, gt_of 1394 (by decide +kernel) rfl, gt_of 43 (by decide +kernel) rfl⟩
theorem lk_12_225 : LKV RX12 225 12 yX12_opens := ⟨by decide, gt_of 1396 (by decide +kernel) rfl, gt_of 1398 (by decide +kernel) rfl, gt_of 44 (by decide +kernel) rfl⟩
theorem lk_12_247 : LKV RX12 247 12 yX12_added := ⟨by decide, gt_of 1400 (by decide +kernel) rfl, gt_of 1402 (by decide +kernel) rfl, gt_of 45 (by decide +kernel) rfl⟩
theorem lk_12_239 : LKV RX12 239 12 yX12_term := ⟨by decide, gt_of 1404 (by decide +kernel) rfl, gt_of 1406 (by decide +kernel) rfl, gt_of 46 (by decide +kernel) rfl⟩
theorem lk_12_229 : LKV RX12 229 12 yX12_atom := ⟨by decide, gt_of 1408 (by decide +kernel) rfl, gt_of 1410 (by decide +kernel) rfl, gt_of 47 (by decide +kernel) rfl⟩
theorem lk_12_222 : LKV RX12 222 12 yX12_isSign := ⟨by decide, gt_of 1412 (by decide +kernel) rfl, gt_of 1414 (by decide +kernel) rfl, gt_of 48 (by decide +kernel) rfl⟩
theorem lk_12_236 : LKV RX12 236 12 yX12_name := ⟨by decide, gt_of 1416 (by decide +kernel) rfl, gt_of 1418 (by decide +kernel) rfl, gt_of 49 (by decide +kernel) rfl⟩
theorem lk_12_266 : LKS RX12 266 yX12_within := ⟨gt_of 1422 (by decide +kernel) rfl, gt_of 1423 (by decide +kernel) rfl⟩
theorem lk_L_30 : LKV RL 30 12 yX12_told := ⟨by decide, gt_of 1425 (by decide +kernel) rfl, gt_of 1426 (by decide +kernel) rfl, gt_of 1427 (by decide +kernel) rfl⟩
theorem lk_12_140 : LKV RX12 140 12 yX12_doesSee := ⟨by decide, gt_of 1430 (by decide +kernel) rfl, gt_of 1432 (by decide +kernel) rfl, gt_of 50 (by decide +kernel) rfl⟩
theorem lk_L_35 : LKV RL 35 12 yX12_feed := ⟨by decide, gt_of 1434 (by decide +kernel) rfl, gt_of 1435 (by decide +kernel) rfl, gt_of 1436 (by decide +kernel) rfl⟩
theorem lk_L_40 : LKV RL 40 12 yX12_text := ⟨by decide, gt_of 1439 (by decide +kernel) rfl, gt_of 1440 (by decide +kernel) rfl, gt_of 1441 (by decide +kernel) rfl⟩
theorem lk_L_44 : LKV RL 44 12 yX12_force := ⟨by decide, gt_of 1443 (by decide +kernel) rfl, gt_of 1444 (by decide +kernel) rfl, gt_of 1445 (by decide +kernel) rfl⟩
theorem lk_L_48 : LKV RL 48 12 yX12_day := ⟨by decide, gt_of 1447 (by decide +kernel) rfl, gt_of 1448 (by decide +kernel) rfl, gt_of 1449 (by decide +kernel) rfl⟩
theorem lk_12_308 : LKS RX12 308 yX12_areGuests := ⟨gt_of 1451 (by decide +kernel) rfl, gt_of 1452 (by decide +kernel) rfl⟩
theorem lk_12_311 : LKV RX12 311 12 yX12_gathers := ⟨by decide, gt_of 1454 (by decide +kernel) rfl, gt_of 1456 (by decide +kernel) rfl, gt_of 51 (by decide +kernel) rfl⟩
theorem lk_12_314 : LKV RX12 314 12 yX12_badNow := ⟨by decide, gt_of 1458 (by decide +kernel) rfl, gt_of 1460 (by decide +kernel) rfl, gt_of 52 (by decide +kernel) rfl⟩
theorem lk_12_285 : LKV RX12 285 12 yX12_badOf := ⟨by decide, gt_of 1462 (by decide +kernel) rfl, gt_of 1464 (by decide +kernel) rfl, gt_of 53 (by decide +kernel) rfl⟩
theorem lk_12_276 : LKS RX12 276 yX12_bitsOf := ⟨gt_of 1466 (by decide +kernel) rfl, gt_of 1467 (by decide +kernel) rfl⟩
theorem lk_12_279 : LKV RX12 279 12 yX12_timesBad := ⟨by decide, gt_of 1469 (by decide +kernel) rfl, gt_of 1471 (by decide +kernel) rfl, gt_of 54 (by decide +kernel) rfl⟩
theorem lk_12_270 : LKV RX12 270 12 yX12_missedOf := ⟨by decide, gt_of 1473 (by decide +kernel) rfl, gt_of 1475 (by decide +kernel) rfl, gt_of 55 (by decide +kernel) rfl⟩
theorem lk_12_273 : LKV RX12 273 12 yX12_offendsOf := ⟨by decide, gt_of 1477 (by decide +kernel) rfl, gt_of 1479 (by decide +kernel) rfl, gt_of 56 (by decide +kernel) rfl⟩
theorem lk_L_52 : LKV RL 52 12 yX12_best := ⟨by decide, gt_of 1481 (by decide +kernel) rfl, gt_of 1482 (by decide +kernel) rfl, gt_of 1483 (by decide +kernel) rfl⟩
theorem lk_12_317 : LKV RX12 317 12 yX12_fromNow := ⟨by decide, gt_of 1485 (by decide +kernel) rfl, gt_of 1487 (by decide +kernel) rfl, gt_of 57 (by decide +kernel) rfl⟩
theorem lk_12_320 : LKV RX12 320 12 yX12_seeksFor := ⟨by decide, gt_of 1489 (by decide +kernel) rfl, gt_of 1491 (by decide +kernel) rfl, gt_of 58 (by decide +kernel) rfl⟩
theorem lk_12_301 : LKV RX12 301 12 yX12_begins := ⟨by decide, gt_of 1493 (by decide +kernel) rfl, gt_of 1495 (by decide +kernel) rfl, gt_of 59 (by decide +kernel) rfl⟩
theorem lk_12_304 : LKV RX12 304 12 yX12_addsDay := ⟨by decide, gt_of 1497 (by decide +kernel) rfl, gt_of 1499 (by decide +kernel) rfl, gt_of 60 (by decide +kernel) rfl⟩
theorem lk_12_291 : LKV RX12 291 12 yX12_goesThrough := ⟨by decide, gt_of 1501 (by decide +kernel) rfl, gt_of 1503 (by decide +kernel) rfl, gt_of 61 (by decide +kernel) rfl⟩
theorem lk_L_56 : LKV RL 56 12 yX12_tidy := ⟨by decide, gt_of 1505 (by decide +kernel) rfl, gt_of 1506 (by decide +kernel) rfl, gt_of 1507 (by decide +kernel) rfl⟩
theorem lk_12_324 : LKV RX12 324 12 yX12_best := ⟨by decide, gt_of 1509 (by decide +kernel) rfl, gt_of 1482 (by decide +kernel) rfl, gt_of 1483 (by decide +kernel) rfl⟩
theorem lk_L_60 : LKV RL 60 12 yX12_once := ⟨by decide, gt_of 1510 (by decide +kernel) rfl, gt_of 1511 (by decide +kernel) rfl, gt_of 1512 (by decide +kernel) rfl⟩
theorem lk_12_327 : LKV RX12 327 12 yX12_seeksOnce := ⟨by decide, gt_of 1514 (by decide +kernel) rfl, gt_of 1516 (by decide +kernel) rfl, gt_of 62 (by decide +kernel) rfl⟩
theorem lk_L_64 : LKV RL 64 12 yX12_week := ⟨by decide, gt_of 1518 (by decide +kernel) rfl, gt_of 1519 (by decide +kernel) rfl, gt_of 1520 (by decide +kernel) rfl⟩
theorem lk_12_341 : LKV RX12 341 12 yX12_weeks := ⟨by decide, gt_of 1523 (by decide +kernel) rfl, gt_of 1525 (by decide +kernel) rfl, gt_of 63 (by decide +kernel) rfl⟩
theorem lk_L_68 : LKV RL 68 12 yX12_dearest := ⟨by decide, gt_of 1527 (by decide +kernel) rfl, gt_of 1528 (by decide +kernel) rfl, gt_of 1529 (by decide +kernel) rfl⟩
theorem lk_12_344 : LKV RX12 344 12 yX12_keepsDays := ⟨by decide, gt_of 1531 (by decide +kernel) rfl, gt_of 1533 (by decide +kernel) rfl, gt_of 64 (by decide +kernel) rfl⟩
theorem lk_12_347 : LKV RX12 347 12 yX12_daysBack := ⟨by decide, gt_of 1535 (by decide +kernel) rfl, gt_of 1537 (by decide +kernel) rfl, gt_of 65 (by decide +kernel) rfl⟩
theorem lk_L_72 : LKV RL 72 12 yX12_give := ⟨by decide, gt_of 1539 (by decide +kernel) rfl, gt_of 1540 (by decide +kernel) rfl, gt_of 1541 (by decide +kernel) rfl⟩
theorem lk_L_76 : LKV RL 76 12 yX12_seat := ⟨by decide, gt_of 1543 (by decide +kernel) rfl, gt_of 1544 (by decide +kernel) rfl, gt_of 1545 (by decide +kernel) rfl⟩
theorem lk_L_80 : LKV RL 80 12 yX12_seen := ⟨by decide, gt_of 1548 (by decide +kernel) rfl, gt_of 1549 (by decide +kernel) rfl, gt_of 1550 (by decide +kernel) rfl⟩
theorem lk_12_352 : LKS RX12 352 yX12_isSheet := ⟨gt_of 1552 (by decide +kernel) rfl, gt_of 1553 (by decide +kernel) rfl⟩
theorem lk_12_355 : LKV RX12 355 12 yX12_isRoom := ⟨by decide, gt_of 1555 (by decide +kernel) rfl, gt_of 1557 (by decide +kernel) rfl, gt_of 66 (by decide +kernel) rfl⟩
theorem lk_12_358 : LKV RX12 358 12 yX12_leastBad := ⟨by decide, gt_of 1559 (by decide +kernel) rfl, gt_of 1561 (by decide +kernel) rfl, gt_of 67 (by decide +kernel) rfl⟩
theorem lk_L_84 : LKV RL 84 12 yX12_film := ⟨by decide, gt_of 1563 (by decide +kernel) rfl, gt_of 1564 (by decide +kernel) rfl, gt_of 1565 (by decide +kernel) rfl⟩
theorem lk_12_361 : LKV RX12 361 12 yX12_sheet := ⟨by decide, gt_of 1567 (by decide +kernel) rfl, gt_of 1568 (by decide +kernel) rfl, gt_of 1569 (by decide +kernel) rfl⟩
theorem lk_L_88 : LKV RL 88 12 yX12_drawn := ⟨by decide, gt_of 1572 (by decide +kernel) rfl, gt_of 1573 (by decide +kernel) rfl, gt_of 1574 (by decide +kernel) rfl⟩
theorem lk_12_365 : LKV RX12 365 12 yX12_draws := ⟨by decide, gt_of 1576 (by decide +kernel) rfl, gt_of 1578 (by decide +kernel) rfl, gt_of 68 (by decide +kernel) rfl⟩
theorem lk_L_93 : LKV RL 93 12 yX12_chance := ⟨by decide, gt_of 1581 (by decide +kernel) rfl, gt_of 1582 (by decide +kernel) rfl, gt_of 1583 (by decide +kernel) rfl⟩
theorem lk_L_97 : LKV RL 97 12 yX12_image := ⟨by decide, gt_of 1586 (by decide +kernel) rfl, gt_of 1587 (by decide +kernel) rfl, gt_of 1588 (by decide +kernel) rfl⟩
theorem lk_L_101 : LKV RL 101 12 yX12_back := ⟨by decide, gt_of 1590 (by decide +kernel) rfl, gt_of 1591 (by decide +kernel) rfl, gt_of 1592 (by decide +kernel) rfl⟩
theorem lk_L_105 : LKV RL 105 12 yX12_count := ⟨by decide, gt_of 1594 (by decide +kernel) rfl, gt_of 1595 (by decide +kernel) rfl, gt_of 1596 (by decide +kernel) rfl⟩
theorem lk_L_109 : LKV RL 109 12 yX12_sheet := ⟨by decide, gt_of 1599 (by decide +kernel) rfl, gt_of 1568 (by decide +kernel) rfl, gt_of 1569 (by decide +kernel) rfl⟩
theorem lk_L_113 : LKV RL 113 12 yX12_cell := ⟨by decide, gt_of 1600 (by decide +kernel) rfl, gt_of 1601 (by decide +kernel) rfl, gt_of 1602 (by decide +kernel) rfl⟩
theorem lk_L_118 : LKV RL 118 12 yX12_copy := ⟨by decide, gt_of 1604 (by decide +kernel) rfl, gt_of 1605 (by decide +kernel) rfl, gt_of 1606 (by decide +kernel) rfl⟩
theorem lk_L_123 : LKV RL 123 12 yX12_things := ⟨by decide, gt_of 1608 (by decide +kernel) rfl, gt_of 1609 (by decide +kernel) rfl, gt_of 1610 (by decide +kernel) rfl⟩
theorem lk_12_377 : LKV RX12 377 12 yX12_thing := ⟨by decide, gt_of 1612 (by decide +kernel) rfl, gt_of 1328 (by decide +kernel) rfl, gt_of 1329 (by decide +kernel) rfl⟩
theorem lk_L_127 : LKV RL 127 12 yX12_taken := ⟨by decide, gt_of 1613 (by decide +kernel) rfl, gt_of 1614 (by decide +kernel) rfl, gt_of 1615 (by decide +kernel) rfl⟩
theorem lk_12_380 : LKS RX12 380 yX12_over := ⟨gt_of 1617 (by decide +kernel) rfl, gt_of 1618 (by decide +kernel) rfl⟩
theorem w_System : Cond.initialized "java/lang/System" ∈ gT := gt_of 83 (by decide +kernel) rfl
theorem kn_11 : Cond.initialized RX11 ∈ gT := gt_of 70 (by decide +kernel) rfl
theorem kn_2 : Cond.initialized RX2 ∈ gT := gt_of 71 (by decide +kernel) rfl
theorem kn_9 : Cond.initialized RX9 ∈ gT := gt_of 73 (by decide +kernel) rfl
theorem kn_6 : Cond.initialized RX6 ∈ gT := gt_of 74 (by decide +kernel) rfl
theorem kn_4 : Cond.initialized RX4 ∈ gT := gt_of 75 (by decide +kernel) rfl
theorem kn_7 : Cond.initialized RX7 ∈ gT := gt_of 76 (by decide +kernel) rfl
theorem kn_8 : Cond.initialized RX8 ∈ gT := gt_of 81 (by decide +kernel) rfl
theorem kn_12 : Cond.initialized RX12 ∈ gT := gt_of 84 (by decide +kernel) rfl
theorem kn_3 : Cond.initialized RX3 ∈ gT := gt_of 85 (by decide +kernel) rfl
theorem kn_1 : Cond.initialized RX1 ∈ gT := gt_of 86 (by decide +kernel) rfl
theorem kn_5 : Cond.initialized RX5 ∈ gT := gt_of 87 (by decide +kernel) rfl
theorem kn_10 : Cond.initialized RX10 ∈ gT := gt_of 88 (by decide +kernel) rfl
theorem kn_0 : Cond.initialized RX0 ∈ gT := gt_of 89 (by decide +kernel) rfl
theorem kl_L_7 : Cond.classLink RL 7 "PutOut" ∈ gT := gt_of 91 (by decide +kernel) rfl
theorem ki_11 : Cond.instantiable RX11 9 ∈ gT := gt_of 92 (by decide +kernel) rfl
theorem kl_11_7 : Cond.classLink RX11 7 "PutOut$House" ∈ gT := gt_of 99 (by decide +kernel) rfl
theorem ki_2 : Cond.instantiable RX2 6 ∈ gT := gt_of 100 (by decide +kernel) rfl
theorem kl_2_21 : Cond.classLink RX2 21 "PutOut$Thing" ∈ gT := gt_of 105 (by decide +kernel) rfl
theorem ki_9 : Cond.instantiable RX9 13 ∈ gT := gt_of 110 (by decide +kernel) rfl
theorem ka_int : Cond.arrayClass .int ∈ gT := gt_of 174 (by decide +kernel) rfl
theorem kl_11_27 : Cond.classLink RX11 27 "PutOut$Reader" ∈ gT := gt_of 205 (by decide +kernel) rfl
theorem ki_6 : Cond.instantiable RX6 10 ∈ gT := gt_of 206 (by decide +kernel) rfl
theorem kl_11_34 : Cond.classLink RX11 34 "PutOut$Text" ∈ gT := gt_of 242 (by decide +kernel) rfl
theorem kl_11_43 : Cond.classLink RX11 43 "PutOut$Sheet" ∈ gT := gt_of 244 (by decide +kernel) rfl
theorem kl_11_49 : Cond.classLink RX11 49 "PutOut$Planner" ∈ gT := gt_of 246 (by decide +kernel) rfl
theorem ki_4 : Cond.instantiable RX4 12 ∈ gT := gt_of 247 (by decide +kernel) rfl
theorem kl_4_9 : Cond.classLink RX4 9 "PutOut$Thing" ∈ gT := gt_of 252 (by decide +kernel) rfl
theorem kl_4_49 : Cond.classLink RX4 49 "[[I" ∈ gT := gt_of 253 (by decide +kernel) rfl
theorem ki_7 : Cond.instantiable RX7 3 ∈ gT := gt_of 295 (by decide +kernel) rfl
theorem kl_6_56 : Cond.classLink RX6 56 "PutOut$Text" ∈ gT := gt_of 457 (by decide +kernel) rfl
theorem ki_8 : Cond.instantiable RX8 4 ∈ gT := gt_of 458 (by decide +kernel) rfl
theorem ka_byte : Cond.arrayClass .byte ∈ gT := gt_of 492 (by decide +kernel) rfl
theorem kl_11_258 : Cond.classLink RX11 258 "PutOut$Picture" ∈ gT := gt_of 554 (by decide +kernel) rfl
theorem ki_3 : Cond.instantiable RX3 13 ∈ gT := gt_of 555 (by decide +kernel) rfl
theorem kl_11_263 : Cond.classLink RX11 263 "PutOut$Clock" ∈ gT := gt_of 574 (by decide +kernel) rfl
theorem ki_1 : Cond.instantiable RX1 13 ∈ gT := gt_of 575 (by decide +kernel) rfl
theorem kl_11_266 : Cond.classLink RX11 266 "PutOut$Portrait" ∈ gT := gt_of 594 (by decide +kernel) rfl
theorem ki_5 : Cond.instantiable RX5 13 ∈ gT := gt_of 595 (by decide +kernel) rfl
theorem kl_11_269 : Cond.classLink RX11 269 "PutOut$Vase" ∈ gT := gt_of 614 (by decide +kernel) rfl
theorem ki_10 : Cond.instantiable RX10 13 ∈ gT := gt_of 615 (by decide +kernel) rfl
theorem kl_11_272 : Cond.classLink RX11 272 "PutOut$Broken" ∈ gT := gt_of 634 (by decide +kernel) rfl
theorem ki_0 : Cond.instantiable RX0 13 ∈ gT := gt_of 635 (by decide +kernel) rfl
theorem kl_11_99 : Cond.classLink RX11 99 "PutOut$Thing" ∈ gT := gt_of 654 (by decide +kernel) rfl
theorem kc_9_70 : Cond.constant RX9 70 (1000000) ∈ gT := gt_of 765 (by decide +kernel) rfl
theorem kc_J6_265 : Cond.constant RJ6 265 (1431655765) ∈ gT := gt_of 858 (by decide +kernel) rfl
theorem kc_J6_266 : Cond.constant RJ6 266 (858993459) ∈ gT := gt_of 859 (by decide +kernel) rfl
theorem kc_J6_267 : Cond.constant RJ6 267 (252645135) ∈ gT := gt_of 860 (by decide +kernel) rfl
theorem kc_4_167 : Cond.constant RX4 167 (1000000) ∈ gT := gt_of 937 (by decide +kernel) rfl
theorem kc_11_177 : Cond.constant RX11 177 (1000000) ∈ gT := gt_of 979 (by decide +kernel) rfl
theorem kc_4_139 : Cond.constant RX4 139 (1103515245) ∈ gT := gt_of 1064 (by decide +kernel) rfl
theorem kc_11_232 : Cond.constantLong RX11 232 (-4611686018427387904) ∈ gT := gt_of 1069 (by decide +kernel) rfl
theorem kl_L_10 : Cond.classLink RL 10 "PutOutModel" ∈ gT := gt_of 1137 (by decide +kernel) rfl
theorem ki_12 : Cond.instantiable RX12 56 ∈ gT := gt_of 1138 (by decide +kernel) rfl
theorem ka_boolean : Cond.arrayClass .boolean ∈ gT := gt_of 1315 (by decide +kernel) rfl
theorem kc_12_113 : Cond.constantLong RX12 113 (5) ∈ gT := gt_of 1320 (by decide +kernel) rfl
theorem kc_12_115 : Cond.constantLong RX12 115 (15) ∈ gT := gt_of 1324 (by decide +kernel) rfl
theorem kc_12_117 : Cond.constantLong RX12 117 (3) ∈ gT := gt_of 1325 (by decide +kernel) rfl
theorem kc_12_119 : Cond.constantLong RX12 119 (9) ∈ gT := gt_of 1326 (by decide +kernel) rfl
theorem kc_12_121 : Cond.constantLong RX12 121 (99) ∈ gT := gt_of 1331 (by decide +kernel) rfl
theorem kc_12_167 : Cond.constantLong RX12 167 (97) ∈ gT := gt_of 1363 (by decide +kernel) rfl
theorem kc_12_169 : Cond.constantLong RX12 169 (122) ∈ gT := gt_of 1364 (by decide +kernel) rfl
theorem kc_12_171 : Cond.constantLong RX12 171 (48) ∈ gT := gt_of 1365 (by decide +kernel) rfl
theorem kc_12_173 : Cond.constantLong RX12 173 (57) ∈ gT := gt_of 1366 (by decide +kernel) rfl
theorem kc_12_179 : Cond.constantLong RX12 179 (10) ∈ gT := gt_of 1367 (by decide +kernel) rfl
theorem kc_12_242 : Cond.constantLong RX12 242 (43) ∈ gT := gt_of 1420 (by decide +kernel) rfl
theorem kc_12_250 : Cond.constantLong RX12 250 (60) ∈ gT := gt_of 1421 (by decide +kernel) rfl
theorem kc_12_138 : Cond.constantLong RX12 138 (11) ∈ gT := gt_of 1429 (by decide +kernel) rfl
theorem kc_12_143 : Cond.constantLong RX12 143 (255) ∈ gT := gt_of 1438 (by decide +kernel) rfl
theorem kc_12_339 : Cond.constantLong RX12 339 (2) ∈ gT := gt_of 1522 (by decide +kernel) rfl
theorem kc_12_350 : Cond.constantLong RX12 350 (6) ∈ gT := gt_of 1547 (by decide +kernel) rfl
theorem kc_12_375 : Cond.constantLong RX12 375 (-1) ∈ gT := gt_of 1571 (by decide +kernel) rfl
theorem kc_12_364 : Cond.constant RX12 364 (1103515245) ∈ gT := gt_of 1580 (by decide +kernel) rfl
theorem kc_12_368 : Cond.constantLong RX12 368 (-4611686018427387904) ∈ gT := gt_of 1585 (by decide +kernel) rfl
theorem kc_12_373 : Cond.constantLong RX12 373 (21) ∈ gT := gt_of 1598 (by decide +kernel) rfl
theorem wo_inst : Cond.instanceMethod Lib.objectInit ∈ gT := gt_of 97 (by decide +kernel) rfl
theorem wo_code : Cond.code Lib.objectInit ⟨#[0xb1]⟩ 1 none ∈ gT := gt_of 98 (by decide +kernel) rfl
theorem wa_nat : Cond.native arraycopyName ∈ gT := gt_of 478 (by decide +kernel) rfl
theorem wa_st : Cond.static arraycopyName ∈ gT := gt_of 477 (by decide +kernel) rfl
