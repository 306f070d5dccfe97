theorem mX2_init : MK zX2_init 0 := ⟨gt_of 103 (by decide +kernel) rfl, gt_of 71 (by decide +kernel) rfl, by decide +kernel, by decide⟩
theorem mX2_isTaken : MK zX2_isTaken 1 := ⟨gt_of 680 (by decide +kernel) rfl, gt_of 71 (by decide +kernel) rfl, by decide +kernel, by decide⟩
theorem mX2_take : MK zX2_take 1 := ⟨gt_of 1081 (by decide +kernel) rfl, gt_of 71 (by decide +kernel) rfl, by decide +kernel, by decide⟩
theorem mX3_init : MK zX3_init 4 := ⟨gt_of 558 (by decide +kernel) rfl, gt_of 85 (by decide +kernel) rfl, by decide +kernel, by decide⟩
theorem mX3_stands : MK zX3_stands 1 := ⟨gt_of 670 (by decide +kernel) rfl, gt_of 85 (by decide +kernel) rfl, by decide +kernel, by decide⟩
theorem mX4_badDay : MK zX4_badDay 1 := ⟨gt_of 824 (by decide +kernel) rfl, gt_of 75 (by decide +kernel) rfl, by decide +kernel, by decide⟩
theorem mX4_bestFor : MK zX4_bestFor 2 := ⟨gt_of 884 (by decide +kernel) rfl, gt_of 75 (by decide +kernel) rfl, by decide +kernel, by decide⟩
theorem mX4_bitOf : MK zX4_bitOf 1 := ⟨gt_of 944 (by decide +kernel) rfl, gt_of 75 (by decide +kernel) rfl, by decide +kernel, by decide⟩
theorem mX4_costFrom : MK zX4_costFrom 5 := ⟨gt_of 941 (by decide +kernel) rfl, gt_of 75 (by decide +kernel) rfl, by decide +kernel, by decide⟩
theorem mX4_draw : MK zX4_draw 1 := ⟨gt_of 1063 (by decide +kernel) rfl, gt_of 75 (by decide +kernel) rfl, by decide +kernel, by decide⟩
theorem mX4_enterFound : MK zX4_enterFound 0 := ⟨gt_of 974 (by decide +kernel) rfl, gt_of 75 (by decide +kernel) rfl, by decide +kernel, by decide⟩
theorem mX4_enterNow : MK zX4_enterNow 0 := ⟨gt_of 820 (by decide +kernel) rfl, gt_of 75 (by decide +kernel) rfl, by decide +kernel, by decide⟩
theorem mX4_enters : MK zX4_enters 1 := ⟨gt_of 1021 (by decide +kernel) rfl, gt_of 75 (by decide +kernel) rfl, by decide +kernel, by decide⟩
theorem mX4_expected : MK zX4_expected 0 := ⟨gt_of 1040 (by decide +kernel) rfl, gt_of 75 (by decide +kernel) rfl, by decide +kernel, by decide⟩
theorem mX4_fillLeast : MK zX4_fillLeast 3 := ⟨gt_of 935 (by decide +kernel) rfl, gt_of 75 (by decide +kernel) rfl, by decide +kernel, by decide⟩
theorem mX4_follow : MK zX4_follow 2 := ⟨gt_of 949 (by decide +kernel) rfl, gt_of 75 (by decide +kernel) rfl, by decide +kernel, by decide⟩
theorem mX4_giveAway : MK zX4_giveAway 1 := ⟨gt_of 991 (by decide +kernel) rfl, gt_of 75 (by decide +kernel) rfl, by decide +kernel, by decide⟩
theorem mX4_init : MK zX4_init 0 := ⟨gt_of 250 (by decide +kernel) rfl, gt_of 75 (by decide +kernel) rfl, by decide +kernel, by decide⟩
theorem mX4_lackOf : MK zX4_lackOf 1 := ⟨gt_of 995 (by decide +kernel) rfl, gt_of 75 (by decide +kernel) rfl, by decide +kernel, by decide⟩
theorem mX4_leaveOut : MK zX4_leaveOut 2 := ⟨gt_of 983 (by decide +kernel) rfl, gt_of 75 (by decide +kernel) rfl, by decide +kernel, by decide⟩
theorem mX4_lookAround : MK zX4_lookAround 0 := ⟨gt_of 751 (by decide +kernel) rfl, gt_of 75 (by decide +kernel) rfl, by decide +kernel, by decide⟩
theorem mX4_onceCost : MK zX4_onceCost 0 := ⟨gt_of 961 (by decide +kernel) rfl, gt_of 75 (by decide +kernel) rfl, by decide +kernel, by decide⟩
theorem mX4_priceDay : MK zX4_priceDay 1 := ⟨gt_of 916 (by decide +kernel) rfl, gt_of 75 (by decide +kernel) rfl, by decide +kernel, by decide⟩
theorem mX4_priceMoves : MK zX4_priceMoves 0 := ⟨gt_of 902 (by decide +kernel) rfl, gt_of 75 (by decide +kernel) rfl, by decide +kernel, by decide⟩
theorem mX4_priceNothing : MK zX4_priceNothing 0 := ⟨gt_of 888 (by decide +kernel) rfl, gt_of 75 (by decide +kernel) rfl, by decide +kernel, by decide⟩
theorem mX4_search : MK zX4_search 1 := ⟨gt_of 930 (by decide +kernel) rfl, gt_of 75 (by decide +kernel) rfl, by decide +kernel, by decide⟩
theorem mX4_sits : MK zX4_sits 2 := ⟨gt_of 1013 (by decide +kernel) rfl, gt_of 75 (by decide +kernel) rfl, by decide +kernel, by decide⟩
theorem mX4_start : MK zX4_start 2 := ⟨gt_of 746 (by decide +kernel) rfl, gt_of 75 (by decide +kernel) rfl, by decide +kernel, by decide⟩
theorem mX4_surprised : MK zX4_surprised 0 := ⟨gt_of 1036 (by decide +kernel) rfl, gt_of 75 (by decide +kernel) rfl, by decide +kernel, by decide⟩
theorem mX4_thingsThat : MK zX4_thingsThat 2 := ⟨gt_of 864 (by decide +kernel) rfl, gt_of 75 (by decide +kernel) rfl, by decide +kernel, by decide⟩
theorem mX4_weekCost : MK zX4_weekCost 0 := ⟨gt_of 969 (by decide +kernel) rfl, gt_of 75 (by decide +kernel) rfl, by decide +kernel, by decide⟩
theorem mX5_init : MK zX5_init 4 := ⟨gt_of 598 (by decide +kernel) rfl, gt_of 87 (by decide +kernel) rfl, by decide +kernel, by decide⟩
theorem mX5_missed : MK zX5_missed 0 := ⟨gt_of 808 (by decide +kernel) rfl, gt_of 87 (by decide +kernel) rfl, by decide +kernel, by decide⟩
theorem mX5_offends : MK zX5_offends 1 := ⟨gt_of 785 (by decide +kernel) rfl, gt_of 87 (by decide +kernel) rfl, by decide +kernel, by decide⟩
theorem mX5_stands : MK zX5_stands 1 := ⟨gt_of 673 (by decide +kernel) rfl, gt_of 87 (by decide +kernel) rfl, by decide +kernel, by decide⟩
theorem mX6_advance : MK zX6_advance 0 := ⟨gt_of 369 (by decide +kernel) rfl, gt_of 74 (by decide +kernel) rfl, by decide +kernel, by decide⟩
theorem mX6_both : MK zX6_both 1 := ⟨gt_of 428 (by decide +kernel) rfl, gt_of 74 (by decide +kernel) rfl, by decide +kernel, by decide⟩
theorem mX6_comparison : MK zX6_comparison 1 := ⟨gt_of 436 (by decide +kernel) rfl, gt_of 74 (by decide +kernel) rfl, by decide +kernel, by decide⟩
theorem mX6_digits : MK zX6_digits 0 := ⟨gt_of 409 (by decide +kernel) rfl, gt_of 74 (by decide +kernel) rfl, by decide +kernel, by decide⟩
theorem mX6_either : MK zX6_either 1 := ⟨gt_of 424 (by decide +kernel) rfl, gt_of 74 (by decide +kernel) rfl, by decide +kernel, by decide⟩
theorem mX6_emit : MK zX6_emit 1 := ⟨gt_of 452 (by decide +kernel) rfl, gt_of 74 (by decide +kernel) rfl, by decide +kernel, by decide⟩
theorem mX6_expect : MK zX6_expect 1 := ⟨gt_of 416 (by decide +kernel) rfl, gt_of 74 (by decide +kernel) rfl, by decide +kernel, by decide⟩
theorem mX6_fail : MK zX6_fail 0 := ⟨gt_of 420 (by decide +kernel) rfl, gt_of 74 (by decide +kernel) rfl, by decide +kernel, by decide⟩
theorem mX6_init : MK zX6_init 0 := ⟨gt_of 209 (by decide +kernel) rfl, gt_of 74 (by decide +kernel) rfl, by decide +kernel, by decide⟩
theorem mX6_isDigit : MK zX6_isDigit 1 := ⟨gt_of 405 (by decide +kernel) rfl, gt_of 74 (by decide +kernel) rfl, by decide +kernel, by decide⟩
theorem mX6_isLetter : MK zX6_isLetter 1 := ⟨gt_of 372 (by decide +kernel) rfl, gt_of 74 (by decide +kernel) rfl, by decide +kernel, by decide⟩
theorem mX6_key : MK zX6_key 0 := ⟨gt_of 380 (by decide +kernel) rfl, gt_of 74 (by decide +kernel) rfl, by decide +kernel, by decide⟩
theorem mX6_made : MK zX6_made 0 := ⟨gt_of 456 (by decide +kernel) rfl, gt_of 74 (by decide +kernel) rfl, by decide +kernel, by decide⟩
theorem mX6_name : MK zX6_name 0 := ⟨gt_of 396 (by decide +kernel) rfl, gt_of 74 (by decide +kernel) rfl, by decide +kernel, by decide⟩
theorem mX6_negation : MK zX6_negation 1 := ⟨gt_of 432 (by decide +kernel) rfl, gt_of 74 (by decide +kernel) rfl, by decide +kernel, by decide⟩
theorem mX6_one : MK zX6_one 1 := ⟨gt_of 448 (by decide +kernel) rfl, gt_of 74 (by decide +kernel) rfl, by decide +kernel, by decide⟩
theorem mX6_read : MK zX6_read 2 := ⟨gt_of 365 (by decide +kernel) rfl, gt_of 74 (by decide +kernel) rfl, by decide +kernel, by decide⟩
theorem mX6_sign : MK zX6_sign 1 := ⟨gt_of 412 (by decide +kernel) rfl, gt_of 74 (by decide +kernel) rfl, by decide +kernel, by decide⟩
theorem mX6_spells : MK zX6_spells 1 := ⟨gt_of 385 (by decide +kernel) rfl, gt_of 74 (by decide +kernel) rfl, by decide +kernel, by decide⟩
theorem mX6_sum : MK zX6_sum 1 := ⟨gt_of 440 (by decide +kernel) rfl, gt_of 74 (by decide +kernel) rfl, by decide +kernel, by decide⟩
theorem mX6_term : MK zX6_term 1 := ⟨gt_of 444 (by decide +kernel) rfl, gt_of 74 (by decide +kernel) rfl, by decide +kernel, by decide⟩
theorem mX6_word : MK zX6_word 0 := ⟨gt_of 376 (by decide +kernel) rfl, gt_of 74 (by decide +kernel) rfl, by decide +kernel, by decide⟩
theorem mX7_become : MK zX7_become 2 := ⟨gt_of 1053 (by decide +kernel) rfl, gt_of 76 (by decide +kernel) rfl, by decide +kernel, by decide⟩
theorem mX7_holds : MK zX7_holds 2 := ⟨gt_of 1124 (by decide +kernel) rfl, gt_of 76 (by decide +kernel) rfl, by decide +kernel, by decide⟩
theorem mX7_init : MK zX7_init 0 := ⟨gt_of 298 (by decide +kernel) rfl, gt_of 76 (by decide +kernel) rfl, by decide +kernel, by decide⟩
theorem mX7_narrowed : MK zX7_narrowed 1 := ⟨gt_of 1116 (by decide +kernel) rfl, gt_of 76 (by decide +kernel) rfl, by decide +kernel, by decide⟩
theorem mX8_init : MK zX8_init 3 := ⟨gt_of 461 (by decide +kernel) rfl, gt_of 81 (by decide +kernel) rfl, by decide +kernel, by decide⟩
theorem mX8_joined : MK zX8_joined 3 := ⟨gt_of 712 (by decide +kernel) rfl, gt_of 81 (by decide +kernel) rfl, by decide +kernel, by decide⟩
theorem mX8_named : MK zX8_named 4 := ⟨gt_of 705 (by decide +kernel) rfl, gt_of 81 (by decide +kernel) rfl, by decide +kernel, by decide⟩
theorem mX8_pop : MK zX8_pop 0 := ⟨gt_of 709 (by decide +kernel) rfl, gt_of 81 (by decide +kernel) rfl, by decide +kernel, by decide⟩
theorem mX8_push : MK zX8_push 1 := ⟨gt_of 702 (by decide +kernel) rfl, gt_of 81 (by decide +kernel) rfl, by decide +kernel, by decide⟩
theorem mX8_tells : MK zX8_tells 4 := ⟨gt_of 698 (by decide +kernel) rfl, gt_of 81 (by decide +kernel) rfl, by decide +kernel, by decide⟩
theorem mX9_bad : MK zX9_bad 3 := ⟨gt_of 834 (by decide +kernel) rfl, gt_of 73 (by decide +kernel) rfl, by decide +kernel, by decide⟩
theorem mX9_change : MK zX9_change 2 := ⟨gt_of 545 (by decide +kernel) rfl, gt_of 73 (by decide +kernel) rfl, by decide +kernel, by decide⟩
theorem mX9_harm : MK zX9_harm 2 := ⟨gt_of 844 (by decide +kernel) rfl, gt_of 73 (by decide +kernel) rfl, by decide +kernel, by decide⟩
theorem mX9_init : MK zX9_init 4 := ⟨gt_of 113 (by decide +kernel) rfl, gt_of 73 (by decide +kernel) rfl, by decide +kernel, by decide⟩
theorem mX9_isBarred : MK zX9_isBarred 1 := ⟨gt_of 1032 (by decide +kernel) rfl, gt_of 73 (by decide +kernel) rfl, by decide +kernel, by decide⟩
theorem mX9_isMissed : MK zX9_isMissed 2 := ⟨gt_of 854 (by decide +kernel) rfl, gt_of 73 (by decide +kernel) rfl, by decide +kernel, by decide⟩
theorem mX9_isOffending : MK zX9_isOffending 2 := ⟨gt_of 875 (by decide +kernel) rfl, gt_of 73 (by decide +kernel) rfl, by decide +kernel, by decide⟩
theorem mX9_lackFor : MK zX9_lackFor 1 := ⟨gt_of 1005 (by decide +kernel) rfl, gt_of 73 (by decide +kernel) rfl, by decide +kernel, by decide⟩
theorem mX9_learn : MK zX9_learn 1 := ⟨gt_of 762 (by decide +kernel) rfl, gt_of 73 (by decide +kernel) rfl, by decide +kernel, by decide⟩
theorem mX9_missed : MK zX9_missed 0 := ⟨gt_of 816 (by decide +kernel) rfl, gt_of 73 (by decide +kernel) rfl, by decide +kernel, by decide⟩
theorem mX9_movesTo : MK zX9_movesTo 2 := ⟨gt_of 694 (by decide +kernel) rfl, gt_of 73 (by decide +kernel) rfl, by decide +kernel, by decide⟩
theorem mX9_offenceTo : MK zX9_offenceTo 1 := ⟨gt_of 769 (by decide +kernel) rfl, gt_of 73 (by decide +kernel) rfl, by decide +kernel, by decide⟩
theorem mX9_offends : MK zX9_offends 1 := ⟨gt_of 793 (by decide +kernel) rfl, gt_of 73 (by decide +kernel) rfl, by decide +kernel, by decide⟩
theorem mX9_priceDay : MK zX9_priceDay 2 := ⟨gt_of 926 (by decide +kernel) rfl, gt_of 73 (by decide +kernel) rfl, by decide +kernel, by decide⟩
theorem mX9_priceMoves : MK zX9_priceMoves 1 := ⟨gt_of 912 (by decide +kernel) rfl, gt_of 73 (by decide +kernel) rfl, by decide +kernel, by decide⟩
theorem mX9_priceNothing : MK zX9_priceNothing 1 := ⟨gt_of 898 (by decide +kernel) rfl, gt_of 73 (by decide +kernel) rfl, by decide +kernel, by decide⟩
theorem mX9_stands : MK zX9_stands 1 := ⟨gt_of 676 (by decide +kernel) rfl, gt_of 73 (by decide +kernel) rfl, by decide +kernel, by decide⟩
theorem mX9_take : MK zX9_take 1 := ⟨gt_of 1092 (by decide +kernel) rfl, gt_of 73 (by decide +kernel) rfl, by decide +kernel, by decide⟩
theorem fk_9_37 : ∀ {ci : Nat}, isTh ci → FK RX9 37 ci 0 := by
  intro ci h
  rcases h with rfl | rfl | rfl | rfl | rfl | rfl
  · exact ⟨by decide, by decide, "PutOut$Thing", gt_of 115 (by decide +kernel) rfl, Or.inl rfl⟩
  · exact ⟨by decide, by decide, "PutOut$Thing", gt_of 115 (by decide +kernel) rfl, Or.inl rfl⟩
  · exact ⟨by decide, by decide, "PutOut$Thing", gt_of 115 (by decide +kernel) rfl, Or.inl rfl⟩
  · exact ⟨by decide, by decide, "PutOut$Thing", gt_of 115 (by decide +kernel) rfl, Or.inl rfl⟩
  · exact ⟨by decide, by decide, "PutOut$Thing", gt_of 115 (by decide +kernel) rfl, Or.inl rfl⟩
  · exact ⟨by decide, by decide, "PutOut$Thing", gt_of 115 (by decide +kernel) rfl, Or.inl rfl⟩
theorem fk_11_130 : ∀ {ci : Nat}, isTh ci → FK RX11 130 ci 0 := by
  intro ci h
  rcases h with rfl | rfl | rfl | rfl | rfl | rfl
  · exact ⟨by decide, by decide, "PutOut$Thing", gt_of 116 (by decide +kernel) rfl, Or.inl rfl⟩
  · exact ⟨by decide, by decide, "PutOut$Thing", gt_of 116 (by decide +kernel) rfl, Or.inl rfl⟩
  · exact ⟨by decide, by decide, "PutOut$Thing", gt_of 116 (by decide +kernel) rfl, Or.inl rfl⟩
  · exact ⟨by decide, by decide, "PutOut$Thing", gt_of 116 (by decide +kernel) rfl, Or.inl rfl⟩
  · exact ⟨by decide, by decide, "PutOut$Thing", gt_of 116 (by decide +kernel) rfl, Or.inl rfl⟩
  · exact ⟨by decide, by decide, "PutOut$Thing", gt_of 116 (by decide +kernel) rfl, Or.inl rfl⟩
theorem fk_9_40 : ∀ {ci : Nat}, isTh ci → FK RX9 40 ci 1 := by
  intro ci h
  rcases h with rfl | rfl | rfl | rfl | rfl | rfl
  · exact ⟨by decide, by decide, "PutOut$Thing", gt_of 117 (by decide +kernel) rfl, Or.inl rfl⟩
  · exact ⟨by decide, by decide, "PutOut$Thing", gt_of 117 (by decide +kernel) rfl, Or.inl rfl⟩
  · exact ⟨by decide, by decide, "PutOut$Thing", gt_of 117 (by decide +kernel) rfl, Or.inl rfl⟩
  · exact ⟨by decide, by decide, "PutOut$Thing", gt_of 117 (by decide +kernel) rfl, Or.inl rfl⟩
  · exact ⟨by decide, by decide, "PutOut$Thing", gt_of 117 (by decide +kernel) rfl, Or.inl rfl⟩
  · exact ⟨by decide, by decide, "PutOut$Thing", gt_of 117 (by decide +kernel) rfl, Or.inl rfl⟩
theorem fk_8_56 : ∀ {ci : Nat}, isTh ci → FK RX8 56 ci 1 := by
  intro ci h
  rcases h with rfl | rfl | rfl | rfl | rfl | rfl
  · exact ⟨by decide, by decide, "PutOut$Thing", gt_of 118 (by decide +kernel) rfl, Or.inl rfl⟩
  · exact ⟨by decide, by decide, "PutOut$Thing", gt_of 118 (by decide +kernel) rfl, Or.inl rfl⟩
  · exact ⟨by decide, by decide, "PutOut$Thing", gt_of 118 (by decide +kernel) rfl, Or.inl rfl⟩
  · exact ⟨by decide, by decide, "PutOut$Thing", gt_of 118 (by decide +kernel) rfl, Or.inl rfl⟩
  · exact ⟨by decide, by decide, "PutOut$Thing", gt_of 118 (by decide +kernel) rfl, Or.inl rfl⟩
  · exact ⟨by decide, by decide, "PutOut$Thing", gt_of 118 (by decide +kernel) rfl, Or.inl rfl⟩
theorem fk_9_43 : ∀ {ci : Nat}, isTh ci → FK RX9 43 ci 2 := by
  intro ci h
  rcases h with rfl | rfl | rfl | rfl | rfl | rfl
  · exact ⟨by decide, by decide, "PutOut$Thing", gt_of 119 (by decide +kernel) rfl, Or.inl rfl⟩
  · exact ⟨by decide, by decide, "PutOut$Thing", gt_of 119 (by decide +kernel) rfl, Or.inl rfl⟩
  · exact ⟨by decide, by decide, "PutOut$Thing", gt_of 119 (by decide +kernel) rfl, Or.inl rfl⟩
  · exact ⟨by decide, by decide, "PutOut$Thing", gt_of 119 (by decide +kernel) rfl, Or.inl rfl⟩
  · exact ⟨by decide, by decide, "PutOut$Thing", gt_of 119 (by decide +kernel) rfl, Or.inl rfl⟩
  · exact ⟨by decide, by decide, "PutOut$Thing", gt_of 119 (by decide +kernel) rfl, Or.inl rfl⟩
theorem fk_10_11 : ∀ {ci : Nat}, isTh ci → FK RX10 11 ci 2 := by
  intro ci h
  rcases h with rfl | rfl | rfl | rfl | rfl | rfl
  · exact ⟨by decide, by decide, "PutOut$Vase", gt_of 120 (by decide +kernel) rfl, Or.inr (gt_of 121 (by decide +kernel) rfl)⟩
  · exact ⟨by decide, by decide, "PutOut$Vase", gt_of 120 (by decide +kernel) rfl, Or.inr (gt_of 121 (by decide +kernel) rfl)⟩
  · exact ⟨by decide, by decide, "PutOut$Vase", gt_of 120 (by decide +kernel) rfl, Or.inr (gt_of 121 (by decide +kernel) rfl)⟩
  · exact ⟨by decide, by decide, "PutOut$Vase", gt_of 120 (by decide +kernel) rfl, Or.inr (gt_of 121 (by decide +kernel) rfl)⟩
  · exact ⟨by decide, by decide, "PutOut$Vase", gt_of 120 (by decide +kernel) rfl, Or.inr (gt_of 121 (by decide +kernel) rfl)⟩
  · exact ⟨by decide, by decide, "PutOut$Vase", gt_of 120 (by decide +kernel) rfl, Or.inr (gt_of 121 (by decide +kernel) rfl)⟩
theorem fk_1_11 : ∀ {ci : Nat}, isTh ci → FK RX1 11 ci 2 := by
  intro ci h
  rcases h with rfl | rfl | rfl | rfl | rfl | rfl
  · exact ⟨by decide, by decide, "PutOut$Clock", gt_of 122 (by decide +kernel) rfl, Or.inr (gt_of 123 (by decide +kernel) rfl)⟩
  · exact ⟨by decide, by decide, "PutOut$Clock", gt_of 122 (by decide +kernel) rfl, Or.inr (gt_of 123 (by decide +kernel) rfl)⟩
  · exact ⟨by decide, by decide, "PutOut$Clock", gt_of 122 (by decide +kernel) rfl, Or.inr (gt_of 123 (by decide +kernel) rfl)⟩
  · exact ⟨by decide, by decide, "PutOut$Clock", gt_of 122 (by decide +kernel) rfl, Or.inr (gt_of 123 (by decide +kernel) rfl)⟩
  · exact ⟨by decide, by decide, "PutOut$Clock", gt_of 122 (by decide +kernel) rfl, Or.inr (gt_of 123 (by decide +kernel) rfl)⟩
  · exact ⟨by decide, by decide, "PutOut$Clock", gt_of 122 (by decide +kernel) rfl, Or.inr (gt_of 123 (by decide +kernel) rfl)⟩
theorem fk_8_67 : ∀ {ci : Nat}, isTh ci → FK RX8 67 ci 2 := by
  intro ci h
  rcases h with rfl | rfl | rfl | rfl | rfl | rfl
  · exact ⟨by decide, by decide, "PutOut$Thing", gt_of 124 (by decide +kernel) rfl, Or.inl rfl⟩
  · exact ⟨by decide, by decide, "PutOut$Thing", gt_of 124 (by decide +kernel) rfl, Or.inl rfl⟩
  · exact ⟨by decide, by decide, "PutOut$Thing", gt_of 124 (by decide +kernel) rfl, Or.inl rfl⟩
  · exact ⟨by decide, by decide, "PutOut$Thing", gt_of 124 (by decide +kernel) rfl, Or.inl rfl⟩
  · exact ⟨by decide, by decide, "PutOut$Thing", gt_of 124 (by decide +kernel) rfl, Or.inl rfl⟩
  · exact ⟨by decide, by decide, "PutOut$Thing", gt_of 124 (by decide +kernel) rfl, Or.inl rfl⟩
theorem fk_11_133 : ∀ {ci : Nat}, isTh ci → FK RX11 133 ci 2 := by
  intro ci h
  rcases h with rfl | rfl | rfl | rfl | rfl | rfl
  · exact ⟨by decide, by decide, "PutOut$Thing", gt_of 125 (by decide +kernel) rfl, Or.inl rfl⟩
  · exact ⟨by decide, by decide, "PutOut$Thing", gt_of 125 (by decide +kernel) rfl, Or.inl rfl⟩
  · exact ⟨by decide, by decide, "PutOut$Thing", gt_of 125 (by decide +kernel) rfl, Or.inl rfl⟩
  · exact ⟨by decide, by decide, "PutOut$Thing", gt_of 125 (by decide +kernel) rfl, Or.inl rfl⟩
  · exact ⟨by decide, by decide, "PutOut$Thing", gt_of 125 (by decide +kernel) rfl, Or.inl rfl⟩
  · exact ⟨by decide, by decide, "PutOut$Thing", gt_of 125 (by decide +kernel) rfl, Or.inl rfl⟩
theorem fk_9_49 : ∀ {ci : Nat}, isTh ci → FK RX9 49 ci 3 := by
  intro ci h
  rcases h with rfl | rfl | rfl | rfl | rfl | rfl
  · exact ⟨by decide, by decide, "PutOut$Thing", gt_of 126 (by decide +kernel) rfl, Or.inl rfl⟩
  · exact ⟨by decide, by decide, "PutOut$Thing", gt_of 126 (by decide +kernel) rfl, Or.inl rfl⟩
  · exact ⟨by decide, by decide, "PutOut$Thing", gt_of 126 (by decide +kernel) rfl, Or.inl rfl⟩
  · exact ⟨by decide, by decide, "PutOut$Thing", gt_of 126 (by decide +kernel) rfl, Or.inl rfl⟩
  · exact ⟨by decide, by decide, "PutOut$Thing", gt_of 126 (by decide +kernel) rfl, Or.inl rfl⟩
  · exact ⟨by decide, by decide, "PutOut$Thing", gt_of 126 (by decide +kernel) rfl, Or.inl rfl⟩
theorem fk_5_15 : ∀ {ci : Nat}, isTh ci → FK RX5 15 ci 3 := by
  intro ci h
  rcases h with rfl | rfl | rfl | rfl | rfl | rfl
  · exact ⟨by decide, by decide, "PutOut$Portrait", gt_of 127 (by decide +kernel) rfl, Or.inr (gt_of 128 (by decide +kernel) rfl)⟩
  · exact ⟨by decide, by decide, "PutOut$Portrait", gt_of 127 (by decide +kernel) rfl, Or.inr (gt_of 128 (by decide +kernel) rfl)⟩
  · exact ⟨by decide, by decide, "PutOut$Portrait", gt_of 127 (by decide +kernel) rfl, Or.inr (gt_of 128 (by decide +kernel) rfl)⟩
  · exact ⟨by decide, by decide, "PutOut$Portrait", gt_of 127 (by decide +kernel) rfl, Or.inr (gt_of 128 (by decide +kernel) rfl)⟩
  · exact ⟨by decide, by decide, "PutOut$Portrait", gt_of 127 (by decide +kernel) rfl, Or.inr (gt_of 128 (by decide +kernel) rfl)⟩
  · exact ⟨by decide, by decide, "PutOut$Portrait", gt_of 127 (by decide +kernel) rfl, Or.inr (gt_of 128 (by decide +kernel) rfl)⟩
theorem fk_8_61 : ∀ {ci : Nat}, isTh ci → FK RX8 61 ci 3 := by
  intro ci h
  rcases h with rfl | rfl | rfl | rfl | rfl | rfl
  · exact ⟨by decide, by decide, "PutOut$Thing", gt_of 129 (by decide +kernel) rfl, Or.inl rfl⟩
  · exact ⟨by decide, by decide, "PutOut$Thing", gt_of 129 (by decide +kernel) rfl, Or.inl rfl⟩
  · exact ⟨by decide, by decide, "PutOut$Thing", gt_of 129 (by decide +kernel) rfl, Or.inl rfl⟩
  · exact ⟨by decide, by decide, "PutOut$Thing", gt_of 129 (by decide +kernel) rfl, Or.inl rfl⟩
  · exact ⟨by decide, by decide, "PutOut$Thing", gt_of 129 (by decide +kernel) rfl, Or.inl rfl⟩
  · exact ⟨by decide, by decide, "PutOut$Thing", gt_of 129 (by decide +kernel) rfl, Or.inl rfl⟩
theorem fk_11_136 : ∀ {ci : Nat}, isTh ci → FK RX11 136 ci 3 := by
  intro ci h
  rcases h with rfl | rfl | rfl | rfl | rfl | rfl
  · exact ⟨by decide, by decide, "PutOut$Thing", gt_of 130 (by decide +kernel) rfl, Or.inl rfl⟩
  · exact ⟨by decide, by decide, "PutOut$Thing", gt_of 130 (by decide +kernel) rfl, Or.inl rfl⟩
  · exact ⟨by decide, by decide, "PutOut$Thing", gt_of 130 (by decide +kernel) rfl, Or.inl rfl⟩
  · exact ⟨by decide, by decide, "PutOut$Thing", gt_of 130 (by decide +kernel) rfl, Or.inl rfl⟩
  · exact ⟨by decide, by decide, "PutOut$Thing", gt_of 130 (by decide +kernel) rfl, Or.inl rfl⟩
  · exact ⟨by decide, by decide, "PutOut$Thing", gt_of 130 (by decide +kernel) rfl, Or.inl rfl⟩
theorem fk_4_110 : ∀ {ci : Nat}, isTh ci → FK RX4 110 ci 3 := by
  intro ci h
  rcases h with rfl | rfl | rfl | rfl | rfl | rfl
  · exact ⟨by decide, by decide, "PutOut$Thing", gt_of 131 (by decide +kernel) rfl, Or.inl rfl⟩
  · exact ⟨by decide, by decide, "PutOut$Thing", gt_of 131 (by decide +kernel) rfl, Or.inl rfl⟩
  · exact ⟨by decide, by decide, "PutOut$Thing", gt_of 131 (by decide +kernel) rfl, Or.inl rfl⟩
  · exact ⟨by decide, by decide, "PutOut$Thing", gt_of 131 (by decide +kernel) rfl, Or.inl rfl⟩
  · exact ⟨by decide, by decide, "PutOut$Thing", gt_of 131 (by decide +kernel) rfl, Or.inl rfl⟩
  · exact ⟨by decide, by decide, "PutOut$Thing", gt_of 131 (by decide +kernel) rfl, Or.inl rfl⟩
theorem fk_9_46 : ∀ {ci : Nat}, isTh ci → FK RX9 46 ci 4 := by
  intro ci h
  rcases h with rfl | rfl | rfl | rfl | rfl | rfl
  · exact ⟨by decide, by decide, "PutOut$Thing", gt_of 132 (by decide +kernel) rfl, Or.inl rfl⟩
  · exact ⟨by decide, by decide, "PutOut$Thing", gt_of 132 (by decide +kernel) rfl, Or.inl rfl⟩
  · exact ⟨by decide, by decide, "PutOut$Thing", gt_of 132 (by decide +kernel) rfl, Or.inl rfl⟩
  · exact ⟨by decide, by decide, "PutOut$Thing", gt_of 132 (by decide +kernel) rfl, Or.inl rfl⟩
  · exact ⟨by decide, by decide, "PutOut$Thing", gt_of 132 (by decide +kernel) rfl, Or.inl rfl⟩
  · exact ⟨by decide, by decide, "PutOut$Thing", gt_of 132 (by decide +kernel) rfl, Or.inl rfl⟩
theorem fk_8_64 : ∀ {ci : Nat}, isTh ci → FK RX8 64 ci 4 := by
  intro ci h
  rcases h with rfl | rfl | rfl | rfl | rfl | rfl
  · exact ⟨by decide, by decide, "PutOut$Thing", gt_of 133 (by decide +kernel) rfl, Or.inl rfl⟩
  · exact ⟨by decide, by decide, "PutOut$Thing", gt_of 133 (by decide +kernel) rfl, Or.inl rfl⟩
  · exact ⟨by decide, by decide, "PutOut$Thing", gt_of 133 (by decide +kernel) rfl, Or.inl rfl⟩
  · exact ⟨by decide, by decide, "PutOut$Thing", gt_of 133 (by decide +kernel) rfl, Or.inl rfl⟩
  · exact ⟨by decide, by decide, "PutOut$Thing", gt_of 133 (by decide +kernel) rfl, Or.inl rfl⟩
  · exact ⟨by decide, by decide, "PutOut$Thing", gt_of 133 (by decide +kernel) rfl, Or.inl rfl⟩
theorem fk_11_139 : ∀ {ci : Nat}, isTh ci → FK RX11 139 ci 4 := by
  intro ci h
  rcases h with rfl | rfl | rfl | rfl | rfl | rfl
  · exact ⟨by decide, by decide, "PutOut$Thing", gt_of 134 (by decide +kernel) rfl, Or.inl rfl⟩
  · exact ⟨by decide, by decide, "PutOut$Thing", gt_of 134 (by decide +kernel) rfl, Or.inl rfl⟩
  · exact ⟨by decide, by decide, "PutOut$Thing", gt_of 134 (by decide +kernel) rfl, Or.inl rfl⟩
  · exact ⟨by decide, by decide, "PutOut$Thing", gt_of 134 (by decide +kernel) rfl, Or.inl rfl⟩
  · exact ⟨by decide, by decide, "PutOut$Thing", gt_of 134 (by decide +kernel) rfl, Or.inl rfl⟩
  · exact ⟨by decide, by decide, "PutOut$Thing", gt_of 134 (by decide +kernel) rfl, Or.inl rfl⟩
theorem fk_9_9 : ∀ {ci : Nat}, isTh ci → FK RX9 9 ci 5 := by
  intro ci h
  rcases h with rfl | rfl | rfl | rfl | rfl | rfl
  · exact ⟨by decide, by decide, "PutOut$Thing", gt_of 135 (by decide +kernel) rfl, Or.inl rfl⟩
  · exact ⟨by decide, by decide, "PutOut$Thing", gt_of 135 (by decide +kernel) rfl, Or.inl rfl⟩
  · exact ⟨by decide, by decide, "PutOut$Thing", gt_of 135 (by decide +kernel) rfl, Or.inl rfl⟩
  · exact ⟨by decide, by decide, "PutOut$Thing", gt_of 135 (by decide +kernel) rfl, Or.inl rfl⟩
  · exact ⟨by decide, by decide, "PutOut$Thing", gt_of 135 (by decide +kernel) rfl, Or.inl rfl⟩
  · exact ⟨by decide, by decide, "PutOut$Thing", gt_of 135 (by decide +kernel) rfl, Or.inl rfl⟩
theorem fk_2_47 : ∀ {ci : Nat}, isTh ci → FK RX2 47 ci 5 := by
  intro ci h
  rcases h with rfl | rfl | rfl | rfl | rfl | rfl
  · exact ⟨by decide, by decide, "PutOut$Thing", gt_of 136 (by decide +kernel) rfl, Or.inl rfl⟩
  · exact ⟨by decide, by decide, "PutOut$Thing", gt_of 136 (by decide +kernel) rfl, Or.inl rfl⟩
  · exact ⟨by decide, by decide, "PutOut$Thing", gt_of 136 (by decide +kernel) rfl, Or.inl rfl⟩
  · exact ⟨by decide, by decide, "PutOut$Thing", gt_of 136 (by decide +kernel) rfl, Or.inl rfl⟩
  · exact ⟨by decide, by decide, "PutOut$Thing", gt_of 136 (by decide +kernel) rfl, Or.inl rfl⟩
  · exact ⟨by decide, by decide, "PutOut$Thing", gt_of 136 (by decide +kernel) rfl, Or.inl rfl⟩
theorem fk_11_114 : ∀ {ci : Nat}, isTh ci → FK RX11 114 ci 5 := by
  intro ci h
  rcases h with rfl | rfl | rfl | rfl | rfl | rfl
  · exact ⟨by decide, by decide, "PutOut$Thing", gt_of 137 (by decide +kernel) rfl, Or.inl rfl⟩
  · exact ⟨by decide, by decide, "PutOut$Thing", gt_of 137 (by decide +kernel) rfl, Or.inl rfl⟩
  · exact ⟨by decide, by decide, "PutOut$Thing", gt_of 137 (by decide +kernel) rfl, Or.inl rfl⟩
  · exact ⟨by decide, by decide, "PutOut$Thing", gt_of 137 (by decide +kernel) rfl, Or.inl rfl⟩
  · exact ⟨by decide, by decide, "PutOut$Thing", gt_of 137 (by decide +kernel) rfl, Or.inl rfl⟩
  · exact ⟨by decide, by decide, "PutOut$Thing", gt_of 137 (by decide +kernel) rfl, Or.inl rfl⟩
theorem fk_4_81 : ∀ {ci : Nat}, isTh ci → FK RX4 81 ci 5 := by
  intro ci h
  rcases h with rfl | rfl | rfl | rfl | rfl | rfl
  · exact ⟨by decide, by decide, "PutOut$Thing", gt_of 138 (by decide +kernel) rfl, Or.inl rfl⟩
  · exact ⟨by decide, by decide, "PutOut$Thing", gt_of 138 (by decide +kernel) rfl, Or.inl rfl⟩
  · exact ⟨by decide, by decide, "PutOut$Thing", gt_of 138 (by decide +kernel) rfl, Or.inl rfl⟩
  · exact ⟨by decide, by decide, "PutOut$Thing", gt_of 138 (by decide +kernel) rfl, Or.inl rfl⟩
  · exact ⟨by decide, by decide, "PutOut$Thing", gt_of 138 (by decide +kernel) rfl, Or.inl rfl⟩
  · exact ⟨by decide, by decide, "PutOut$Thing", gt_of 138 (by decide +kernel) rfl, Or.inl rfl⟩
theorem fk_9_15 : ∀ {ci : Nat}, isTh ci → FK RX9 15 ci 6 := by
  intro ci h
  rcases h with rfl | rfl | rfl | rfl | rfl | rfl
  · exact ⟨by decide, by decide, "PutOut$Thing", gt_of 139 (by decide +kernel) rfl, Or.inl rfl⟩
  · exact ⟨by decide, by decide, "PutOut$Thing", gt_of 139 (by decide +kernel) rfl, Or.inl rfl⟩
  · exact ⟨by decide, by decide, "PutOut$Thing", gt_of 139 (by decide +kernel) rfl, Or.inl rfl⟩
  · exact ⟨by decide, by decide, "PutOut$Thing", gt_of 139 (by decide +kernel) rfl, Or.inl rfl⟩
  · exact ⟨by decide, by decide, "PutOut$Thing", gt_of 139 (by decide +kernel) rfl, Or.inl rfl⟩
  · exact ⟨by decide, by decide, "PutOut$Thing", gt_of 139 (by decide +kernel) rfl, Or.inl rfl⟩
theorem fk_9_19 : ∀ {ci : Nat}, isTh ci → FK RX9 19 ci 7 := by
  intro ci h
  rcases h with rfl | rfl | rfl | rfl | rfl | rfl
  · exact ⟨by decide, by decide, "PutOut$Thing", gt_of 140 (by decide +kernel) rfl, Or.inl rfl⟩
  · exact ⟨by decide, by decide, "PutOut$Thing", gt_of 140 (by decide +kernel) rfl, Or.inl rfl⟩
  · exact ⟨by decide, by decide, "PutOut$Thing", gt_of 140 (by decide +kernel) rfl, Or.inl rfl⟩
  · exact ⟨by decide, by decide, "PutOut$Thing", gt_of 140 (by decide +kernel) rfl, Or.inl rfl⟩
  · exact ⟨by decide, by decide, "PutOut$Thing", gt_of 140 (by decide +kernel) rfl, Or.inl rfl⟩
  · exact ⟨by decide, by decide, "PutOut$Thing", gt_of 140 (by decide +kernel) rfl, Or.inl rfl⟩
theorem fk_9_22 : ∀ {ci : Nat}, isTh ci → FK RX9 22 ci 8 := by
  intro ci h
  rcases h with rfl | rfl | rfl | rfl | rfl | rfl
  · exact ⟨by decide, by decide, "PutOut$Thing", gt_of 141 (by decide +kernel) rfl, Or.inl rfl⟩
  · exact ⟨by decide, by decide, "PutOut$Thing", gt_of 141 (by decide +kernel) rfl, Or.inl rfl⟩
  · exact ⟨by decide, by decide, "PutOut$Thing", gt_of 141 (by decide +kernel) rfl, Or.inl rfl⟩
  · exact ⟨by decide, by decide, "PutOut$Thing", gt_of 141 (by decide +kernel) rfl, Or.inl rfl⟩
  · exact ⟨by decide, by decide, "PutOut$Thing", gt_of 141 (by decide +kernel) rfl, Or.inl rfl⟩
  · exact ⟨by decide, by decide, "PutOut$Thing", gt_of 141 (by decide +kernel) rfl, Or.inl rfl⟩
theorem fk_9_25 : ∀ {ci : Nat}, isTh ci → FK RX9 25 ci 9 := by
  intro ci h
  rcases h with rfl | rfl | rfl | rfl | rfl | rfl
  · exact ⟨by decide, by decide, "PutOut$Thing", gt_of 142 (by decide +kernel) rfl, Or.inl rfl⟩
  · exact ⟨by decide, by decide, "PutOut$Thing", gt_of 142 (by decide +kernel) rfl, Or.inl rfl⟩
  · exact ⟨by decide, by decide, "PutOut$Thing", gt_of 142 (by decide +kernel) rfl, Or.inl rfl⟩
  · exact ⟨by decide, by decide, "PutOut$Thing", gt_of 142 (by decide +kernel) rfl, Or.inl rfl⟩
  · exact ⟨by decide, by decide, "PutOut$Thing", gt_of 142 (by decide +kernel) rfl, Or.inl rfl⟩
  · exact ⟨by decide, by decide, "PutOut$Thing", gt_of 142 (by decide +kernel) rfl, Or.inl rfl⟩
theorem fk_9_28 : ∀ {ci : Nat}, isTh ci → FK RX9 28 ci 10 := by
  intro ci h
  rcases h with rfl | rfl | rfl | rfl | rfl | rfl
  · exact ⟨by decide, by decide, "PutOut$Thing", gt_of 143 (by decide +kernel) rfl, Or.inl rfl⟩
  · exact ⟨by decide, by decide, "PutOut$Thing", gt_of 143 (by decide +kernel) rfl, Or.inl rfl⟩
  · exact ⟨by decide, by decide, "PutOut$Thing", gt_of 143 (by decide +kernel) rfl, Or.inl rfl⟩
  · exact ⟨by decide, by decide, "PutOut$Thing", gt_of 143 (by decide +kernel) rfl, Or.inl rfl⟩
  · exact ⟨by decide, by decide, "PutOut$Thing", gt_of 143 (by decide +kernel) rfl, Or.inl rfl⟩
  · exact ⟨by decide, by decide, "PutOut$Thing", gt_of 143 (by decide +kernel) rfl, Or.inl rfl⟩
theorem fk_9_31 : ∀ {ci : Nat}, isTh ci → FK RX9 31 ci 11 := by
  intro ci h
  rcases h with rfl | rfl | rfl | rfl | rfl | rfl
  · exact ⟨by decide, by decide, "PutOut$Thing", gt_of 144 (by decide +kernel) rfl, Or.inl rfl⟩
  · exact ⟨by decide, by decide, "PutOut$Thing", gt_of 144 (by decide +kernel) rfl, Or.inl rfl⟩
  · exact ⟨by decide, by decide, "PutOut$Thing", gt_of 144 (by decide +kernel) rfl, Or.inl rfl⟩
  · exact ⟨by decide, by decide, "PutOut$Thing", gt_of 144 (by decide +kernel) rfl, Or.inl rfl⟩
  · exact ⟨by decide, by decide, "PutOut$Thing", gt_of 144 (by decide +kernel) rfl, Or.inl rfl⟩
  · exact ⟨by decide, by decide, "PutOut$Thing", gt_of 144 (by decide +kernel) rfl, Or.inl rfl⟩
theorem fk_9_34 : ∀ {ci : Nat}, isTh ci → FK RX9 34 ci 12 := by
  intro ci h
  rcases h with rfl | rfl | rfl | rfl | rfl | rfl
  · exact ⟨by decide, by decide, "PutOut$Thing", gt_of 145 (by decide +kernel) rfl, Or.inl rfl⟩
  · exact ⟨by decide, by decide, "PutOut$Thing", gt_of 145 (by decide +kernel) rfl, Or.inl rfl⟩
  · exact ⟨by decide, by decide, "PutOut$Thing", gt_of 145 (by decide +kernel) rfl, Or.inl rfl⟩
  · exact ⟨by decide, by decide, "PutOut$Thing", gt_of 145 (by decide +kernel) rfl, Or.inl rfl⟩
  · exact ⟨by decide, by decide, "PutOut$Thing", gt_of 145 (by decide +kernel) rfl, Or.inl rfl⟩
  · exact ⟨by decide, by decide, "PutOut$Thing", gt_of 145 (by decide +kernel) rfl, Or.inl rfl⟩
theorem fk_4_177 : ∀ {ci : Nat}, isTh ci → FK RX4 177 ci 12 := by
  intro ci h
  rcases h with rfl | rfl | rfl | rfl | rfl | rfl
  · exact ⟨by decide, by decide, "PutOut$Thing", gt_of 146 (by decide +kernel) rfl, Or.inl rfl⟩
  · exact ⟨by decide, by decide, "PutOut$Thing", gt_of 146 (by decide +kernel) rfl, Or.inl rfl⟩
  · exact ⟨by decide, by decide, "PutOut$Thing", gt_of 146 (by decide +kernel) rfl, Or.inl rfl⟩
  · exact ⟨by decide, by decide, "PutOut$Thing", gt_of 146 (by decide +kernel) rfl, Or.inl rfl⟩
  · exact ⟨by decide, by decide, "PutOut$Thing", gt_of 146 (by decide +kernel) rfl, Or.inl rfl⟩
  · exact ⟨by decide, by decide, "PutOut$Thing", gt_of 146 (by decide +kernel) rfl, Or.inl rfl⟩
theorem fk_2_9 : FK RX2 9 2 0 := ⟨by decide, by decide, "PutOut$House", gt_of 175 (by decide +kernel) rfl, Or.inl rfl⟩
theorem fk_4_58 : FK RX4 58 2 0 := ⟨by decide, by decide, "PutOut$House", gt_of 176 (by decide +kernel) rfl, Or.inl rfl⟩
theorem fk_11_77 : FK RX11 77 2 0 := ⟨by decide, by decide, "PutOut$House", gt_of 177 (by decide +kernel) rfl, Or.inl rfl⟩
theorem fk_2_15 : FK RX2 15 2 1 := ⟨by decide, by decide, "PutOut$House", gt_of 178 (by decide +kernel) rfl, Or.inl rfl⟩
theorem fk_4_65 : FK RX4 65 2 1 := ⟨by decide, by decide, "PutOut$House", gt_of 179 (by decide +kernel) rfl, Or.inl rfl⟩
theorem fk_11_84 : FK RX11 84 2 1 := ⟨by decide, by decide, "PutOut$House", gt_of 180 (by decide +kernel) rfl, Or.inl rfl⟩
theorem fk_2_18 : FK RX2 18 2 2 := ⟨by decide, by decide, "PutOut$House", gt_of 181 (by decide +kernel) rfl, Or.inl rfl⟩
theorem fk_4_66 : FK RX4 66 2 2 := ⟨by decide, by decide, "PutOut$House", gt_of 182 (by decide +kernel) rfl, Or.inl rfl⟩
theorem fk_11_87 : FK RX11 87 2 2 := ⟨by decide, by decide, "PutOut$House", gt_of 183 (by decide +kernel) rfl, Or.inl rfl⟩
theorem fk_2_23 : FK RX2 23 2 3 := ⟨by decide, by decide, "PutOut$House", gt_of 184 (by decide +kernel) rfl, Or.inl rfl⟩
theorem fk_4_54 : FK RX4 54 2 3 := ⟨by decide, by decide, "PutOut$House", gt_of 185 (by decide +kernel) rfl, Or.inl rfl⟩
theorem fk_11_94 : FK RX11 94 2 3 := ⟨by decide, by decide, "PutOut$House", gt_of 186 (by decide +kernel) rfl, Or.inl rfl⟩
theorem fk_2_27 : FK RX2 27 2 4 := ⟨by decide, by decide, "PutOut$House", gt_of 187 (by decide +kernel) rfl, Or.inl rfl⟩
theorem fk_4_57 : FK RX4 57 2 4 := ⟨by decide, by decide, "PutOut$House", gt_of 188 (by decide +kernel) rfl, Or.inl rfl⟩
theorem fk_11_108 : FK RX11 108 2 4 := ⟨by decide, by decide, "PutOut$House", gt_of 189 (by decide +kernel) rfl, Or.inl rfl⟩
theorem fk_2_31 : FK RX2 31 2 5 := ⟨by decide, by decide, "PutOut$House", gt_of 190 (by decide +kernel) rfl, Or.inl rfl⟩
theorem fk_11_146 : FK RX11 146 2 5 := ⟨by decide, by decide, "PutOut$House", gt_of 191 (by decide +kernel) rfl, Or.inl rfl⟩
theorem fk_6_9 : FK RX6 9 6 0 := ⟨by decide, by decide, "PutOut$Reader", gt_of 211 (by decide +kernel) rfl, Or.inl rfl⟩
theorem fk_6_15 : FK RX6 15 6 1 := ⟨by decide, by decide, "PutOut$Reader", gt_of 212 (by decide +kernel) rfl, Or.inl rfl⟩
theorem fk_6_19 : FK RX6 19 6 2 := ⟨by decide, by decide, "PutOut$Reader", gt_of 213 (by decide +kernel) rfl, Or.inl rfl⟩
theorem fk_6_22 : FK RX6 22 6 3 := ⟨by decide, by decide, "PutOut$Reader", gt_of 214 (by decide +kernel) rfl, Or.inl rfl⟩
theorem fk_6_25 : FK RX6 25 6 4 := ⟨by decide, by decide, "PutOut$Reader", gt_of 215 (by decide +kernel) rfl, Or.inl rfl⟩
theorem fk_6_28 : FK RX6 28 6 5 := ⟨by decide, by decide, "PutOut$Reader", gt_of 216 (by decide +kernel) rfl, Or.inl rfl⟩
theorem fk_6_31 : FK RX6 31 6 6 := ⟨by decide, by decide, "PutOut$Reader", gt_of 217 (by decide +kernel) rfl, Or.inl rfl⟩
theorem fk_6_34 : FK RX6 34 6 7 := ⟨by decide, by decide, "PutOut$Reader", gt_of 218 (by decide +kernel) rfl, Or.inl rfl⟩
