theorem dX6_spells_21 : decode cX6_spells 21 = .ok (.aload_n 1, 1) := by decide +kernel
theorem dX6_spells_22 : decode cX6_spells 22 = .ok (.invokevirtual 134, 3) := by decide +kernel
theorem dX6_spells_25 : decode cX6_spells 25 = .ok (.if_icmp .ge 30, 3) := by decide +kernel
theorem dX6_spells_28 : decode cX6_spells 28 = .ok (.aload_n 1, 1) := by decide +kernel
theorem dX6_spells_29 : decode cX6_spells 29 = .ok (.iload_n 2, 1) := by decide +kernel
theorem dX6_spells_30 : decode cX6_spells 30 = .ok (.invokevirtual 138, 3) := by decide +kernel
theorem dX6_spells_33 : decode cX6_spells 33 = .ok (.aload_n 0, 1) := by decide +kernel
theorem dX6_spells_34 : decode cX6_spells 34 = .ok (.getfield 9, 3) := by decide +kernel
theorem dX6_spells_37 : decode cX6_spells 37 = .ok (.aload_n 0, 1) := by decide +kernel
theorem dX6_spells_38 : decode cX6_spells 38 = .ok (.getfield 22, 3) := by decide +kernel
theorem dX6_spells_41 : decode cX6_spells 41 = .ok (.iload_n 2, 1) := by decide +kernel
theorem dX6_spells_42 : decode cX6_spells 42 = .ok (.iadd, 1) := by decide +kernel
theorem dX6_spells_43 : decode cX6_spells 43 = .ok (.iaload, 1) := by decide +kernel
theorem dX6_spells_44 : decode cX6_spells 44 = .ok (.if_icmp .eq 5, 3) := by decide +kernel
theorem dX6_spells_47 : decode cX6_spells 47 = .ok (.iconst 0, 1) := by decide +kernel
theorem dX6_spells_48 : decode cX6_spells 48 = .ok (.ireturn, 1) := by decide +kernel
theorem dX6_spells_49 : decode cX6_spells 49 = .ok (.iinc 2 1, 3) := by decide +kernel
theorem dX6_spells_52 : decode cX6_spells 52 = .ok (.goto (-32), 3) := by decide +kernel
theorem dX6_spells_55 : decode cX6_spells 55 = .ok (.iconst 1, 1) := by decide +kernel
theorem dX6_spells_56 : decode cX6_spells 56 = .ok (.ireturn, 1) := by decide +kernel
theorem dX6_digits_0 : decode cX6_digits 0 = .ok (.aload_n 0, 1) := by decide +kernel
theorem dX6_digits_1 : decode cX6_digits 1 = .ok (.iconst 0, 1) := by decide +kernel
theorem dX6_digits_2 : decode cX6_digits 2 = .ok (.putfield 28, 3) := by decide +kernel
theorem dX6_digits_5 : decode cX6_digits 5 = .ok (.aload_n 0, 1) := by decide +kernel
theorem dX6_digits_6 : decode cX6_digits 6 = .ok (.getfield 19, 3) := by decide +kernel
theorem dX6_digits_9 : decode cX6_digits 9 = .ok (.aload_n 0, 1) := by decide +kernel
theorem dX6_digits_10 : decode cX6_digits 10 = .ok (.getfield 15, 3) := by decide +kernel
theorem dX6_digits_13 : decode cX6_digits 13 = .ok (.if_icmp .ge 55, 3) := by decide +kernel
theorem dX6_digits_16 : decode cX6_digits 16 = .ok (.aload_n 0, 1) := by decide +kernel
theorem dX6_digits_17 : decode cX6_digits 17 = .ok (.getfield 9, 3) := by decide +kernel
theorem dX6_digits_20 : decode cX6_digits 20 = .ok (.aload_n 0, 1) := by decide +kernel
theorem dX6_digits_21 : decode cX6_digits 21 = .ok (.getfield 19, 3) := by decide +kernel
theorem dX6_digits_24 : decode cX6_digits 24 = .ok (.iaload, 1) := by decide +kernel
theorem dX6_digits_25 : decode cX6_digits 25 = .ok (.invokestatic 90, 3) := by decide +kernel
theorem dX6_digits_28 : decode cX6_digits 28 = .ok (.ifCond .eq 40, 3) := by decide +kernel
theorem dX6_digits_31 : decode cX6_digits 31 = .ok (.aload_n 0, 1) := by decide +kernel
theorem dX6_digits_32 : decode cX6_digits 32 = .ok (.aload_n 0, 1) := by decide +kernel
theorem dX6_digits_33 : decode cX6_digits 33 = .ok (.getfield 28, 3) := by decide +kernel
theorem dX6_digits_36 : decode cX6_digits 36 = .ok (.bipush 10, 2) := by decide +kernel
theorem dX6_digits_38 : decode cX6_digits 38 = .ok (.imul, 1) := by decide +kernel
theorem dX6_digits_39 : decode cX6_digits 39 = .ok (.aload_n 0, 1) := by decide +kernel
theorem dX6_digits_40 : decode cX6_digits 40 = .ok (.getfield 9, 3) := by decide +kernel
theorem dX6_digits_43 : decode cX6_digits 43 = .ok (.aload_n 0, 1) := by decide +kernel
theorem dX6_digits_44 : decode cX6_digits 44 = .ok (.getfield 19, 3) := by decide +kernel
theorem dX6_digits_47 : decode cX6_digits 47 = .ok (.iaload, 1) := by decide +kernel
theorem dX6_digits_48 : decode cX6_digits 48 = .ok (.iadd, 1) := by decide +kernel
theorem dX6_digits_49 : decode cX6_digits 49 = .ok (.bipush 48, 2) := by decide +kernel
theorem dX6_digits_51 : decode cX6_digits 51 = .ok (.isub, 1) := by decide +kernel
theorem dX6_digits_52 : decode cX6_digits 52 = .ok (.putfield 28, 3) := by decide +kernel
theorem dX6_digits_55 : decode cX6_digits 55 = .ok (.aload_n 0, 1) := by decide +kernel
theorem dX6_digits_56 : decode cX6_digits 56 = .ok (.dup, 1) := by decide +kernel
theorem dX6_digits_57 : decode cX6_digits 57 = .ok (.getfield 19, 3) := by decide +kernel
theorem dX6_digits_60 : decode cX6_digits 60 = .ok (.iconst 1, 1) := by decide +kernel
theorem dX6_digits_61 : decode cX6_digits 61 = .ok (.iadd, 1) := by decide +kernel
theorem dX6_digits_62 : decode cX6_digits 62 = .ok (.putfield 19, 3) := by decide +kernel
theorem dX6_digits_65 : decode cX6_digits 65 = .ok (.goto (-60), 3) := by decide +kernel
theorem dX6_digits_68 : decode cX6_digits 68 = .ok (.aload_n 0, 1) := by decide +kernel
theorem dX6_digits_69 : decode cX6_digits 69 = .ok (.getfield 19, 3) := by decide +kernel
theorem dX6_digits_72 : decode cX6_digits 72 = .ok (.aload_n 0, 1) := by decide +kernel
theorem dX6_digits_73 : decode cX6_digits 73 = .ok (.getfield 22, 3) := by decide +kernel
theorem dX6_digits_76 : decode cX6_digits 76 = .ok (.isub, 1) := by decide +kernel
theorem dX6_digits_77 : decode cX6_digits 77 = .ok (.iconst 4, 1) := by decide +kernel
theorem dX6_digits_78 : decode cX6_digits 78 = .ok (.if_icmp .le 8, 3) := by decide +kernel
theorem dX6_digits_81 : decode cX6_digits 81 = .ok (.bipush (-24), 2) := by decide +kernel
theorem dX6_digits_83 : decode cX6_digits 83 = .ok (.goto 5, 3) := by decide +kernel
theorem dX6_digits_86 : decode cX6_digits 86 = .ok (.bipush (-22), 2) := by decide +kernel
theorem dX6_digits_88 : decode cX6_digits 88 = .ok (.ireturn, 1) := by decide +kernel
theorem dX6_sign_0 : decode cX6_sign 0 = .ok (.iload_n 0, 1) := by decide +kernel
theorem dX6_sign_1 : decode cX6_sign 1 = .ok (.tableswitch 127 40 61 #[103, 106, 118, 112, 127, 115, 127, 127, 127, 127, 127, 127, 127, 127, 127, 127, 127, 127, 127, 109, 121, 124], 103) := by decide +kernel
theorem dX6_sign_104 : decode cX6_sign 104 = .ok (.bipush (-17), 2) := by decide +kernel
theorem dX6_sign_106 : decode cX6_sign 106 = .ok (.ireturn, 1) := by decide +kernel
theorem dX6_sign_107 : decode cX6_sign 107 = .ok (.bipush (-18), 2) := by decide +kernel
theorem dX6_sign_109 : decode cX6_sign 109 = .ok (.ireturn, 1) := by decide +kernel
theorem dX6_sign_110 : decode cX6_sign 110 = .ok (.bipush (-16), 2) := by decide +kernel
theorem dX6_sign_112 : decode cX6_sign 112 = .ok (.ireturn, 1) := by decide +kernel
theorem dX6_sign_113 : decode cX6_sign 113 = .ok (.bipush (-12), 2) := by decide +kernel
theorem dX6_sign_115 : decode cX6_sign 115 = .ok (.ireturn, 1) := by decide +kernel
theorem dX6_sign_116 : decode cX6_sign 116 = .ok (.bipush (-13), 2) := by decide +kernel
theorem dX6_sign_118 : decode cX6_sign 118 = .ok (.ireturn, 1) := by decide +kernel
theorem dX6_sign_119 : decode cX6_sign 119 = .ok (.bipush (-14), 2) := by decide +kernel
theorem dX6_sign_121 : decode cX6_sign 121 = .ok (.ireturn, 1) := by decide +kernel
theorem dX6_sign_122 : decode cX6_sign 122 = .ok (.bipush (-10), 2) := by decide +kernel
theorem dX6_sign_124 : decode cX6_sign 124 = .ok (.ireturn, 1) := by decide +kernel
theorem dX6_sign_125 : decode cX6_sign 125 = .ok (.bipush (-11), 2) := by decide +kernel
theorem dX6_sign_127 : decode cX6_sign 127 = .ok (.ireturn, 1) := by decide +kernel
theorem dX6_sign_128 : decode cX6_sign 128 = .ok (.bipush (-24), 2) := by decide +kernel
theorem dX6_sign_130 : decode cX6_sign 130 = .ok (.ireturn, 1) := by decide +kernel
theorem dX6_isLetter_0 : decode cX6_isLetter 0 = .ok (.iload_n 0, 1) := by decide +kernel
theorem dX6_isLetter_1 : decode cX6_isLetter 1 = .ok (.bipush 97, 2) := by decide +kernel
theorem dX6_isLetter_3 : decode cX6_isLetter 3 = .ok (.if_icmp .lt 13, 3) := by decide +kernel
theorem dX6_isLetter_6 : decode cX6_isLetter 6 = .ok (.iload_n 0, 1) := by decide +kernel
theorem dX6_isLetter_7 : decode cX6_isLetter 7 = .ok (.bipush 122, 2) := by decide +kernel
theorem dX6_isLetter_9 : decode cX6_isLetter 9 = .ok (.if_icmp .gt 7, 3) := by decide +kernel
theorem dX6_isLetter_12 : decode cX6_isLetter 12 = .ok (.iconst 1, 1) := by decide +kernel
theorem dX6_isLetter_13 : decode cX6_isLetter 13 = .ok (.goto 4, 3) := by decide +kernel
theorem dX6_isLetter_16 : decode cX6_isLetter 16 = .ok (.iconst 0, 1) := by decide +kernel
theorem dX6_isLetter_17 : decode cX6_isLetter 17 = .ok (.ireturn, 1) := by decide +kernel
theorem dX6_isDigit_0 : decode cX6_isDigit 0 = .ok (.iload_n 0, 1) := by decide +kernel
theorem dX6_isDigit_1 : decode cX6_isDigit 1 = .ok (.bipush 48, 2) := by decide +kernel
theorem dX6_isDigit_3 : decode cX6_isDigit 3 = .ok (.if_icmp .lt 13, 3) := by decide +kernel
theorem dX6_isDigit_6 : decode cX6_isDigit 6 = .ok (.iload_n 0, 1) := by decide +kernel
theorem dX6_isDigit_7 : decode cX6_isDigit 7 = .ok (.bipush 57, 2) := by decide +kernel
theorem dX6_isDigit_9 : decode cX6_isDigit 9 = .ok (.if_icmp .gt 7, 3) := by decide +kernel
theorem dX6_isDigit_12 : decode cX6_isDigit 12 = .ok (.iconst 1, 1) := by decide +kernel
theorem dX6_isDigit_13 : decode cX6_isDigit 13 = .ok (.goto 4, 3) := by decide +kernel
theorem dX6_isDigit_16 : decode cX6_isDigit 16 = .ok (.iconst 0, 1) := by decide +kernel
theorem dX6_isDigit_17 : decode cX6_isDigit 17 = .ok (.ireturn, 1) := by decide +kernel
