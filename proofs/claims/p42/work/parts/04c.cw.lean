set_option maxRecDepth 1000000 in
theorem cw_0 : Cond.code (MY 0) (MB 0) (ML 0) (MR 0) ∈ lw_tbl := lwC_in (i := (MP 0).1) (by rfl)
set_option maxRecDepth 1000000 in
theorem cw_1 : Cond.code (MY 1) (MB 1) (ML 1) (MR 1) ∈ lw_tbl := lwC_in (i := (MP 1).1) (by rfl)
set_option maxRecDepth 1000000 in
theorem cw_2 : Cond.code (MY 2) (MB 2) (ML 2) (MR 2) ∈ lw_tbl := lwC_in (i := (MP 2).1) (by rfl)
set_option maxRecDepth 1000000 in
theorem cw_3 : Cond.code (MY 3) (MB 3) (ML 3) (MR 3) ∈ lw_tbl := lwC_in (i := (MP 3).1) (by rfl)
set_option maxRecDepth 1000000 in
theorem cw_4 : Cond.code (MY 4) (MB 4) (ML 4) (MR 4) ∈ lw_tbl := lwC_in (i := (MP 4).1) (by rfl)
set_option maxRecDepth 1000000 in
theorem cw_5 : Cond.code (MY 5) (MB 5) (ML 5) (MR 5) ∈ lw_tbl := lwC_in (i := (MP 5).1) (by rfl)
set_option maxRecDepth 1000000 in
theorem cw_6 : Cond.code (MY 6) (MB 6) (ML 6) (MR 6) ∈ lw_tbl := lwC_in (i := (MP 6).1) (by rfl)
set_option maxRecDepth 1000000 in
theorem cw_7 : Cond.code (MY 7) (MB 7) (ML 7) (MR 7) ∈ lw_tbl := lwC_in (i := (MP 7).1) (by rfl)
set_option maxRecDepth 1000000 in
theorem cw_8 : Cond.code (MY 8) (MB 8) (ML 8) (MR 8) ∈ lw_tbl := lwC_in (i := (MP 8).1) (by rfl)
set_option maxRecDepth 1000000 in
theorem cw_9 : Cond.code (MY 9) (MB 9) (ML 9) (MR 9) ∈ lw_tbl := lwC_in (i := (MP 9).1) (by rfl)
set_option maxRecDepth 1000000 in
theorem cw_10 : Cond.code (MY 10) (MB 10) (ML 10) (MR 10) ∈ lw_tbl := lwC_in (i := (MP 10).1) (by rfl)
set_option maxRecDepth 1000000 in
theorem cw_11 : Cond.code (MY 11) (MB 11) (ML 11) (MR 11) ∈ lw_tbl := lwC_in (i := (MP 11).1) (by rfl)
set_option maxRecDepth 1000000 in
theorem cw_12 : Cond.code (MY 12) (MB 12) (ML 12) (MR 12) ∈ lw_tbl := lwC_in (i := (MP 12).1) (by rfl)
set_option maxRecDepth 1000000 in
theorem cw_13 : Cond.code (MY 13) (MB 13) (ML 13) (MR 13) ∈ lw_tbl := lwC_in (i := (MP 13).1) (by rfl)
set_option maxRecDepth 1000000 in
theorem cw_14 : Cond.code (MY 14) (MB 14) (ML 14) (MR 14) ∈ lw_tbl := lwC_in (i := (MP 14).1) (by rfl)
set_option maxRecDepth 1000000 in
theorem cw_15 : Cond.code (MY 15) (MB 15) (ML 15) (MR 15) ∈ lw_tbl := lwC_in (i := (MP 15).1) (by rfl)
set_option maxRecDepth 1000000 in
theorem cw_16 : Cond.code (MY 16) (MB 16) (ML 16) (MR 16) ∈ lw_tbl := lwC_in (i := (MP 16).1) (by rfl)
set_option maxRecDepth 1000000 in
theorem cw_17 : Cond.code (MY 17) (MB 17) (ML 17) (MR 17) ∈ lw_tbl := lwC_in (i := (MP 17).1) (by rfl)
set_option maxRecDepth 1000000 in
theorem cw_18 : Cond.code (MY 18) (MB 18) (ML 18) (MR 18) ∈ lw_tbl := lwC_in (i := (MP 18).1) (by rfl)
set_option maxRecDepth 1000000 in
theorem cw_19 : Cond.code (MY 19) (MB 19) (ML 19) (MR 19) ∈ lw_tbl := lwC_in (i := (MP 19).1) (by rfl)
set_option maxRecDepth 1000000 in
theorem cw_20 : Cond.code (MY 20) (MB 20) (ML 20) (MR 20) ∈ lw_tbl := lwC_in (i := (MP 20).1) (by rfl)
set_option maxRecDepth 1000000 in
theorem cw_21 : Cond.code (MY 21) (MB 21) (ML 21) (MR 21) ∈ lw_tbl := lwC_in (i := (MP 21).1) (by rfl)
set_option maxRecDepth 1000000 in
theorem cw_22 : Cond.code (MY 22) (MB 22) (ML 22) (MR 22) ∈ lw_tbl := lwC_in (i := (MP 22).1) (by rfl)
set_option maxRecDepth 1000000 in
theorem cw_23 : Cond.code (MY 23) (MB 23) (ML 23) (MR 23) ∈ lw_tbl := lwC_in (i := (MP 23).1) (by rfl)
set_option maxRecDepth 1000000 in
theorem cw_24 : Cond.code (MY 24) (MB 24) (ML 24) (MR 24) ∈ lw_tbl := lwC_in (i := (MP 24).1) (by rfl)
set_option maxRecDepth 1000000 in
theorem cw_25 : Cond.code (MY 25) (MB 25) (ML 25) (MR 25) ∈ lw_tbl := lwC_in (i := (MP 25).1) (by rfl)
set_option maxRecDepth 1000000 in
theorem cw_26 : Cond.code (MY 26) (MB 26) (ML 26) (MR 26) ∈ lw_tbl := lwC_in (i := (MP 26).1) (by rfl)
set_option maxRecDepth 1000000 in
theorem cw_27 : Cond.code (MY 27) (MB 27) (ML 27) (MR 27) ∈ lw_tbl := lwC_in (i := (MP 27).1) (by rfl)
set_option maxRecDepth 1000000 in
theorem cw_28 : Cond.code (MY 28) (MB 28) (ML 28) (MR 28) ∈ lw_tbl := lwC_in (i := (MP 28).1) (by rfl)
set_option maxRecDepth 1000000 in
theorem cw_29 : Cond.code (MY 29) (MB 29) (ML 29) (MR 29) ∈ lw_tbl := lwC_in (i := (MP 29).1) (by rfl)
set_option maxRecDepth 1000000 in
theorem cw_30 : Cond.code (MY 30) (MB 30) (ML 30) (MR 30) ∈ lw_tbl := lwC_in (i := (MP 30).1) (by rfl)
set_option maxRecDepth 1000000 in
theorem cw_31 : Cond.code (MY 31) (MB 31) (ML 31) (MR 31) ∈ lw_tbl := lwC_in (i := (MP 31).1) (by rfl)
set_option maxRecDepth 1000000 in
theorem cw_32 : Cond.code (MY 32) (MB 32) (ML 32) (MR 32) ∈ lw_tbl := lwC_in (i := (MP 32).1) (by rfl)
set_option maxRecDepth 1000000 in
theorem cw_33 : Cond.code (MY 33) (MB 33) (ML 33) (MR 33) ∈ lw_tbl := lwC_in (i := (MP 33).1) (by rfl)
set_option maxRecDepth 1000000 in
theorem cw_34 : Cond.code (MY 34) (MB 34) (ML 34) (MR 34) ∈ lw_tbl := lwC_in (i := (MP 34).1) (by rfl)
set_option maxRecDepth 1000000 in
theorem cw_35 : Cond.code (MY 35) (MB 35) (ML 35) (MR 35) ∈ lw_tbl := lwC_in (i := (MP 35).1) (by rfl)
set_option maxRecDepth 1000000 in
theorem cw_36 : Cond.code (MY 36) (MB 36) (ML 36) (MR 36) ∈ lw_tbl := lwC_in (i := (MP 36).1) (by rfl)
set_option maxRecDepth 1000000 in
theorem cw_37 : Cond.code (MY 37) (MB 37) (ML 37) (MR 37) ∈ lw_tbl := lwC_in (i := (MP 37).1) (by rfl)
set_option maxRecDepth 1000000 in
theorem cw_38 : Cond.code (MY 38) (MB 38) (ML 38) (MR 38) ∈ lw_tbl := lwC_in (i := (MP 38).1) (by rfl)
set_option maxRecDepth 1000000 in
theorem cw_39 : Cond.code (MY 39) (MB 39) (ML 39) (MR 39) ∈ lw_tbl := lwC_in (i := (MP 39).1) (by rfl)
set_option maxRecDepth 1000000 in
theorem cw_40 : Cond.code (MY 40) (MB 40) (ML 40) (MR 40) ∈ lw_tbl := lwC_in (i := (MP 40).1) (by rfl)
set_option maxRecDepth 1000000 in
theorem cw_41 : Cond.code (MY 41) (MB 41) (ML 41) (MR 41) ∈ lw_tbl := lwC_in (i := (MP 41).1) (by rfl)
set_option maxRecDepth 1000000 in
theorem cw_42 : Cond.code (MY 42) (MB 42) (ML 42) (MR 42) ∈ lw_tbl := lwC_in (i := (MP 42).1) (by rfl)
set_option maxRecDepth 1000000 in
theorem cw_43 : Cond.code (MY 43) (MB 43) (ML 43) (MR 43) ∈ lw_tbl := lwC_in (i := (MP 43).1) (by rfl)
set_option maxRecDepth 1000000 in
theorem cw_44 : Cond.code (MY 44) (MB 44) (ML 44) (MR 44) ∈ lw_tbl := lwC_in (i := (MP 44).1) (by rfl)
set_option maxRecDepth 1000000 in
theorem cw_45 : Cond.code (MY 45) (MB 45) (ML 45) (MR 45) ∈ lw_tbl := lwC_in (i := (MP 45).1) (by rfl)
set_option maxRecDepth 1000000 in
theorem cw_46 : Cond.code (MY 46) (MB 46) (ML 46) (MR 46) ∈ lw_tbl := lwC_in (i := (MP 46).1) (by rfl)
set_option maxRecDepth 1000000 in
theorem cw_47 : Cond.code (MY 47) (MB 47) (ML 47) (MR 47) ∈ lw_tbl := lwC_in (i := (MP 47).1) (by rfl)
set_option maxRecDepth 1000000 in
theorem cw_48 : Cond.code (MY 48) (MB 48) (ML 48) (MR 48) ∈ lw_tbl := lwC_in (i := (MP 48).1) (by rfl)
set_option maxRecDepth 1000000 in
theorem cw_49 : Cond.code (MY 49) (MB 49) (ML 49) (MR 49) ∈ lw_tbl := lwC_in (i := (MP 49).1) (by rfl)
set_option maxRecDepth 1000000 in
theorem cw_50 : Cond.code (MY 50) (MB 50) (ML 50) (MR 50) ∈ lw_tbl := lwC_in (i := (MP 50).1) (by rfl)
set_option maxRecDepth 1000000 in
theorem cw_51 : Cond.code (MY 51) (MB 51) (ML 51) (MR 51) ∈ lw_tbl := lwC_in (i := (MP 51).1) (by rfl)
set_option maxRecDepth 1000000 in
theorem cw_52 : Cond.code (MY 52) (MB 52) (ML 52) (MR 52) ∈ lw_tbl := lwC_in (i := (MP 52).1) (by rfl)
set_option maxRecDepth 1000000 in
theorem cw_53 : Cond.code (MY 53) (MB 53) (ML 53) (MR 53) ∈ lw_tbl := lwC_in (i := (MP 53).1) (by rfl)
set_option maxRecDepth 1000000 in
theorem cw_54 : Cond.code (MY 54) (MB 54) (ML 54) (MR 54) ∈ lw_tbl := lwC_in (i := (MP 54).1) (by rfl)
set_option maxRecDepth 1000000 in
theorem cw_55 : Cond.code (MY 55) (MB 55) (ML 55) (MR 55) ∈ lw_tbl := lwC_in (i := (MP 55).1) (by rfl)
set_option maxRecDepth 1000000 in
theorem cw_56 : Cond.code (MY 56) (MB 56) (ML 56) (MR 56) ∈ lw_tbl := lwC_in (i := (MP 56).1) (by rfl)
set_option maxRecDepth 1000000 in
theorem cw_57 : Cond.code (MY 57) (MB 57) (ML 57) (MR 57) ∈ lw_tbl := lwC_in (i := (MP 57).1) (by rfl)
set_option maxRecDepth 1000000 in
theorem cw_58 : Cond.code (MY 58) (MB 58) (ML 58) (MR 58) ∈ lw_tbl := lwC_in (i := (MP 58).1) (by rfl)
set_option maxRecDepth 1000000 in
theorem cw_59 : Cond.code (MY 59) (MB 59) (ML 59) (MR 59) ∈ lw_tbl := lwC_in (i := (MP 59).1) (by rfl)
set_option maxRecDepth 1000000 in
theorem cw_60 : Cond.code (MY 60) (MB 60) (ML 60) (MR 60) ∈ lw_tbl := lwC_in (i := (MP 60).1) (by rfl)
set_option maxRecDepth 1000000 in
theorem cw_61 : Cond.code (MY 61) (MB 61) (ML 61) (MR 61) ∈ lw_tbl := lwC_in (i := (MP 61).1) (by rfl)
set_option maxRecDepth 1000000 in
theorem cw_62 : Cond.code (MY 62) (MB 62) (ML 62) (MR 62) ∈ lw_tbl := lwC_in (i := (MP 62).1) (by rfl)
set_option maxRecDepth 1000000 in
theorem cw_63 : Cond.code (MY 63) (MB 63) (ML 63) (MR 63) ∈ lw_tbl := lwC_in (i := (MP 63).1) (by rfl)
set_option maxRecDepth 1000000 in
theorem cw_64 : Cond.code (MY 64) (MB 64) (ML 64) (MR 64) ∈ lw_tbl := lwC_in (i := (MP 64).1) (by rfl)
set_option maxRecDepth 1000000 in
theorem cw_65 : Cond.code (MY 65) (MB 65) (ML 65) (MR 65) ∈ lw_tbl := lwC_in (i := (MP 65).1) (by rfl)
set_option maxRecDepth 1000000 in
theorem cw_66 : Cond.code (MY 66) (MB 66) (ML 66) (MR 66) ∈ lw_tbl := lwC_in (i := (MP 66).1) (by rfl)
set_option maxRecDepth 1000000 in
theorem cw_67 : Cond.code (MY 67) (MB 67) (ML 67) (MR 67) ∈ lw_tbl := lwC_in (i := (MP 67).1) (by rfl)
set_option maxRecDepth 1000000 in
theorem cw_68 : Cond.code (MY 68) (MB 68) (ML 68) (MR 68) ∈ lw_tbl := lwC_in (i := (MP 68).1) (by rfl)
set_option maxRecDepth 1000000 in
theorem cw_69 : Cond.code (MY 69) (MB 69) (ML 69) (MR 69) ∈ lw_tbl := lwC_in (i := (MP 69).1) (by rfl)
set_option maxRecDepth 1000000 in
theorem cw_70 : Cond.code (MY 70) (MB 70) (ML 70) (MR 70) ∈ lw_tbl := lwC_in (i := (MP 70).1) (by rfl)
set_option maxRecDepth 1000000 in
theorem cw_71 : Cond.code (MY 71) (MB 71) (ML 71) (MR 71) ∈ lw_tbl := lwC_in (i := (MP 71).1) (by rfl)
set_option maxRecDepth 1000000 in
theorem cw_72 : Cond.code (MY 72) (MB 72) (ML 72) (MR 72) ∈ lw_tbl := lwC_in (i := (MP 72).1) (by rfl)
set_option maxRecDepth 1000000 in
theorem cw_73 : Cond.code (MY 73) (MB 73) (ML 73) (MR 73) ∈ lw_tbl := lwC_in (i := (MP 73).1) (by rfl)
set_option maxRecDepth 1000000 in
theorem cw_74 : Cond.code (MY 74) (MB 74) (ML 74) (MR 74) ∈ lw_tbl := lwC_in (i := (MP 74).1) (by rfl)
set_option maxRecDepth 1000000 in
theorem cw_75 : Cond.code (MY 75) (MB 75) (ML 75) (MR 75) ∈ lw_tbl := lwC_in (i := (MP 75).1) (by rfl)
set_option maxRecDepth 1000000 in
theorem cw_76 : Cond.code (MY 76) (MB 76) (ML 76) (MR 76) ∈ lw_tbl := lwC_in (i := (MP 76).1) (by rfl)
set_option maxRecDepth 1000000 in
theorem cw_77 : Cond.code (MY 77) (MB 77) (ML 77) (MR 77) ∈ lw_tbl := lwC_in (i := (MP 77).1) (by rfl)
set_option maxRecDepth 1000000 in
theorem cw_78 : Cond.code (MY 78) (MB 78) (ML 78) (MR 78) ∈ lw_tbl := lwC_in (i := (MP 78).1) (by rfl)
set_option maxRecDepth 1000000 in
theorem cw_79 : Cond.code (MY 79) (MB 79) (ML 79) (MR 79) ∈ lw_tbl := lwC_in (i := (MP 79).1) (by rfl)
set_option maxRecDepth 1000000 in
theorem cw_80 : Cond.code (MY 80) (MB 80) (ML 80) (MR 80) ∈ lw_tbl := lwC_in (i := (MP 80).1) (by rfl)
set_option maxRecDepth 1000000 in
theorem cw_81 : Cond.code (MY 81) (MB 81) (ML 81) (MR 81) ∈ lw_tbl := lwC_in (i := (MP 81).1) (by rfl)
set_option maxRecDepth 1000000 in
theorem cw_82 : Cond.code (MY 82) (MB 82) (ML 82) (MR 82) ∈ lw_tbl := lwC_in (i := (MP 82).1) (by rfl)
set_option maxRecDepth 1000000 in
theorem cw_83 : Cond.code (MY 83) (MB 83) (ML 83) (MR 83) ∈ lw_tbl := lwC_in (i := (MP 83).1) (by rfl)
set_option maxRecDepth 1000000 in
theorem cw_84 : Cond.code (MY 84) (MB 84) (ML 84) (MR 84) ∈ lw_tbl := lwC_in (i := (MP 84).1) (by rfl)
set_option maxRecDepth 1000000 in
theorem cw_85 : Cond.code (MY 85) (MB 85) (ML 85) (MR 85) ∈ lw_tbl := lwC_in (i := (MP 85).1) (by rfl)
set_option maxRecDepth 1000000 in
theorem cw_86 : Cond.code (MY 86) (MB 86) (ML 86) (MR 86) ∈ lw_tbl := lwC_in (i := (MP 86).1) (by rfl)
set_option maxRecDepth 1000000 in
theorem cw_87 : Cond.code (MY 87) (MB 87) (ML 87) (MR 87) ∈ lw_tbl := lwC_in (i := (MP 87).1) (by rfl)
set_option maxRecDepth 1000000 in
theorem cw_88 : Cond.code (MY 88) (MB 88) (ML 88) (MR 88) ∈ lw_tbl := lwC_in (i := (MP 88).1) (by rfl)
set_option maxRecDepth 1000000 in
theorem cw_89 : Cond.code (MY 89) (MB 89) (ML 89) (MR 89) ∈ lw_tbl := lwC_in (i := (MP 89).1) (by rfl)
set_option maxRecDepth 1000000 in
theorem cw_90 : Cond.code (MY 90) (MB 90) (ML 90) (MR 90) ∈ lw_tbl := lwC_in (i := (MP 90).1) (by rfl)
set_option maxRecDepth 1000000 in
theorem cw_91 : Cond.code (MY 91) (MB 91) (ML 91) (MR 91) ∈ lw_tbl := lwC_in (i := (MP 91).1) (by rfl)
set_option maxRecDepth 1000000 in
theorem cw_92 : Cond.code (MY 92) (MB 92) (ML 92) (MR 92) ∈ lw_tbl := lwC_in (i := (MP 92).1) (by rfl)
set_option maxRecDepth 1000000 in
theorem cw_93 : Cond.code (MY 93) (MB 93) (ML 93) (MR 93) ∈ lw_tbl := lwC_in (i := (MP 93).1) (by rfl)
set_option maxRecDepth 1000000 in
theorem cw_94 : Cond.code (MY 94) (MB 94) (ML 94) (MR 94) ∈ lw_tbl := lwC_in (i := (MP 94).1) (by rfl)
set_option maxRecDepth 1000000 in
theorem cw_95 : Cond.code (MY 95) (MB 95) (ML 95) (MR 95) ∈ lw_tbl := lwC_in (i := (MP 95).1) (by rfl)
set_option maxRecDepth 1000000 in
theorem cw_96 : Cond.code (MY 96) (MB 96) (ML 96) (MR 96) ∈ lw_tbl := lwC_in (i := (MP 96).1) (by rfl)
set_option maxRecDepth 1000000 in
theorem cw_97 : Cond.code (MY 97) (MB 97) (ML 97) (MR 97) ∈ lw_tbl := lwC_in (i := (MP 97).1) (by rfl)
set_option maxRecDepth 1000000 in
theorem cw_98 : Cond.code (MY 98) (MB 98) (ML 98) (MR 98) ∈ lw_tbl := lwC_in (i := (MP 98).1) (by rfl)
set_option maxRecDepth 1000000 in
theorem cw_99 : Cond.code (MY 99) (MB 99) (ML 99) (MR 99) ∈ lw_tbl := lwC_in (i := (MP 99).1) (by rfl)
set_option maxRecDepth 1000000 in
theorem cw_100 : Cond.code (MY 100) (MB 100) (ML 100) (MR 100) ∈ lw_tbl := lwC_in (i := (MP 100).1) (by rfl)
set_option maxRecDepth 1000000 in
theorem cw_101 : Cond.code (MY 101) (MB 101) (ML 101) (MR 101) ∈ lw_tbl := lwC_in (i := (MP 101).1) (by rfl)
set_option maxRecDepth 1000000 in
theorem cw_102 : Cond.code (MY 102) (MB 102) (ML 102) (MR 102) ∈ lw_tbl := lwC_in (i := (MP 102).1) (by rfl)
set_option maxRecDepth 1000000 in
theorem cw_103 : Cond.code (MY 103) (MB 103) (ML 103) (MR 103) ∈ lw_tbl := lwC_in (i := (MP 103).1) (by rfl)
set_option maxRecDepth 1000000 in
theorem cw_104 : Cond.code (MY 104) (MB 104) (ML 104) (MR 104) ∈ lw_tbl := lwC_in (i := (MP 104).1) (by rfl)
set_option maxRecDepth 1000000 in
theorem cw_105 : Cond.code (MY 105) (MB 105) (ML 105) (MR 105) ∈ lw_tbl := lwC_in (i := (MP 105).1) (by rfl)
set_option maxRecDepth 1000000 in
theorem cw_106 : Cond.code (MY 106) (MB 106) (ML 106) (MR 106) ∈ lw_tbl := lwC_in (i := (MP 106).1) (by rfl)
set_option maxRecDepth 1000000 in
theorem cw_107 : Cond.code (MY 107) (MB 107) (ML 107) (MR 107) ∈ lw_tbl := lwC_in (i := (MP 107).1) (by rfl)
set_option maxRecDepth 1000000 in
theorem cw_108 : Cond.code (MY 108) (MB 108) (ML 108) (MR 108) ∈ lw_tbl := lwC_in (i := (MP 108).1) (by rfl)
set_option maxRecDepth 1000000 in
theorem cw_109 : Cond.code (MY 109) (MB 109) (ML 109) (MR 109) ∈ lw_tbl := lwC_in (i := (MP 109).1) (by rfl)
set_option maxRecDepth 1000000 in
theorem cw_110 : Cond.code (MY 110) (MB 110) (ML 110) (MR 110) ∈ lw_tbl := lwC_in (i := (MP 110).1) (by rfl)
set_option maxRecDepth 1000000 in
theorem cw_111 : Cond.code (MY 111) (MB 111) (ML 111) (MR 111) ∈ lw_tbl := lwC_in (i := (MP 111).1) (by rfl)
set_option maxRecDepth 1000000 in
theorem cw_112 : Cond.code (MY 112) (MB 112) (ML 112) (MR 112) ∈ lw_tbl := lwC_in (i := (MP 112).1) (by rfl)
set_option maxRecDepth 1000000 in
theorem cw_113 : Cond.code (MY 113) (MB 113) (ML 113) (MR 113) ∈ lw_tbl := lwC_in (i := (MP 113).1) (by rfl)
set_option maxRecDepth 1000000 in
theorem cw_114 : Cond.code (MY 114) (MB 114) (ML 114) (MR 114) ∈ lw_tbl := lwC_in (i := (MP 114).1) (by rfl)
set_option maxRecDepth 1000000 in
theorem cw_115 : Cond.code (MY 115) (MB 115) (ML 115) (MR 115) ∈ lw_tbl := lwC_in (i := (MP 115).1) (by rfl)
set_option maxRecDepth 1000000 in
theorem cw_116 : Cond.code (MY 116) (MB 116) (ML 116) (MR 116) ∈ lw_tbl := lwC_in (i := (MP 116).1) (by rfl)
set_option maxRecDepth 1000000 in
theorem cw_117 : Cond.code (MY 117) (MB 117) (ML 117) (MR 117) ∈ lw_tbl := lwC_in (i := (MP 117).1) (by rfl)
set_option maxRecDepth 1000000 in
theorem cw_118 : Cond.code (MY 118) (MB 118) (ML 118) (MR 118) ∈ lw_tbl := lwC_in (i := (MP 118).1) (by rfl)
set_option maxRecDepth 1000000 in
theorem cw_119 : Cond.code (MY 119) (MB 119) (ML 119) (MR 119) ∈ lw_tbl := lwC_in (i := (MP 119).1) (by rfl)
set_option maxRecDepth 1000000 in
theorem cw_120 : Cond.code (MY 120) (MB 120) (ML 120) (MR 120) ∈ lw_tbl := lwC_in (i := (MP 120).1) (by rfl)
set_option maxRecDepth 1000000 in
theorem cw_121 : Cond.code (MY 121) (MB 121) (ML 121) (MR 121) ∈ lw_tbl := lwC_in (i := (MP 121).1) (by rfl)
set_option maxRecDepth 1000000 in
theorem cw_122 : Cond.code (MY 122) (MB 122) (ML 122) (MR 122) ∈ lw_tbl := lwC_in (i := (MP 122).1) (by rfl)
set_option maxRecDepth 1000000 in
theorem cw_123 : Cond.code (MY 123) (MB 123) (ML 123) (MR 123) ∈ lw_tbl := lwC_in (i := (MP 123).1) (by rfl)
set_option maxRecDepth 1000000 in
theorem cw_124 : Cond.code (MY 124) (MB 124) (ML 124) (MR 124) ∈ lw_tbl := lwC_in (i := (MP 124).1) (by rfl)
set_option maxRecDepth 1000000 in
theorem cw_125 : Cond.code (MY 125) (MB 125) (ML 125) (MR 125) ∈ lw_tbl := lwC_in (i := (MP 125).1) (by rfl)
set_option maxRecDepth 1000000 in
theorem cw_126 : Cond.code (MY 126) (MB 126) (ML 126) (MR 126) ∈ lw_tbl := lwC_in (i := (MP 126).1) (by rfl)
set_option maxRecDepth 1000000 in
theorem cw_127 : Cond.code (MY 127) (MB 127) (ML 127) (MR 127) ∈ lw_tbl := lwC_in (i := (MP 127).1) (by rfl)
set_option maxRecDepth 1000000 in
theorem cw_128 : Cond.code (MY 128) (MB 128) (ML 128) (MR 128) ∈ lw_tbl := lwC_in (i := (MP 128).1) (by rfl)
set_option maxRecDepth 1000000 in
theorem cw_129 : Cond.code (MY 129) (MB 129) (ML 129) (MR 129) ∈ lw_tbl := lwC_in (i := (MP 129).1) (by rfl)
set_option maxRecDepth 1000000 in
theorem cw_130 : Cond.code (MY 130) (MB 130) (ML 130) (MR 130) ∈ lw_tbl := lwC_in (i := (MP 130).1) (by rfl)
set_option maxRecDepth 1000000 in
theorem cw_131 : Cond.code (MY 131) (MB 131) (ML 131) (MR 131) ∈ lw_tbl := lwC_in (i := (MP 131).1) (by rfl)
set_option maxRecDepth 1000000 in
theorem cw_132 : Cond.code (MY 132) (MB 132) (ML 132) (MR 132) ∈ lw_tbl := lwC_in (i := (MP 132).1) (by rfl)
set_option maxRecDepth 1000000 in
theorem cw_133 : Cond.code (MY 133) (MB 133) (ML 133) (MR 133) ∈ lw_tbl := lwC_in (i := (MP 133).1) (by rfl)
set_option maxRecDepth 1000000 in
theorem cw_134 : Cond.code (MY 134) (MB 134) (ML 134) (MR 134) ∈ lw_tbl := lwC_in (i := (MP 134).1) (by rfl)
set_option maxRecDepth 1000000 in
theorem cw_135 : Cond.code (MY 135) (MB 135) (ML 135) (MR 135) ∈ lw_tbl := lwC_in (i := (MP 135).1) (by rfl)
set_option maxRecDepth 1000000 in
theorem cw_136 : Cond.code (MY 136) (MB 136) (ML 136) (MR 136) ∈ lw_tbl := lwC_in (i := (MP 136).1) (by rfl)
set_option maxRecDepth 1000000 in
theorem cw_137 : Cond.code (MY 137) (MB 137) (ML 137) (MR 137) ∈ lw_tbl := lwC_in (i := (MP 137).1) (by rfl)
set_option maxRecDepth 1000000 in
theorem cw_138 : Cond.code (MY 138) (MB 138) (ML 138) (MR 138) ∈ lw_tbl := lwC_in (i := (MP 138).1) (by rfl)
set_option maxRecDepth 1000000 in
theorem cw_139 : Cond.code (MY 139) (MB 139) (ML 139) (MR 139) ∈ lw_tbl := lwC_in (i := (MP 139).1) (by rfl)
set_option maxRecDepth 1000000 in
theorem cw_140 : Cond.code (MY 140) (MB 140) (ML 140) (MR 140) ∈ lw_tbl := lwC_in (i := (MP 140).1) (by rfl)
set_option maxRecDepth 1000000 in
theorem cw_141 : Cond.code (MY 141) (MB 141) (ML 141) (MR 141) ∈ lw_tbl := lwC_in (i := (MP 141).1) (by rfl)
set_option maxRecDepth 1000000 in
theorem cw_142 : Cond.code (MY 142) (MB 142) (ML 142) (MR 142) ∈ lw_tbl := lwC_in (i := (MP 142).1) (by rfl)
set_option maxRecDepth 1000000 in
theorem cw_143 : Cond.code (MY 143) (MB 143) (ML 143) (MR 143) ∈ lw_tbl := lwC_in (i := (MP 143).1) (by rfl)
set_option maxRecDepth 1000000 in
theorem cw_144 : Cond.code (MY 144) (MB 144) (ML 144) (MR 144) ∈ lw_tbl := lwC_in (i := (MP 144).1) (by rfl)
set_option maxRecDepth 1000000 in
theorem cw_145 : Cond.code (MY 145) (MB 145) (ML 145) (MR 145) ∈ lw_tbl := lwC_in (i := (MP 145).1) (by rfl)
set_option maxRecDepth 1000000 in
theorem cw_146 : Cond.code (MY 146) (MB 146) (ML 146) (MR 146) ∈ lw_tbl := lwC_in (i := (MP 146).1) (by rfl)
set_option maxRecDepth 1000000 in
theorem cw_147 : Cond.code (MY 147) (MB 147) (ML 147) (MR 147) ∈ lw_tbl := lwC_in (i := (MP 147).1) (by rfl)
set_option maxRecDepth 1000000 in
theorem cw_148 : Cond.code (MY 148) (MB 148) (ML 148) (MR 148) ∈ lw_tbl := lwC_in (i := (MP 148).1) (by rfl)
set_option maxRecDepth 1000000 in
theorem cw_149 : Cond.code (MY 149) (MB 149) (ML 149) (MR 149) ∈ lw_tbl := lwC_in (i := (MP 149).1) (by rfl)
set_option maxRecDepth 1000000 in
theorem cw_150 : Cond.code (MY 150) (MB 150) (ML 150) (MR 150) ∈ lw_tbl := lwC_in (i := (MP 150).1) (by rfl)
set_option maxRecDepth 1000000 in
theorem cw_151 : Cond.code (MY 151) (MB 151) (ML 151) (MR 151) ∈ lw_tbl := lwC_in (i := (MP 151).1) (by rfl)
set_option maxRecDepth 1000000 in
theorem cw_152 : Cond.code (MY 152) (MB 152) (ML 152) (MR 152) ∈ lw_tbl := lwC_in (i := (MP 152).1) (by rfl)
set_option maxRecDepth 1000000 in
theorem cw_153 : Cond.code (MY 153) (MB 153) (ML 153) (MR 153) ∈ lw_tbl := lwC_in (i := (MP 153).1) (by rfl)
set_option maxRecDepth 1000000 in
theorem cw_154 : Cond.code (MY 154) (MB 154) (ML 154) (MR 154) ∈ lw_tbl := lwC_in (i := (MP 154).1) (by rfl)
set_option maxRecDepth 1000000 in
theorem cw_155 : Cond.code (MY 155) (MB 155) (ML 155) (MR 155) ∈ lw_tbl := lwC_in (i := (MP 155).1) (by rfl)
set_option maxRecDepth 1000000 in
theorem cw_156 : Cond.code (MY 156) (MB 156) (ML 156) (MR 156) ∈ lw_tbl := lwC_in (i := (MP 156).1) (by rfl)
set_option maxRecDepth 1000000 in
theorem cw_157 : Cond.code (MY 157) (MB 157) (ML 157) (MR 157) ∈ lw_tbl := lwC_in (i := (MP 157).1) (by rfl)
set_option maxRecDepth 1000000 in
theorem cw_158 : Cond.code (MY 158) (MB 158) (ML 158) (MR 158) ∈ lw_tbl := lwC_in (i := (MP 158).1) (by rfl)
set_option maxRecDepth 1000000 in
theorem cw_159 : Cond.code (MY 159) (MB 159) (ML 159) (MR 159) ∈ lw_tbl := lwC_in (i := (MP 159).1) (by rfl)
set_option maxRecDepth 1000000 in
theorem cw_160 : Cond.code (MY 160) (MB 160) (ML 160) (MR 160) ∈ lw_tbl := lwC_in (i := (MP 160).1) (by rfl)
set_option maxRecDepth 1000000 in
theorem cw_161 : Cond.code (MY 161) (MB 161) (ML 161) (MR 161) ∈ lw_tbl := lwC_in (i := (MP 161).1) (by rfl)
set_option maxRecDepth 1000000 in
theorem cw_162 : Cond.code (MY 162) (MB 162) (ML 162) (MR 162) ∈ lw_tbl := lwC_in (i := (MP 162).1) (by rfl)
set_option maxRecDepth 1000000 in
theorem cw_163 : Cond.code (MY 163) (MB 163) (ML 163) (MR 163) ∈ lw_tbl := lwC_in (i := (MP 163).1) (by rfl)
set_option maxRecDepth 1000000 in
theorem cw_164 : Cond.code (MY 164) (MB 164) (ML 164) (MR 164) ∈ lw_tbl := lwC_in (i := (MP 164).1) (by rfl)
set_option maxRecDepth 1000000 in
theorem cw_165 : Cond.code (MY 165) (MB 165) (ML 165) (MR 165) ∈ lw_tbl := lwC_in (i := (MP 165).1) (by rfl)
set_option maxRecDepth 1000000 in
theorem cw_166 : Cond.code (MY 166) (MB 166) (ML 166) (MR 166) ∈ lw_tbl := lwC_in (i := (MP 166).1) (by rfl)
set_option maxRecDepth 1000000 in
theorem cw_167 : Cond.code (MY 167) (MB 167) (ML 167) (MR 167) ∈ lw_tbl := lwC_in (i := (MP 167).1) (by rfl)
set_option maxRecDepth 1000000 in
theorem cw_168 : Cond.code (MY 168) (MB 168) (ML 168) (MR 168) ∈ lw_tbl := lwC_in (i := (MP 168).1) (by rfl)
set_option maxRecDepth 1000000 in
theorem cw_169 : Cond.code (MY 169) (MB 169) (ML 169) (MR 169) ∈ lw_tbl := lwC_in (i := (MP 169).1) (by rfl)
set_option maxRecDepth 1000000 in
theorem cw_170 : Cond.code (MY 170) (MB 170) (ML 170) (MR 170) ∈ lw_tbl := lwC_in (i := (MP 170).1) (by rfl)
set_option maxRecDepth 1000000 in
theorem cw_171 : Cond.code (MY 171) (MB 171) (ML 171) (MR 171) ∈ lw_tbl := lwC_in (i := (MP 171).1) (by rfl)
set_option maxRecDepth 1000000 in
theorem cw_172 : Cond.code (MY 172) (MB 172) (ML 172) (MR 172) ∈ lw_tbl := lwC_in (i := (MP 172).1) (by rfl)
set_option maxRecDepth 1000000 in
theorem cw_173 : Cond.code (MY 173) (MB 173) (ML 173) (MR 173) ∈ lw_tbl := lwC_in (i := (MP 173).1) (by rfl)
set_option maxRecDepth 1000000 in
theorem cw_174 : Cond.code (MY 174) (MB 174) (ML 174) (MR 174) ∈ lw_tbl := lwC_in (i := (MP 174).1) (by rfl)
set_option maxRecDepth 1000000 in
theorem cw_175 : Cond.code (MY 175) (MB 175) (ML 175) (MR 175) ∈ lw_tbl := lwC_in (i := (MP 175).1) (by rfl)
set_option maxRecDepth 1000000 in
theorem cw_176 : Cond.code (MY 176) (MB 176) (ML 176) (MR 176) ∈ lw_tbl := lwC_in (i := (MP 176).1) (by rfl)
set_option maxRecDepth 1000000 in
theorem cw_177 : Cond.code (MY 177) (MB 177) (ML 177) (MR 177) ∈ lw_tbl := lwC_in (i := (MP 177).1) (by rfl)
set_option maxRecDepth 1000000 in
theorem cw_178 : Cond.code (MY 178) (MB 178) (ML 178) (MR 178) ∈ lw_tbl := lwC_in (i := (MP 178).1) (by rfl)
set_option maxRecDepth 1000000 in
theorem cw_179 : Cond.code (MY 179) (MB 179) (ML 179) (MR 179) ∈ lw_tbl := lwC_in (i := (MP 179).1) (by rfl)
set_option maxRecDepth 1000000 in
theorem cw_180 : Cond.code (MY 180) (MB 180) (ML 180) (MR 180) ∈ lw_tbl := lwC_in (i := (MP 180).1) (by rfl)
set_option maxRecDepth 1000000 in
theorem cw_181 : Cond.code (MY 181) (MB 181) (ML 181) (MR 181) ∈ lw_tbl := lwC_in (i := (MP 181).1) (by rfl)
set_option maxRecDepth 1000000 in
theorem cw_182 : Cond.code (MY 182) (MB 182) (ML 182) (MR 182) ∈ lw_tbl := lwC_in (i := (MP 182).1) (by rfl)
set_option maxRecDepth 1000000 in
theorem cw_183 : Cond.code (MY 183) (MB 183) (ML 183) (MR 183) ∈ lw_tbl := lwC_in (i := (MP 183).1) (by rfl)
set_option maxRecDepth 1000000 in
theorem cw_184 : Cond.code (MY 184) (MB 184) (ML 184) (MR 184) ∈ lw_tbl := lwC_in (i := (MP 184).1) (by rfl)
set_option maxRecDepth 1000000 in
theorem cw_185 : Cond.code (MY 185) (MB 185) (ML 185) (MR 185) ∈ lw_tbl := lwC_in (i := (MP 185).1) (by rfl)
set_option maxRecDepth 1000000 in
theorem cw_186 : Cond.code (MY 186) (MB 186) (ML 186) (MR 186) ∈ lw_tbl := lwC_in (i := (MP 186).1) (by rfl)
set_option maxRecDepth 1000000 in
theorem cw_187 : Cond.code (MY 187) (MB 187) (ML 187) (MR 187) ∈ lw_tbl := lwC_in (i := (MP 187).1) (by rfl)
set_option maxRecDepth 1000000 in
theorem cw_188 : Cond.code (MY 188) (MB 188) (ML 188) (MR 188) ∈ lw_tbl := lwC_in (i := (MP 188).1) (by rfl)
set_option maxRecDepth 1000000 in
theorem cw_189 : Cond.code (MY 189) (MB 189) (ML 189) (MR 189) ∈ lw_tbl := lwC_in (i := (MP 189).1) (by rfl)
set_option maxRecDepth 1000000 in
theorem cw_190 : Cond.code (MY 190) (MB 190) (ML 190) (MR 190) ∈ lw_tbl := lwC_in (i := (MP 190).1) (by rfl)
set_option maxRecDepth 1000000 in
theorem cw_191 : Cond.code (MY 191) (MB 191) (ML 191) (MR 191) ∈ lw_tbl := lwC_in (i := (MP 191).1) (by rfl)
set_option maxRecDepth 1000000 in
theorem cw_192 : Cond.code (MY 192) (MB 192) (ML 192) (MR 192) ∈ lw_tbl := lwC_in (i := (MP 192).1) (by rfl)
set_option maxRecDepth 1000000 in
theorem cw_193 : Cond.code (MY 193) (MB 193) (ML 193) (MR 193) ∈ lw_tbl := lwC_in (i := (MP 193).1) (by rfl)
set_option maxRecDepth 1000000 in
theorem cw_194 : Cond.code (MY 194) (MB 194) (ML 194) (MR 194) ∈ lw_tbl := lwC_in (i := (MP 194).1) (by rfl)
set_option maxRecDepth 1000000 in
theorem cw_195 : Cond.code (MY 195) (MB 195) (ML 195) (MR 195) ∈ lw_tbl := lwC_in (i := (MP 195).1) (by rfl)
set_option maxRecDepth 1000000 in
theorem cw_196 : Cond.code (MY 196) (MB 196) (ML 196) (MR 196) ∈ lw_tbl := lwC_in (i := (MP 196).1) (by rfl)
set_option maxRecDepth 1000000 in
theorem cw_197 : Cond.code (MY 197) (MB 197) (ML 197) (MR 197) ∈ lw_tbl := lwC_in (i := (MP 197).1) (by rfl)
set_option maxRecDepth 1000000 in
theorem cw_198 : Cond.code (MY 198) (MB 198) (ML 198) (MR 198) ∈ lw_tbl := lwC_in (i := (MP 198).1) (by rfl)
set_option maxRecDepth 1000000 in
theorem cw_199 : Cond.code (MY 199) (MB 199) (ML 199) (MR 199) ∈ lw_tbl := lwC_in (i := (MP 199).1) (by rfl)
set_option maxRecDepth 1000000 in
theorem cw_200 : Cond.code (MY 200) (MB 200) (ML 200) (MR 200) ∈ lw_tbl := lwC_in (i := (MP 200).1) (by rfl)
set_option maxRecDepth 1000000 in
theorem cw_201 : Cond.code (MY 201) (MB 201) (ML 201) (MR 201) ∈ lw_tbl := lwC_in (i := (MP 201).1) (by rfl)
set_option maxRecDepth 1000000 in
theorem cw_202 : Cond.code (MY 202) (MB 202) (ML 202) (MR 202) ∈ lw_tbl := lwC_in (i := (MP 202).1) (by rfl)
set_option maxRecDepth 1000000 in
theorem cw_203 : Cond.code (MY 203) (MB 203) (ML 203) (MR 203) ∈ lw_tbl := lwC_in (i := (MP 203).1) (by rfl)
set_option maxRecDepth 1000000 in
theorem cw_204 : Cond.code (MY 204) (MB 204) (ML 204) (MR 204) ∈ lw_tbl := lwC_in (i := (MP 204).1) (by rfl)
set_option maxRecDepth 1000000 in
theorem cw_205 : Cond.code (MY 205) (MB 205) (ML 205) (MR 205) ∈ lw_tbl := lwC_in (i := (MP 205).1) (by rfl)
set_option maxRecDepth 1000000 in
theorem cw_206 : Cond.code (MY 206) (MB 206) (ML 206) (MR 206) ∈ lw_tbl := lwC_in (i := (MP 206).1) (by rfl)
set_option maxRecDepth 1000000 in
theorem cw_207 : Cond.code (MY 207) (MB 207) (ML 207) (MR 207) ∈ lw_tbl := lwC_in (i := (MP 207).1) (by rfl)
set_option maxRecDepth 1000000 in
theorem cw_208 : Cond.code (MY 208) (MB 208) (ML 208) (MR 208) ∈ lw_tbl := lwC_in (i := (MP 208).1) (by rfl)
set_option maxRecDepth 1000000 in
theorem cw_209 : Cond.code (MY 209) (MB 209) (ML 209) (MR 209) ∈ lw_tbl := lwC_in (i := (MP 209).1) (by rfl)
set_option maxRecDepth 1000000 in
theorem cw_210 : Cond.code (MY 210) (MB 210) (ML 210) (MR 210) ∈ lw_tbl := lwC_in (i := (MP 210).1) (by rfl)
set_option maxRecDepth 1000000 in
theorem cw_211 : Cond.code (MY 211) (MB 211) (ML 211) (MR 211) ∈ lw_tbl := lwC_in (i := (MP 211).1) (by rfl)
set_option maxRecDepth 1000000 in
theorem cw_212 : Cond.code (MY 212) (MB 212) (ML 212) (MR 212) ∈ lw_tbl := lwC_in (i := (MP 212).1) (by rfl)
set_option maxRecDepth 1000000 in
theorem cw_213 : Cond.code (MY 213) (MB 213) (ML 213) (MR 213) ∈ lw_tbl := lwC_in (i := (MP 213).1) (by rfl)
set_option maxRecDepth 1000000 in
theorem cw_214 : Cond.code (MY 214) (MB 214) (ML 214) (MR 214) ∈ lw_tbl := lwC_in (i := (MP 214).1) (by rfl)
set_option maxRecDepth 1000000 in
theorem cw_215 : Cond.code (MY 215) (MB 215) (ML 215) (MR 215) ∈ lw_tbl := lwC_in (i := (MP 215).1) (by rfl)
set_option maxRecDepth 1000000 in
theorem cw_216 : Cond.code (MY 216) (MB 216) (ML 216) (MR 216) ∈ lw_tbl := lwC_in (i := (MP 216).1) (by rfl)
set_option maxRecDepth 1000000 in
theorem cw_217 : Cond.code (MY 217) (MB 217) (ML 217) (MR 217) ∈ lw_tbl := lwC_in (i := (MP 217).1) (by rfl)
set_option maxRecDepth 1000000 in
theorem cw_218 : Cond.code (MY 218) (MB 218) (ML 218) (MR 218) ∈ lw_tbl := lwC_in (i := (MP 218).1) (by rfl)
set_option maxRecDepth 1000000 in
theorem cw_219 : Cond.code (MY 219) (MB 219) (ML 219) (MR 219) ∈ lw_tbl := lwC_in (i := (MP 219).1) (by rfl)
set_option maxRecDepth 1000000 in
theorem cw_220 : Cond.code (MY 220) (MB 220) (ML 220) (MR 220) ∈ lw_tbl := lwC_in (i := (MP 220).1) (by rfl)
set_option maxRecDepth 1000000 in
theorem cw_221 : Cond.code (MY 221) (MB 221) (ML 221) (MR 221) ∈ lw_tbl := lwC_in (i := (MP 221).1) (by rfl)
set_option maxRecDepth 1000000 in
theorem cw_222 : Cond.code (MY 222) (MB 222) (ML 222) (MR 222) ∈ lw_tbl := lwC_in (i := (MP 222).1) (by rfl)
set_option maxRecDepth 1000000 in
theorem cw_223 : Cond.code (MY 223) (MB 223) (ML 223) (MR 223) ∈ lw_tbl := lwC_in (i := (MP 223).1) (by rfl)
set_option maxRecDepth 1000000 in
theorem cw_224 : Cond.code (MY 224) (MB 224) (ML 224) (MR 224) ∈ lw_tbl := lwC_in (i := (MP 224).1) (by rfl)
set_option maxRecDepth 1000000 in
theorem cw_225 : Cond.code (MY 225) (MB 225) (ML 225) (MR 225) ∈ lw_tbl := lwC_in (i := (MP 225).1) (by rfl)
set_option maxRecDepth 1000000 in
theorem cw_226 : Cond.code (MY 226) (MB 226) (ML 226) (MR 226) ∈ lw_tbl := lwC_in (i := (MP 226).1) (by rfl)
set_option maxRecDepth 1000000 in
theorem cw_227 : Cond.code (MY 227) (MB 227) (ML 227) (MR 227) ∈ lw_tbl := lwC_in (i := (MP 227).1) (by rfl)
set_option maxRecDepth 1000000 in
theorem cw_228 : Cond.code (MY 228) (MB 228) (ML 228) (MR 228) ∈ lw_tbl := lwC_in (i := (MP 228).1) (by rfl)
set_option maxRecDepth 1000000 in
theorem cw_229 : Cond.code (MY 229) (MB 229) (ML 229) (MR 229) ∈ lw_tbl := lwC_in (i := (MP 229).1) (by rfl)
set_option maxRecDepth 1000000 in
theorem cw_230 : Cond.code (MY 230) (MB 230) (ML 230) (MR 230) ∈ lw_tbl := lwC_in (i := (MP 230).1) (by rfl)
set_option maxRecDepth 1000000 in
theorem cw_231 : Cond.code (MY 231) (MB 231) (ML 231) (MR 231) ∈ lw_tbl := lwC_in (i := (MP 231).1) (by rfl)
set_option maxRecDepth 1000000 in
theorem cw_232 : Cond.code (MY 232) (MB 232) (ML 232) (MR 232) ∈ lw_tbl := lwC_in (i := (MP 232).1) (by rfl)
set_option maxRecDepth 1000000 in
theorem cw_233 : Cond.code (MY 233) (MB 233) (ML 233) (MR 233) ∈ lw_tbl := lwC_in (i := (MP 233).1) (by rfl)
set_option maxRecDepth 1000000 in
theorem cw_234 : Cond.code (MY 234) (MB 234) (ML 234) (MR 234) ∈ lw_tbl := lwC_in (i := (MP 234).1) (by rfl)
set_option maxRecDepth 1000000 in
theorem cw_235 : Cond.code (MY 235) (MB 235) (ML 235) (MR 235) ∈ lw_tbl := lwC_in (i := (MP 235).1) (by rfl)
set_option maxRecDepth 1000000 in
theorem cw_236 : Cond.code (MY 236) (MB 236) (ML 236) (MR 236) ∈ lw_tbl := lwC_in (i := (MP 236).1) (by rfl)
set_option maxRecDepth 1000000 in
theorem cw_237 : Cond.code (MY 237) (MB 237) (ML 237) (MR 237) ∈ lw_tbl := lwC_in (i := (MP 237).1) (by rfl)
set_option maxRecDepth 1000000 in
theorem cw_238 : Cond.code (MY 238) (MB 238) (ML 238) (MR 238) ∈ lw_tbl := lwC_in (i := (MP 238).1) (by rfl)
set_option maxRecDepth 1000000 in
theorem cw_239 : Cond.code (MY 239) (MB 239) (ML 239) (MR 239) ∈ lw_tbl := lwC_in (i := (MP 239).1) (by rfl)
theorem cw_all : ∀ k, k < 240 → Cond.code (MY k) (MB k) (ML k) (MR k) ∈ lw_tbl := fun k h => match k, h with
  | 0, _ => cw_0
  | 1, _ => cw_1
  | 2, _ => cw_2
  | 3, _ => cw_3
  | 4, _ => cw_4
  | 5, _ => cw_5
  | 6, _ => cw_6
  | 7, _ => cw_7
  | 8, _ => cw_8
  | 9, _ => cw_9
  | 10, _ => cw_10
  | 11, _ => cw_11
  | 12, _ => cw_12
  | 13, _ => cw_13
  | 14, _ => cw_14
  | 15, _ => cw_15
  | 16, _ => cw_16
  | 17, _ => cw_17
  | 18, _ => cw_18
  | 19, _ => cw_19
  | 20, _ => cw_20
  | 21, _ => cw_21
  | 22, _ => cw_22
  | 23, _ => cw_23
  | 24, _ => cw_24
  | 25, _ => cw_25
  | 26, _ => cw_26
  | 27, _ => cw_27
  | 28, _ => cw_28
  | 29, _ => cw_29
  | 30, _ => cw_30
  | 31, _ => cw_31
  | 32, _ => cw_32
  | 33, _ => cw_33
  | 34, _ => cw_34
  | 35, _ => cw_35
  | 36, _ => cw_36
  | 37, _ => cw_37
  | 38, _ => cw_38
  | 39, _ => cw_39
  | 40, _ => cw_40
  | 41, _ => cw_41
  | 42, _ => cw_42
  | 43, _ => cw_43
  | 44, _ => cw_44
  | 45, _ => cw_45
  | 46, _ => cw_46
  | 47, _ => cw_47
  | 48, _ => cw_48
  | 49, _ => cw_49
  | 50, _ => cw_50
  | 51, _ => cw_51
  | 52, _ => cw_52
  | 53, _ => cw_53
  | 54, _ => cw_54
  | 55, _ => cw_55
  | 56, _ => cw_56
  | 57, _ => cw_57
  | 58, _ => cw_58
  | 59, _ => cw_59
  | 60, _ => cw_60
  | 61, _ => cw_61
  | 62, _ => cw_62
  | 63, _ => cw_63
  | 64, _ => cw_64
  | 65, _ => cw_65
  | 66, _ => cw_66
  | 67, _ => cw_67
  | 68, _ => cw_68
  | 69, _ => cw_69
  | 70, _ => cw_70
  | 71, _ => cw_71
  | 72, _ => cw_72
  | 73, _ => cw_73
  | 74, _ => cw_74
  | 75, _ => cw_75
  | 76, _ => cw_76
  | 77, _ => cw_77
  | 78, _ => cw_78
  | 79, _ => cw_79
  | 80, _ => cw_80
  | 81, _ => cw_81
  | 82, _ => cw_82
  | 83, _ => cw_83
  | 84, _ => cw_84
  | 85, _ => cw_85
  | 86, _ => cw_86
  | 87, _ => cw_87
  | 88, _ => cw_88
  | 89, _ => cw_89
  | 90, _ => cw_90
  | 91, _ => cw_91
  | 92, _ => cw_92
  | 93, _ => cw_93
  | 94, _ => cw_94
  | 95, _ => cw_95
  | 96, _ => cw_96
  | 97, _ => cw_97
  | 98, _ => cw_98
  | 99, _ => cw_99
  | 100, _ => cw_100
  | 101, _ => cw_101
  | 102, _ => cw_102
  | 103, _ => cw_103
  | 104, _ => cw_104
  | 105, _ => cw_105
  | 106, _ => cw_106
  | 107, _ => cw_107
  | 108, _ => cw_108
  | 109, _ => cw_109
  | 110, _ => cw_110
  | 111, _ => cw_111
  | 112, _ => cw_112
  | 113, _ => cw_113
  | 114, _ => cw_114
  | 115, _ => cw_115
  | 116, _ => cw_116
  | 117, _ => cw_117
  | 118, _ => cw_118
  | 119, _ => cw_119
  | 120, _ => cw_120
  | 121, _ => cw_121
  | 122, _ => cw_122
  | 123, _ => cw_123
  | 124, _ => cw_124
  | 125, _ => cw_125
  | 126, _ => cw_126
  | 127, _ => cw_127
  | 128, _ => cw_128
  | 129, _ => cw_129
  | 130, _ => cw_130
  | 131, _ => cw_131
  | 132, _ => cw_132
  | 133, _ => cw_133
  | 134, _ => cw_134
  | 135, _ => cw_135
  | 136, _ => cw_136
  | 137, _ => cw_137
  | 138, _ => cw_138
  | 139, _ => cw_139
  | 140, _ => cw_140
  | 141, _ => cw_141
  | 142, _ => cw_142
  | 143, _ => cw_143
  | 144, _ => cw_144
  | 145, _ => cw_145
  | 146, _ => cw_146
  | 147, _ => cw_147
  | 148, _ => cw_148
  | 149, _ => cw_149
  | 150, _ => cw_150
  | 151, _ => cw_151
  | 152, _ => cw_152
  | 153, _ => cw_153
  | 154, _ => cw_154
  | 155, _ => cw_155
  | 156, _ => cw_156
  | 157, _ => cw_157
  | 158, _ => cw_158
  | 159, _ => cw_159
  | 160, _ => cw_160
  | 161, _ => cw_161
  | 162, _ => cw_162
  | 163, _ => cw_163
  | 164, _ => cw_164
  | 165, _ => cw_165
  | 166, _ => cw_166
  | 167, _ => cw_167
  | 168, _ => cw_168
  | 169, _ => cw_169
  | 170, _ => cw_170
  | 171, _ => cw_171
  | 172, _ => cw_172
  | 173, _ => cw_173
  | 174, _ => cw_174
  | 175, _ => cw_175
  | 176, _ => cw_176
  | 177, _ => cw_177
  | 178, _ => cw_178
  | 179, _ => cw_179
  | 180, _ => cw_180
  | 181, _ => cw_181
  | 182, _ => cw_182
  | 183, _ => cw_183
  | 184, _ => cw_184
  | 185, _ => cw_185
  | 186, _ => cw_186
  | 187, _ => cw_187
  | 188, _ => cw_188
  | 189, _ => cw_189
  | 190, _ => cw_190
  | 191, _ => cw_191
  | 192, _ => cw_192
  | 193, _ => cw_193
  | 194, _ => cw_194
  | 195, _ => cw_195
  | 196, _ => cw_196
  | 197, _ => cw_197
  | 198, _ => cw_198
  | 199, _ => cw_199
  | 200, _ => cw_200
  | 201, _ => cw_201
  | 202, _ => cw_202
  | 203, _ => cw_203
  | 204, _ => cw_204
  | 205, _ => cw_205
  | 206, _ => cw_206
  | 207, _ => cw_207
  | 208, _ => cw_208
  | 209, _ => cw_209
  | 210, _ => cw_210
  | 211, _ => cw_211
  | 212, _ => cw_212
  | 213, _ => cw_213
  | 214, _ => cw_214
  | 215, _ => cw_215
  | 216, _ => cw_216
  | 217, _ => cw_217
  | 218, _ => cw_218
  | 219, _ => cw_219
  | 220, _ => cw_220
  | 221, _ => cw_221
  | 222, _ => cw_222
  | 223, _ => cw_223
  | 224, _ => cw_224
  | 225, _ => cw_225
  | 226, _ => cw_226
  | 227, _ => cw_227
  | 228, _ => cw_228
  | 229, _ => cw_229
  | 230, _ => cw_230
  | 231, _ => cw_231
  | 232, _ => cw_232
  | 233, _ => cw_233
  | 234, _ => cw_234
  | 235, _ => cw_235
  | 236, _ => cw_236
  | 237, _ => cw_237
  | 238, _ => cw_238
  | 239, _ => cw_239
  | n + 240, h => absurd h (by omega)
