set_option maxRecDepth 100000 in
theorem cw_0 : am_lw (am_w3 0).1 = some (.code (am_Y 0) (am_C 0) (am_L 0) (am_R 0)) := rfl
set_option maxRecDepth 100000 in
theorem cw_1 : am_lw (am_w3 1).1 = some (.code (am_Y 1) (am_C 1) (am_L 1) (am_R 1)) := rfl
set_option maxRecDepth 100000 in
theorem cw_2 : am_lw (am_w3 2).1 = some (.code (am_Y 2) (am_C 2) (am_L 2) (am_R 2)) := rfl
set_option maxRecDepth 100000 in
theorem cw_3 : am_lw (am_w3 3).1 = some (.code (am_Y 3) (am_C 3) (am_L 3) (am_R 3)) := rfl
set_option maxRecDepth 100000 in
theorem cw_4 : am_lw (am_w3 4).1 = some (.code (am_Y 4) (am_C 4) (am_L 4) (am_R 4)) := rfl
set_option maxRecDepth 100000 in
theorem cw_5 : am_lw (am_w3 5).1 = some (.code (am_Y 5) (am_C 5) (am_L 5) (am_R 5)) := rfl
set_option maxRecDepth 100000 in
theorem cw_6 : am_lw (am_w3 6).1 = some (.code (am_Y 6) (am_C 6) (am_L 6) (am_R 6)) := rfl
set_option maxRecDepth 100000 in
theorem cw_7 : am_lw (am_w3 7).1 = some (.code (am_Y 7) (am_C 7) (am_L 7) (am_R 7)) := rfl
set_option maxRecDepth 100000 in
theorem cw_8 : am_lw (am_w3 8).1 = some (.code (am_Y 8) (am_C 8) (am_L 8) (am_R 8)) := rfl
set_option maxRecDepth 100000 in
theorem cw_9 : am_lw (am_w3 9).1 = some (.code (am_Y 9) (am_C 9) (am_L 9) (am_R 9)) := rfl
set_option maxRecDepth 100000 in
theorem cw_10 : am_lw (am_w3 10).1 = some (.code (am_Y 10) (am_C 10) (am_L 10) (am_R 10)) := rfl
set_option maxRecDepth 100000 in
theorem cw_11 : am_lw (am_w3 11).1 = some (.code (am_Y 11) (am_C 11) (am_L 11) (am_R 11)) := rfl
set_option maxRecDepth 100000 in
theorem cw_12 : am_lw (am_w3 12).1 = some (.code (am_Y 12) (am_C 12) (am_L 12) (am_R 12)) := rfl
set_option maxRecDepth 100000 in
theorem cw_13 : am_lw (am_w3 13).1 = some (.code (am_Y 13) (am_C 13) (am_L 13) (am_R 13)) := rfl
set_option maxRecDepth 100000 in
theorem cw_14 : am_lw (am_w3 14).1 = some (.code (am_Y 14) (am_C 14) (am_L 14) (am_R 14)) := rfl
set_option maxRecDepth 100000 in
theorem cw_15 : am_lw (am_w3 15).1 = some (.code (am_Y 15) (am_C 15) (am_L 15) (am_R 15)) := rfl
set_option maxRecDepth 100000 in
theorem cw_16 : am_lw (am_w3 16).1 = some (.code (am_Y 16) (am_C 16) (am_L 16) (am_R 16)) := rfl
set_option maxRecDepth 100000 in
theorem cw_17 : am_lw (am_w3 17).1 = some (.code (am_Y 17) (am_C 17) (am_L 17) (am_R 17)) := rfl
set_option maxRecDepth 100000 in
theorem cw_18 : am_lw (am_w3 18).1 = some (.code (am_Y 18) (am_C 18) (am_L 18) (am_R 18)) := rfl
set_option maxRecDepth 100000 in
theorem cw_19 : am_lw (am_w3 19).1 = some (.code (am_Y 19) (am_C 19) (am_L 19) (am_R 19)) := rfl
set_option maxRecDepth 100000 in
theorem cw_20 : am_lw (am_w3 20).1 = some (.code (am_Y 20) (am_C 20) (am_L 20) (am_R 20)) := rfl
set_option maxRecDepth 100000 in
theorem cw_21 : am_lw (am_w3 21).1 = some (.code (am_Y 21) (am_C 21) (am_L 21) (am_R 21)) := rfl
set_option maxRecDepth 100000 in
theorem cw_22 : am_lw (am_w3 22).1 = some (.code (am_Y 22) (am_C 22) (am_L 22) (am_R 22)) := rfl
set_option maxRecDepth 100000 in
theorem cw_23 : am_lw (am_w3 23).1 = some (.code (am_Y 23) (am_C 23) (am_L 23) (am_R 23)) := rfl
set_option maxRecDepth 100000 in
theorem cw_24 : am_lw (am_w3 24).1 = some (.code (am_Y 24) (am_C 24) (am_L 24) (am_R 24)) := rfl
set_option maxRecDepth 100000 in
theorem cw_25 : am_lw (am_w3 25).1 = some (.code (am_Y 25) (am_C 25) (am_L 25) (am_R 25)) := rfl
set_option maxRecDepth 100000 in
theorem cw_26 : am_lw (am_w3 26).1 = some (.code (am_Y 26) (am_C 26) (am_L 26) (am_R 26)) := rfl
set_option maxRecDepth 100000 in
theorem cw_27 : am_lw (am_w3 27).1 = some (.code (am_Y 27) (am_C 27) (am_L 27) (am_R 27)) := rfl
set_option maxRecDepth 100000 in
theorem cw_28 : am_lw (am_w3 28).1 = some (.code (am_Y 28) (am_C 28) (am_L 28) (am_R 28)) := rfl
set_option maxRecDepth 100000 in
theorem cw_29 : am_lw (am_w3 29).1 = some (.code (am_Y 29) (am_C 29) (am_L 29) (am_R 29)) := rfl
set_option maxRecDepth 100000 in
theorem cw_30 : am_lw (am_w3 30).1 = some (.code (am_Y 30) (am_C 30) (am_L 30) (am_R 30)) := rfl
set_option maxRecDepth 100000 in
theorem cw_31 : am_lw (am_w3 31).1 = some (.code (am_Y 31) (am_C 31) (am_L 31) (am_R 31)) := rfl
set_option maxRecDepth 100000 in
theorem cw_32 : am_lw (am_w3 32).1 = some (.code (am_Y 32) (am_C 32) (am_L 32) (am_R 32)) := rfl
set_option maxRecDepth 100000 in
theorem cw_33 : am_lw (am_w3 33).1 = some (.code (am_Y 33) (am_C 33) (am_L 33) (am_R 33)) := rfl
set_option maxRecDepth 100000 in
theorem cw_34 : am_lw (am_w3 34).1 = some (.code (am_Y 34) (am_C 34) (am_L 34) (am_R 34)) := rfl
set_option maxRecDepth 100000 in
theorem cw_35 : am_lw (am_w3 35).1 = some (.code (am_Y 35) (am_C 35) (am_L 35) (am_R 35)) := rfl
set_option maxRecDepth 100000 in
theorem cw_36 : am_lw (am_w3 36).1 = some (.code (am_Y 36) (am_C 36) (am_L 36) (am_R 36)) := rfl
set_option maxRecDepth 100000 in
theorem cw_37 : am_lw (am_w3 37).1 = some (.code (am_Y 37) (am_C 37) (am_L 37) (am_R 37)) := rfl
set_option maxRecDepth 100000 in
theorem cw_38 : am_lw (am_w3 38).1 = some (.code (am_Y 38) (am_C 38) (am_L 38) (am_R 38)) := rfl
set_option maxRecDepth 100000 in
theorem cw_39 : am_lw (am_w3 39).1 = some (.code (am_Y 39) (am_C 39) (am_L 39) (am_R 39)) := rfl
set_option maxRecDepth 100000 in
theorem cw_40 : am_lw (am_w3 40).1 = some (.code (am_Y 40) (am_C 40) (am_L 40) (am_R 40)) := rfl
set_option maxRecDepth 100000 in
theorem cw_41 : am_lw (am_w3 41).1 = some (.code (am_Y 41) (am_C 41) (am_L 41) (am_R 41)) := rfl
set_option maxRecDepth 100000 in
theorem cw_42 : am_lw (am_w3 42).1 = some (.code (am_Y 42) (am_C 42) (am_L 42) (am_R 42)) := rfl
set_option maxRecDepth 100000 in
theorem cw_43 : am_lw (am_w3 43).1 = some (.code (am_Y 43) (am_C 43) (am_L 43) (am_R 43)) := rfl
set_option maxRecDepth 100000 in
theorem cw_44 : am_lw (am_w3 44).1 = some (.code (am_Y 44) (am_C 44) (am_L 44) (am_R 44)) := rfl
set_option maxRecDepth 100000 in
theorem cw_45 : am_lw (am_w3 45).1 = some (.code (am_Y 45) (am_C 45) (am_L 45) (am_R 45)) := rfl
set_option maxRecDepth 100000 in
theorem cw_46 : am_lw (am_w3 46).1 = some (.code (am_Y 46) (am_C 46) (am_L 46) (am_R 46)) := rfl
set_option maxRecDepth 100000 in
theorem cw_47 : am_lw (am_w3 47).1 = some (.code (am_Y 47) (am_C 47) (am_L 47) (am_R 47)) := rfl
set_option maxRecDepth 100000 in
theorem cw_48 : am_lw (am_w3 48).1 = some (.code (am_Y 48) (am_C 48) (am_L 48) (am_R 48)) := rfl
set_option maxRecDepth 100000 in
theorem cw_49 : am_lw (am_w3 49).1 = some (.code (am_Y 49) (am_C 49) (am_L 49) (am_R 49)) := rfl
set_option maxRecDepth 100000 in
theorem cw_50 : am_lw (am_w3 50).1 = some (.code (am_Y 50) (am_C 50) (am_L 50) (am_R 50)) := rfl
set_option maxRecDepth 100000 in
theorem cw_51 : am_lw (am_w3 51).1 = some (.code (am_Y 51) (am_C 51) (am_L 51) (am_R 51)) := rfl
set_option maxRecDepth 100000 in
theorem cw_52 : am_lw (am_w3 52).1 = some (.code (am_Y 52) (am_C 52) (am_L 52) (am_R 52)) := rfl
set_option maxRecDepth 100000 in
theorem cw_53 : am_lw (am_w3 53).1 = some (.code (am_Y 53) (am_C 53) (am_L 53) (am_R 53)) := rfl
set_option maxRecDepth 100000 in
theorem cw_54 : am_lw (am_w3 54).1 = some (.code (am_Y 54) (am_C 54) (am_L 54) (am_R 54)) := rfl
set_option maxRecDepth 100000 in
theorem cw_55 : am_lw (am_w3 55).1 = some (.code (am_Y 55) (am_C 55) (am_L 55) (am_R 55)) := rfl
set_option maxRecDepth 100000 in
theorem cw_56 : am_lw (am_w3 56).1 = some (.code (am_Y 56) (am_C 56) (am_L 56) (am_R 56)) := rfl
set_option maxRecDepth 100000 in
theorem cw_57 : am_lw (am_w3 57).1 = some (.code (am_Y 57) (am_C 57) (am_L 57) (am_R 57)) := rfl
set_option maxRecDepth 100000 in
theorem cw_58 : am_lw (am_w3 58).1 = some (.code (am_Y 58) (am_C 58) (am_L 58) (am_R 58)) := rfl
set_option maxRecDepth 100000 in
theorem cw_59 : am_lw (am_w3 59).1 = some (.code (am_Y 59) (am_C 59) (am_L 59) (am_R 59)) := rfl
set_option maxRecDepth 100000 in
theorem cw_60 : am_lw (am_w3 60).1 = some (.code (am_Y 60) (am_C 60) (am_L 60) (am_R 60)) := rfl
set_option maxRecDepth 100000 in
theorem cw_61 : am_lw (am_w3 61).1 = some (.code (am_Y 61) (am_C 61) (am_L 61) (am_R 61)) := rfl
set_option maxRecDepth 100000 in
theorem cw_62 : am_lw (am_w3 62).1 = some (.code (am_Y 62) (am_C 62) (am_L 62) (am_R 62)) := rfl
set_option maxRecDepth 100000 in
theorem cw_63 : am_lw (am_w3 63).1 = some (.code (am_Y 63) (am_C 63) (am_L 63) (am_R 63)) := rfl
set_option maxRecDepth 100000 in
theorem cw_64 : am_lw (am_w3 64).1 = some (.code (am_Y 64) (am_C 64) (am_L 64) (am_R 64)) := rfl
set_option maxRecDepth 100000 in
theorem cw_65 : am_lw (am_w3 65).1 = some (.code (am_Y 65) (am_C 65) (am_L 65) (am_R 65)) := rfl
set_option maxRecDepth 100000 in
theorem cw_66 : am_lw (am_w3 66).1 = some (.code (am_Y 66) (am_C 66) (am_L 66) (am_R 66)) := rfl
set_option maxRecDepth 100000 in
theorem cw_67 : am_lw (am_w3 67).1 = some (.code (am_Y 67) (am_C 67) (am_L 67) (am_R 67)) := rfl
set_option maxRecDepth 100000 in
theorem cw_68 : am_lw (am_w3 68).1 = some (.code (am_Y 68) (am_C 68) (am_L 68) (am_R 68)) := rfl
set_option maxRecDepth 100000 in
theorem cw_69 : am_lw (am_w3 69).1 = some (.code (am_Y 69) (am_C 69) (am_L 69) (am_R 69)) := rfl
set_option maxRecDepth 100000 in
theorem cw_70 : am_lw (am_w3 70).1 = some (.code (am_Y 70) (am_C 70) (am_L 70) (am_R 70)) := rfl
set_option maxRecDepth 100000 in
theorem cw_71 : am_lw (am_w3 71).1 = some (.code (am_Y 71) (am_C 71) (am_L 71) (am_R 71)) := rfl
set_option maxRecDepth 100000 in
theorem cw_72 : am_lw (am_w3 72).1 = some (.code (am_Y 72) (am_C 72) (am_L 72) (am_R 72)) := rfl
set_option maxRecDepth 100000 in
theorem cw_73 : am_lw (am_w3 73).1 = some (.code (am_Y 73) (am_C 73) (am_L 73) (am_R 73)) := rfl
set_option maxRecDepth 100000 in
theorem cw_74 : am_lw (am_w3 74).1 = some (.code (am_Y 74) (am_C 74) (am_L 74) (am_R 74)) := rfl
set_option maxRecDepth 100000 in
theorem cw_75 : am_lw (am_w3 75).1 = some (.code (am_Y 75) (am_C 75) (am_L 75) (am_R 75)) := rfl
set_option maxRecDepth 100000 in
theorem cw_76 : am_lw (am_w3 76).1 = some (.code (am_Y 76) (am_C 76) (am_L 76) (am_R 76)) := rfl
set_option maxRecDepth 100000 in
theorem cw_77 : am_lw (am_w3 77).1 = some (.code (am_Y 77) (am_C 77) (am_L 77) (am_R 77)) := rfl
set_option maxRecDepth 100000 in
theorem cw_78 : am_lw (am_w3 78).1 = some (.code (am_Y 78) (am_C 78) (am_L 78) (am_R 78)) := rfl
set_option maxRecDepth 100000 in
theorem cw_79 : am_lw (am_w3 79).1 = some (.code (am_Y 79) (am_C 79) (am_L 79) (am_R 79)) := rfl
set_option maxRecDepth 100000 in
theorem cw_80 : am_lw (am_w3 80).1 = some (.code (am_Y 80) (am_C 80) (am_L 80) (am_R 80)) := rfl
set_option maxRecDepth 100000 in
theorem cw_81 : am_lw (am_w3 81).1 = some (.code (am_Y 81) (am_C 81) (am_L 81) (am_R 81)) := rfl
set_option maxRecDepth 100000 in
theorem cw_82 : am_lw (am_w3 82).1 = some (.code (am_Y 82) (am_C 82) (am_L 82) (am_R 82)) := rfl
set_option maxRecDepth 100000 in
theorem cw_83 : am_lw (am_w3 83).1 = some (.code (am_Y 83) (am_C 83) (am_L 83) (am_R 83)) := rfl
set_option maxRecDepth 100000 in
theorem cw_84 : am_lw (am_w3 84).1 = some (.code (am_Y 84) (am_C 84) (am_L 84) (am_R 84)) := rfl
set_option maxRecDepth 100000 in
theorem cw_85 : am_lw (am_w3 85).1 = some (.code (am_Y 85) (am_C 85) (am_L 85) (am_R 85)) := rfl
set_option maxRecDepth 100000 in
theorem cw_86 : am_lw (am_w3 86).1 = some (.code (am_Y 86) (am_C 86) (am_L 86) (am_R 86)) := rfl
set_option maxRecDepth 100000 in
theorem cw_87 : am_lw (am_w3 87).1 = some (.code (am_Y 87) (am_C 87) (am_L 87) (am_R 87)) := rfl
set_option maxRecDepth 100000 in
theorem cw_88 : am_lw (am_w3 88).1 = some (.code (am_Y 88) (am_C 88) (am_L 88) (am_R 88)) := rfl
set_option maxRecDepth 100000 in
theorem cw_89 : am_lw (am_w3 89).1 = some (.code (am_Y 89) (am_C 89) (am_L 89) (am_R 89)) := rfl
set_option maxRecDepth 100000 in
theorem cw_90 : am_lw (am_w3 90).1 = some (.code (am_Y 90) (am_C 90) (am_L 90) (am_R 90)) := rfl
set_option maxRecDepth 100000 in
theorem cw_91 : am_lw (am_w3 91).1 = some (.code (am_Y 91) (am_C 91) (am_L 91) (am_R 91)) := rfl
set_option maxRecDepth 100000 in
theorem cw_92 : am_lw (am_w3 92).1 = some (.code (am_Y 92) (am_C 92) (am_L 92) (am_R 92)) := rfl
set_option maxRecDepth 100000 in
theorem cw_93 : am_lw (am_w3 93).1 = some (.code (am_Y 93) (am_C 93) (am_L 93) (am_R 93)) := rfl
set_option maxRecDepth 100000 in
theorem cw_94 : am_lw (am_w3 94).1 = some (.code (am_Y 94) (am_C 94) (am_L 94) (am_R 94)) := rfl
set_option maxRecDepth 100000 in
theorem cw_95 : am_lw (am_w3 95).1 = some (.code (am_Y 95) (am_C 95) (am_L 95) (am_R 95)) := rfl
set_option maxRecDepth 100000 in
theorem cw_96 : am_lw (am_w3 96).1 = some (.code (am_Y 96) (am_C 96) (am_L 96) (am_R 96)) := rfl
set_option maxRecDepth 100000 in
theorem cw_97 : am_lw (am_w3 97).1 = some (.code (am_Y 97) (am_C 97) (am_L 97) (am_R 97)) := rfl
set_option maxRecDepth 100000 in
theorem cw_98 : am_lw (am_w3 98).1 = some (.code (am_Y 98) (am_C 98) (am_L 98) (am_R 98)) := rfl
set_option maxRecDepth 100000 in
theorem cw_99 : am_lw (am_w3 99).1 = some (.code (am_Y 99) (am_C 99) (am_L 99) (am_R 99)) := rfl
set_option maxRecDepth 100000 in
theorem cw_100 : am_lw (am_w3 100).1 = some (.code (am_Y 100) (am_C 100) (am_L 100) (am_R 100)) := rfl
set_option maxRecDepth 100000 in
theorem cw_101 : am_lw (am_w3 101).1 = some (.code (am_Y 101) (am_C 101) (am_L 101) (am_R 101)) := rfl
set_option maxRecDepth 100000 in
theorem cw_102 : am_lw (am_w3 102).1 = some (.code (am_Y 102) (am_C 102) (am_L 102) (am_R 102)) := rfl
set_option maxRecDepth 100000 in
theorem cw_103 : am_lw (am_w3 103).1 = some (.code (am_Y 103) (am_C 103) (am_L 103) (am_R 103)) := rfl
set_option maxRecDepth 100000 in
theorem cw_104 : am_lw (am_w3 104).1 = some (.code (am_Y 104) (am_C 104) (am_L 104) (am_R 104)) := rfl
set_option maxRecDepth 100000 in
theorem cw_105 : am_lw (am_w3 105).1 = some (.code (am_Y 105) (am_C 105) (am_L 105) (am_R 105)) := rfl
set_option maxRecDepth 100000 in
theorem cw_106 : am_lw (am_w3 106).1 = some (.code (am_Y 106) (am_C 106) (am_L 106) (am_R 106)) := rfl
set_option maxRecDepth 100000 in
theorem cw_107 : am_lw (am_w3 107).1 = some (.code (am_Y 107) (am_C 107) (am_L 107) (am_R 107)) := rfl
set_option maxRecDepth 100000 in
theorem cw_108 : am_lw (am_w3 108).1 = some (.code (am_Y 108) (am_C 108) (am_L 108) (am_R 108)) := rfl
set_option maxRecDepth 100000 in
theorem cw_109 : am_lw (am_w3 109).1 = some (.code (am_Y 109) (am_C 109) (am_L 109) (am_R 109)) := rfl
set_option maxRecDepth 100000 in
theorem cw_110 : am_lw (am_w3 110).1 = some (.code (am_Y 110) (am_C 110) (am_L 110) (am_R 110)) := rfl
set_option maxRecDepth 100000 in
theorem cw_111 : am_lw (am_w3 111).1 = some (.code (am_Y 111) (am_C 111) (am_L 111) (am_R 111)) := rfl
set_option maxRecDepth 100000 in
theorem cw_112 : am_lw (am_w3 112).1 = some (.code (am_Y 112) (am_C 112) (am_L 112) (am_R 112)) := rfl
set_option maxRecDepth 100000 in
theorem cw_113 : am_lw (am_w3 113).1 = some (.code (am_Y 113) (am_C 113) (am_L 113) (am_R 113)) := rfl
set_option maxRecDepth 100000 in
theorem cw_114 : am_lw (am_w3 114).1 = some (.code (am_Y 114) (am_C 114) (am_L 114) (am_R 114)) := rfl
set_option maxRecDepth 100000 in
theorem cw_115 : am_lw (am_w3 115).1 = some (.code (am_Y 115) (am_C 115) (am_L 115) (am_R 115)) := rfl
set_option maxRecDepth 100000 in
theorem cw_116 : am_lw (am_w3 116).1 = some (.code (am_Y 116) (am_C 116) (am_L 116) (am_R 116)) := rfl
set_option maxRecDepth 100000 in
theorem cw_117 : am_lw (am_w3 117).1 = some (.code (am_Y 117) (am_C 117) (am_L 117) (am_R 117)) := rfl
set_option maxRecDepth 100000 in
theorem cw_118 : am_lw (am_w3 118).1 = some (.code (am_Y 118) (am_C 118) (am_L 118) (am_R 118)) := rfl
set_option maxRecDepth 100000 in
theorem cw_119 : am_lw (am_w3 119).1 = some (.code (am_Y 119) (am_C 119) (am_L 119) (am_R 119)) := rfl
set_option maxRecDepth 100000 in
theorem cw_120 : am_lw (am_w3 120).1 = some (.code (am_Y 120) (am_C 120) (am_L 120) (am_R 120)) := rfl
set_option maxRecDepth 100000 in
theorem cw_121 : am_lw (am_w3 121).1 = some (.code (am_Y 121) (am_C 121) (am_L 121) (am_R 121)) := rfl
set_option maxRecDepth 100000 in
theorem cw_122 : am_lw (am_w3 122).1 = some (.code (am_Y 122) (am_C 122) (am_L 122) (am_R 122)) := rfl
set_option maxRecDepth 100000 in
theorem cw_123 : am_lw (am_w3 123).1 = some (.code (am_Y 123) (am_C 123) (am_L 123) (am_R 123)) := rfl
set_option maxRecDepth 100000 in
theorem cw_124 : am_lw (am_w3 124).1 = some (.code (am_Y 124) (am_C 124) (am_L 124) (am_R 124)) := rfl
set_option maxRecDepth 100000 in
theorem cw_125 : am_lw (am_w3 125).1 = some (.code (am_Y 125) (am_C 125) (am_L 125) (am_R 125)) := rfl
set_option maxRecDepth 100000 in
theorem cw_126 : am_lw (am_w3 126).1 = some (.code (am_Y 126) (am_C 126) (am_L 126) (am_R 126)) := rfl
set_option maxRecDepth 100000 in
theorem cw_127 : am_lw (am_w3 127).1 = some (.code (am_Y 127) (am_C 127) (am_L 127) (am_R 127)) := rfl
set_option maxRecDepth 100000 in
theorem cw_128 : am_lw (am_w3 128).1 = some (.code (am_Y 128) (am_C 128) (am_L 128) (am_R 128)) := rfl
set_option maxRecDepth 100000 in
theorem cw_129 : am_lw (am_w3 129).1 = some (.code (am_Y 129) (am_C 129) (am_L 129) (am_R 129)) := rfl
set_option maxRecDepth 100000 in
theorem cw_130 : am_lw (am_w3 130).1 = some (.code (am_Y 130) (am_C 130) (am_L 130) (am_R 130)) := rfl
set_option maxRecDepth 100000 in
theorem cw_131 : am_lw (am_w3 131).1 = some (.code (am_Y 131) (am_C 131) (am_L 131) (am_R 131)) := rfl
set_option maxRecDepth 100000 in
theorem cw_132 : am_lw (am_w3 132).1 = some (.code (am_Y 132) (am_C 132) (am_L 132) (am_R 132)) := rfl
set_option maxRecDepth 100000 in
theorem cw_133 : am_lw (am_w3 133).1 = some (.code (am_Y 133) (am_C 133) (am_L 133) (am_R 133)) := rfl
set_option maxRecDepth 100000 in
theorem cw_134 : am_lw (am_w3 134).1 = some (.code (am_Y 134) (am_C 134) (am_L 134) (am_R 134)) := rfl
set_option maxRecDepth 100000 in
theorem cw_135 : am_lw (am_w3 135).1 = some (.code (am_Y 135) (am_C 135) (am_L 135) (am_R 135)) := rfl
set_option maxRecDepth 100000 in
theorem cw_136 : am_lw (am_w3 136).1 = some (.code (am_Y 136) (am_C 136) (am_L 136) (am_R 136)) := rfl
set_option maxRecDepth 100000 in
theorem cw_137 : am_lw (am_w3 137).1 = some (.code (am_Y 137) (am_C 137) (am_L 137) (am_R 137)) := rfl
set_option maxRecDepth 100000 in
theorem cw_138 : am_lw (am_w3 138).1 = some (.code (am_Y 138) (am_C 138) (am_L 138) (am_R 138)) := rfl
set_option maxRecDepth 100000 in
theorem cw_139 : am_lw (am_w3 139).1 = some (.code (am_Y 139) (am_C 139) (am_L 139) (am_R 139)) := rfl
set_option maxRecDepth 100000 in
theorem cw_140 : am_lw (am_w3 140).1 = some (.code (am_Y 140) (am_C 140) (am_L 140) (am_R 140)) := rfl
set_option maxRecDepth 100000 in
theorem cw_141 : am_lw (am_w3 141).1 = some (.code (am_Y 141) (am_C 141) (am_L 141) (am_R 141)) := rfl
set_option maxRecDepth 100000 in
theorem cw_142 : am_lw (am_w3 142).1 = some (.code (am_Y 142) (am_C 142) (am_L 142) (am_R 142)) := rfl
set_option maxRecDepth 100000 in
theorem cw_143 : am_lw (am_w3 143).1 = some (.code (am_Y 143) (am_C 143) (am_L 143) (am_R 143)) := rfl
set_option maxRecDepth 100000 in
theorem cw_144 : am_lw (am_w3 144).1 = some (.code (am_Y 144) (am_C 144) (am_L 144) (am_R 144)) := rfl
set_option maxRecDepth 100000 in
theorem cw_145 : am_lw (am_w3 145).1 = some (.code (am_Y 145) (am_C 145) (am_L 145) (am_R 145)) := rfl
set_option maxRecDepth 100000 in
theorem cw_146 : am_lw (am_w3 146).1 = some (.code (am_Y 146) (am_C 146) (am_L 146) (am_R 146)) := rfl
set_option maxRecDepth 100000 in
theorem cw_147 : am_lw (am_w3 147).1 = some (.code (am_Y 147) (am_C 147) (am_L 147) (am_R 147)) := rfl
set_option maxRecDepth 100000 in
theorem cw_148 : am_lw (am_w3 148).1 = some (.code (am_Y 148) (am_C 148) (am_L 148) (am_R 148)) := rfl
set_option maxRecDepth 100000 in
theorem cw_149 : am_lw (am_w3 149).1 = some (.code (am_Y 149) (am_C 149) (am_L 149) (am_R 149)) := rfl
set_option maxRecDepth 100000 in
theorem cw_150 : am_lw (am_w3 150).1 = some (.code (am_Y 150) (am_C 150) (am_L 150) (am_R 150)) := rfl
set_option maxRecDepth 100000 in
theorem cw_151 : am_lw (am_w3 151).1 = some (.code (am_Y 151) (am_C 151) (am_L 151) (am_R 151)) := rfl
set_option maxRecDepth 100000 in
theorem cw_152 : am_lw (am_w3 152).1 = some (.code (am_Y 152) (am_C 152) (am_L 152) (am_R 152)) := rfl
set_option maxRecDepth 100000 in
theorem cw_153 : am_lw (am_w3 153).1 = some (.code (am_Y 153) (am_C 153) (am_L 153) (am_R 153)) := rfl
set_option maxRecDepth 100000 in
theorem cw_154 : am_lw (am_w3 154).1 = some (.code (am_Y 154) (am_C 154) (am_L 154) (am_R 154)) := rfl
set_option maxRecDepth 100000 in
theorem cw_155 : am_lw (am_w3 155).1 = some (.code (am_Y 155) (am_C 155) (am_L 155) (am_R 155)) := rfl
set_option maxRecDepth 100000 in
theorem cw_156 : am_lw (am_w3 156).1 = some (.code (am_Y 156) (am_C 156) (am_L 156) (am_R 156)) := rfl
set_option maxRecDepth 100000 in
theorem cw_157 : am_lw (am_w3 157).1 = some (.code (am_Y 157) (am_C 157) (am_L 157) (am_R 157)) := rfl
set_option maxRecDepth 100000 in
theorem cw_158 : am_lw (am_w3 158).1 = some (.code (am_Y 158) (am_C 158) (am_L 158) (am_R 158)) := rfl
set_option maxRecDepth 100000 in
theorem cw_159 : am_lw (am_w3 159).1 = some (.code (am_Y 159) (am_C 159) (am_L 159) (am_R 159)) := rfl
set_option maxRecDepth 100000 in
theorem cw_160 : am_lw (am_w3 160).1 = some (.code (am_Y 160) (am_C 160) (am_L 160) (am_R 160)) := rfl
set_option maxRecDepth 100000 in
theorem cw_161 : am_lw (am_w3 161).1 = some (.code (am_Y 161) (am_C 161) (am_L 161) (am_R 161)) := rfl
set_option maxRecDepth 100000 in
theorem cw_162 : am_lw (am_w3 162).1 = some (.code (am_Y 162) (am_C 162) (am_L 162) (am_R 162)) := rfl
set_option maxRecDepth 100000 in
theorem cw_163 : am_lw (am_w3 163).1 = some (.code (am_Y 163) (am_C 163) (am_L 163) (am_R 163)) := rfl
set_option maxRecDepth 100000 in
theorem cw_164 : am_lw (am_w3 164).1 = some (.code (am_Y 164) (am_C 164) (am_L 164) (am_R 164)) := rfl
set_option maxRecDepth 100000 in
theorem cw_165 : am_lw (am_w3 165).1 = some (.code (am_Y 165) (am_C 165) (am_L 165) (am_R 165)) := rfl
set_option maxRecDepth 100000 in
theorem cw_166 : am_lw (am_w3 166).1 = some (.code (am_Y 166) (am_C 166) (am_L 166) (am_R 166)) := rfl
set_option maxRecDepth 100000 in
theorem cw_167 : am_lw (am_w3 167).1 = some (.code (am_Y 167) (am_C 167) (am_L 167) (am_R 167)) := rfl
set_option maxRecDepth 100000 in
theorem cw_168 : am_lw (am_w3 168).1 = some (.code (am_Y 168) (am_C 168) (am_L 168) (am_R 168)) := rfl
set_option maxRecDepth 100000 in
theorem cw_169 : am_lw (am_w3 169).1 = some (.code (am_Y 169) (am_C 169) (am_L 169) (am_R 169)) := rfl
set_option maxRecDepth 100000 in
theorem cw_170 : am_lw (am_w3 170).1 = some (.code (am_Y 170) (am_C 170) (am_L 170) (am_R 170)) := rfl
set_option maxRecDepth 100000 in
theorem cw_171 : am_lw (am_w3 171).1 = some (.code (am_Y 171) (am_C 171) (am_L 171) (am_R 171)) := rfl
set_option maxRecDepth 100000 in
theorem cw_172 : am_lw (am_w3 172).1 = some (.code (am_Y 172) (am_C 172) (am_L 172) (am_R 172)) := rfl
set_option maxRecDepth 100000 in
theorem cw_173 : am_lw (am_w3 173).1 = some (.code (am_Y 173) (am_C 173) (am_L 173) (am_R 173)) := rfl
set_option maxRecDepth 100000 in
theorem cw_174 : am_lw (am_w3 174).1 = some (.code (am_Y 174) (am_C 174) (am_L 174) (am_R 174)) := rfl
set_option maxRecDepth 100000 in
theorem cw_175 : am_lw (am_w3 175).1 = some (.code (am_Y 175) (am_C 175) (am_L 175) (am_R 175)) := rfl
set_option maxRecDepth 100000 in
theorem cw_176 : am_lw (am_w3 176).1 = some (.code (am_Y 176) (am_C 176) (am_L 176) (am_R 176)) := rfl
set_option maxRecDepth 100000 in
theorem cw_177 : am_lw (am_w3 177).1 = some (.code (am_Y 177) (am_C 177) (am_L 177) (am_R 177)) := rfl
set_option maxRecDepth 100000 in
theorem cw_178 : am_lw (am_w3 178).1 = some (.code (am_Y 178) (am_C 178) (am_L 178) (am_R 178)) := rfl
set_option maxRecDepth 100000 in
theorem cw_179 : am_lw (am_w3 179).1 = some (.code (am_Y 179) (am_C 179) (am_L 179) (am_R 179)) := rfl
set_option maxRecDepth 100000 in
theorem cw_180 : am_lw (am_w3 180).1 = some (.code (am_Y 180) (am_C 180) (am_L 180) (am_R 180)) := rfl
set_option maxRecDepth 100000 in
theorem cw_181 : am_lw (am_w3 181).1 = some (.code (am_Y 181) (am_C 181) (am_L 181) (am_R 181)) := rfl
set_option maxRecDepth 100000 in
theorem cw_182 : am_lw (am_w3 182).1 = some (.code (am_Y 182) (am_C 182) (am_L 182) (am_R 182)) := rfl
set_option maxRecDepth 100000 in
theorem cw_183 : am_lw (am_w3 183).1 = some (.code (am_Y 183) (am_C 183) (am_L 183) (am_R 183)) := rfl
set_option maxRecDepth 100000 in
theorem cw_184 : am_lw (am_w3 184).1 = some (.code (am_Y 184) (am_C 184) (am_L 184) (am_R 184)) := rfl
set_option maxRecDepth 100000 in
theorem cw_185 : am_lw (am_w3 185).1 = some (.code (am_Y 185) (am_C 185) (am_L 185) (am_R 185)) := rfl
set_option maxRecDepth 100000 in
theorem cw_186 : am_lw (am_w3 186).1 = some (.code (am_Y 186) (am_C 186) (am_L 186) (am_R 186)) := rfl
set_option maxRecDepth 100000 in
theorem cw_187 : am_lw (am_w3 187).1 = some (.code (am_Y 187) (am_C 187) (am_L 187) (am_R 187)) := rfl
set_option maxRecDepth 100000 in
theorem cw_188 : am_lw (am_w3 188).1 = some (.code (am_Y 188) (am_C 188) (am_L 188) (am_R 188)) := rfl
set_option maxRecDepth 100000 in
theorem cw_189 : am_lw (am_w3 189).1 = some (.code (am_Y 189) (am_C 189) (am_L 189) (am_R 189)) := rfl
set_option maxRecDepth 100000 in
theorem cw_190 : am_lw (am_w3 190).1 = some (.code (am_Y 190) (am_C 190) (am_L 190) (am_R 190)) := rfl
set_option maxRecDepth 100000 in
theorem cw_191 : am_lw (am_w3 191).1 = some (.code (am_Y 191) (am_C 191) (am_L 191) (am_R 191)) := rfl
set_option maxRecDepth 100000 in
theorem cw_192 : am_lw (am_w3 192).1 = some (.code (am_Y 192) (am_C 192) (am_L 192) (am_R 192)) := rfl
set_option maxRecDepth 100000 in
theorem cw_193 : am_lw (am_w3 193).1 = some (.code (am_Y 193) (am_C 193) (am_L 193) (am_R 193)) := rfl
set_option maxRecDepth 100000 in
theorem cw_194 : am_lw (am_w3 194).1 = some (.code (am_Y 194) (am_C 194) (am_L 194) (am_R 194)) := rfl
set_option maxRecDepth 100000 in
theorem cw_195 : am_lw (am_w3 195).1 = some (.code (am_Y 195) (am_C 195) (am_L 195) (am_R 195)) := rfl
set_option maxRecDepth 100000 in
theorem cw_196 : am_lw (am_w3 196).1 = some (.code (am_Y 196) (am_C 196) (am_L 196) (am_R 196)) := rfl
set_option maxRecDepth 100000 in
theorem cw_197 : am_lw (am_w3 197).1 = some (.code (am_Y 197) (am_C 197) (am_L 197) (am_R 197)) := rfl
set_option maxRecDepth 100000 in
theorem cw_198 : am_lw (am_w3 198).1 = some (.code (am_Y 198) (am_C 198) (am_L 198) (am_R 198)) := rfl
set_option maxRecDepth 100000 in
theorem cw_199 : am_lw (am_w3 199).1 = some (.code (am_Y 199) (am_C 199) (am_L 199) (am_R 199)) := rfl
set_option maxRecDepth 100000 in
theorem cw_200 : am_lw (am_w3 200).1 = some (.code (am_Y 200) (am_C 200) (am_L 200) (am_R 200)) := rfl
set_option maxRecDepth 100000 in
theorem cw_201 : am_lw (am_w3 201).1 = some (.code (am_Y 201) (am_C 201) (am_L 201) (am_R 201)) := rfl
set_option maxRecDepth 100000 in
theorem cw_202 : am_lw (am_w3 202).1 = some (.code (am_Y 202) (am_C 202) (am_L 202) (am_R 202)) := rfl
set_option maxRecDepth 100000 in
theorem cw_203 : am_lw (am_w3 203).1 = some (.code (am_Y 203) (am_C 203) (am_L 203) (am_R 203)) := rfl
set_option maxRecDepth 100000 in
theorem cw_204 : am_lw (am_w3 204).1 = some (.code (am_Y 204) (am_C 204) (am_L 204) (am_R 204)) := rfl
set_option maxRecDepth 100000 in
theorem cw_205 : am_lw (am_w3 205).1 = some (.code (am_Y 205) (am_C 205) (am_L 205) (am_R 205)) := rfl
set_option maxRecDepth 100000 in
theorem cw_206 : am_lw (am_w3 206).1 = some (.code (am_Y 206) (am_C 206) (am_L 206) (am_R 206)) := rfl
set_option maxRecDepth 100000 in
theorem cw_207 : am_lw (am_w3 207).1 = some (.code (am_Y 207) (am_C 207) (am_L 207) (am_R 207)) := rfl
set_option maxRecDepth 100000 in
theorem cw_208 : am_lw (am_w3 208).1 = some (.code (am_Y 208) (am_C 208) (am_L 208) (am_R 208)) := rfl
set_option maxRecDepth 100000 in
theorem cw_209 : am_lw (am_w3 209).1 = some (.code (am_Y 209) (am_C 209) (am_L 209) (am_R 209)) := rfl
set_option maxRecDepth 100000 in
theorem cw_210 : am_lw (am_w3 210).1 = some (.code (am_Y 210) (am_C 210) (am_L 210) (am_R 210)) := rfl
set_option maxRecDepth 100000 in
theorem cw_211 : am_lw (am_w3 211).1 = some (.code (am_Y 211) (am_C 211) (am_L 211) (am_R 211)) := rfl
set_option maxRecDepth 100000 in
theorem cw_212 : am_lw (am_w3 212).1 = some (.code (am_Y 212) (am_C 212) (am_L 212) (am_R 212)) := rfl
set_option maxRecDepth 100000 in
theorem cw_213 : am_lw (am_w3 213).1 = some (.code (am_Y 213) (am_C 213) (am_L 213) (am_R 213)) := rfl
set_option maxRecDepth 100000 in
theorem cw_214 : am_lw (am_w3 214).1 = some (.code (am_Y 214) (am_C 214) (am_L 214) (am_R 214)) := rfl
set_option maxRecDepth 100000 in
theorem cw_215 : am_lw (am_w3 215).1 = some (.code (am_Y 215) (am_C 215) (am_L 215) (am_R 215)) := rfl
set_option maxRecDepth 100000 in
theorem cw_216 : am_lw (am_w3 216).1 = some (.code (am_Y 216) (am_C 216) (am_L 216) (am_R 216)) := rfl
set_option maxRecDepth 100000 in
theorem cw_217 : am_lw (am_w3 217).1 = some (.code (am_Y 217) (am_C 217) (am_L 217) (am_R 217)) := rfl
set_option maxRecDepth 100000 in
theorem cw_218 : am_lw (am_w3 218).1 = some (.code (am_Y 218) (am_C 218) (am_L 218) (am_R 218)) := rfl
set_option maxRecDepth 100000 in
theorem cw_219 : am_lw (am_w3 219).1 = some (.code (am_Y 219) (am_C 219) (am_L 219) (am_R 219)) := rfl
set_option maxRecDepth 100000 in
theorem cw_220 : am_lw (am_w3 220).1 = some (.code (am_Y 220) (am_C 220) (am_L 220) (am_R 220)) := rfl
set_option maxRecDepth 100000 in
theorem cw_221 : am_lw (am_w3 221).1 = some (.code (am_Y 221) (am_C 221) (am_L 221) (am_R 221)) := rfl
set_option maxRecDepth 100000 in
theorem cw_222 : am_lw (am_w3 222).1 = some (.code (am_Y 222) (am_C 222) (am_L 222) (am_R 222)) := rfl
set_option maxRecDepth 100000 in
theorem cw_223 : am_lw (am_w3 223).1 = some (.code (am_Y 223) (am_C 223) (am_L 223) (am_R 223)) := rfl
set_option maxRecDepth 100000 in
theorem cw_224 : am_lw (am_w3 224).1 = some (.code (am_Y 224) (am_C 224) (am_L 224) (am_R 224)) := rfl
set_option maxRecDepth 100000 in
theorem cw_225 : am_lw (am_w3 225).1 = some (.code (am_Y 225) (am_C 225) (am_L 225) (am_R 225)) := rfl
set_option maxRecDepth 100000 in
theorem cw_226 : am_lw (am_w3 226).1 = some (.code (am_Y 226) (am_C 226) (am_L 226) (am_R 226)) := rfl
set_option maxRecDepth 100000 in
theorem cw_227 : am_lw (am_w3 227).1 = some (.code (am_Y 227) (am_C 227) (am_L 227) (am_R 227)) := rfl
set_option maxRecDepth 100000 in
theorem cw_228 : am_lw (am_w3 228).1 = some (.code (am_Y 228) (am_C 228) (am_L 228) (am_R 228)) := rfl
set_option maxRecDepth 100000 in
theorem cw_229 : am_lw (am_w3 229).1 = some (.code (am_Y 229) (am_C 229) (am_L 229) (am_R 229)) := rfl
set_option maxRecDepth 100000 in
theorem cw_230 : am_lw (am_w3 230).1 = some (.code (am_Y 230) (am_C 230) (am_L 230) (am_R 230)) := rfl
set_option maxRecDepth 100000 in
theorem cw_231 : am_lw (am_w3 231).1 = some (.code (am_Y 231) (am_C 231) (am_L 231) (am_R 231)) := rfl
set_option maxRecDepth 100000 in
theorem cw_232 : am_lw (am_w3 232).1 = some (.code (am_Y 232) (am_C 232) (am_L 232) (am_R 232)) := rfl
set_option maxRecDepth 100000 in
theorem cw_233 : am_lw (am_w3 233).1 = some (.code (am_Y 233) (am_C 233) (am_L 233) (am_R 233)) := rfl
set_option maxRecDepth 100000 in
theorem cw_234 : am_lw (am_w3 234).1 = some (.code (am_Y 234) (am_C 234) (am_L 234) (am_R 234)) := rfl
set_option maxRecDepth 100000 in
theorem cw_235 : am_lw (am_w3 235).1 = some (.code (am_Y 235) (am_C 235) (am_L 235) (am_R 235)) := rfl
set_option maxRecDepth 100000 in
theorem cw_236 : am_lw (am_w3 236).1 = some (.code (am_Y 236) (am_C 236) (am_L 236) (am_R 236)) := rfl
set_option maxRecDepth 100000 in
theorem cw_237 : am_lw (am_w3 237).1 = some (.code (am_Y 237) (am_C 237) (am_L 237) (am_R 237)) := rfl
set_option maxRecDepth 100000 in
theorem cw_238 : am_lw (am_w3 238).1 = some (.code (am_Y 238) (am_C 238) (am_L 238) (am_R 238)) := rfl
set_option maxRecDepth 100000 in
theorem cw_239 : am_lw (am_w3 239).1 = some (.code (am_Y 239) (am_C 239) (am_L 239) (am_R 239)) := rfl
set_option maxRecDepth 100000 in
theorem cw_240 : am_lw (am_w3 240).1 = some (.code (am_Y 240) (am_C 240) (am_L 240) (am_R 240)) := rfl
set_option maxRecDepth 100000 in
theorem cw_241 : am_lw (am_w3 241).1 = some (.code (am_Y 241) (am_C 241) (am_L 241) (am_R 241)) := rfl
set_option maxRecDepth 100000 in
theorem cw_242 : am_lw (am_w3 242).1 = some (.code (am_Y 242) (am_C 242) (am_L 242) (am_R 242)) := rfl
set_option maxRecDepth 100000 in
theorem cw_243 : am_lw (am_w3 243).1 = some (.code (am_Y 243) (am_C 243) (am_L 243) (am_R 243)) := rfl
set_option maxRecDepth 100000 in
theorem cw_244 : am_lw (am_w3 244).1 = some (.code (am_Y 244) (am_C 244) (am_L 244) (am_R 244)) := rfl
set_option maxRecDepth 100000 in
theorem cw_245 : am_lw (am_w3 245).1 = some (.code (am_Y 245) (am_C 245) (am_L 245) (am_R 245)) := rfl
set_option maxRecDepth 100000 in
theorem cw_246 : am_lw (am_w3 246).1 = some (.code (am_Y 246) (am_C 246) (am_L 246) (am_R 246)) := rfl
set_option maxRecDepth 100000 in
theorem cw_247 : am_lw (am_w3 247).1 = some (.code (am_Y 247) (am_C 247) (am_L 247) (am_R 247)) := rfl
set_option maxRecDepth 100000 in
theorem cw_248 : am_lw (am_w3 248).1 = some (.code (am_Y 248) (am_C 248) (am_L 248) (am_R 248)) := rfl
set_option maxRecDepth 100000 in
theorem cw_249 : am_lw (am_w3 249).1 = some (.code (am_Y 249) (am_C 249) (am_L 249) (am_R 249)) := rfl
set_option maxRecDepth 100000 in
theorem cw_250 : am_lw (am_w3 250).1 = some (.code (am_Y 250) (am_C 250) (am_L 250) (am_R 250)) := rfl
set_option maxRecDepth 100000 in
theorem cw_251 : am_lw (am_w3 251).1 = some (.code (am_Y 251) (am_C 251) (am_L 251) (am_R 251)) := rfl
set_option maxRecDepth 100000 in
theorem cw_252 : am_lw (am_w3 252).1 = some (.code (am_Y 252) (am_C 252) (am_L 252) (am_R 252)) := rfl
set_option maxRecDepth 100000 in
theorem cw_253 : am_lw (am_w3 253).1 = some (.code (am_Y 253) (am_C 253) (am_L 253) (am_R 253)) := rfl
theorem cw_all (z : Nat) (h : z < 254) : am_lw (am_w3 z).1 = some (.code (am_Y z) (am_C z) (am_L z) (am_R z)) :=
  match z, h with
  | 0, _ => cw_0
  | 1, _ => cw_1
  | 2, _ => cw_2
  | 3, _ => cw_3
  | 4, _ => cw_4
  | 5, _ => cw_5
  | 6, _ => cw_6
  | 7, _ => cw_7
  | 8, _ => cw_8
  | 9, _ => cw_9
  | 10, _ => cw_10
  | 11, _ => cw_11
  | 12, _ => cw_12
  | 13, _ => cw_13
  | 14, _ => cw_14
  | 15, _ => cw_15
  | 16, _ => cw_16
  | 17, _ => cw_17
  | 18, _ => cw_18
  | 19, _ => cw_19
  | 20, _ => cw_20
  | 21, _ => cw_21
  | 22, _ => cw_22
  | 23, _ => cw_23
  | 24, _ => cw_24
  | 25, _ => cw_25
  | 26, _ => cw_26
  | 27, _ => cw_27
  | 28, _ => cw_28
  | 29, _ => cw_29
  | 30, _ => cw_30
  | 31, _ => cw_31
  | 32, _ => cw_32
  | 33, _ => cw_33
  | 34, _ => cw_34
  | 35, _ => cw_35
  | 36, _ => cw_36
  | 37, _ => cw_37
  | 38, _ => cw_38
  | 39, _ => cw_39
  | 40, _ => cw_40
  | 41, _ => cw_41
  | 42, _ => cw_42
  | 43, _ => cw_43
  | 44, _ => cw_44
  | 45, _ => cw_45
  | 46, _ => cw_46
  | 47, _ => cw_47
  | 48, _ => cw_48
  | 49, _ => cw_49
  | 50, _ => cw_50
  | 51, _ => cw_51
  | 52, _ => cw_52
  | 53, _ => cw_53
  | 54, _ => cw_54
  | 55, _ => cw_55
  | 56, _ => cw_56
  | 57, _ => cw_57
  | 58, _ => cw_58
  | 59, _ => cw_59
  | 60, _ => cw_60
  | 61, _ => cw_61
  | 62, _ => cw_62
  | 63, _ => cw_63
  | 64, _ => cw_64
  | 65, _ => cw_65
  | 66, _ => cw_66
  | 67, _ => cw_67
  | 68, _ => cw_68
  | 69, _ => cw_69
  | 70, _ => cw_70
  | 71, _ => cw_71
  | 72, _ => cw_72
  | 73, _ => cw_73
  | 74, _ => cw_74
  | 75, _ => cw_75
  | 76, _ => cw_76
  | 77, _ => cw_77
  | 78, _ => cw_78
  | 79, _ => cw_79
  | 80, _ => cw_80
  | 81, _ => cw_81
  | 82, _ => cw_82
  | 83, _ => cw_83
  | 84, _ => cw_84
  | 85, _ => cw_85
  | 86, _ => cw_86
  | 87, _ => cw_87
  | 88, _ => cw_88
  | 89, _ => cw_89
  | 90, _ => cw_90
  | 91, _ => cw_91
  | 92, _ => cw_92
  | 93, _ => cw_93
  | 94, _ => cw_94
  | 95, _ => cw_95
  | 96, _ => cw_96
  | 97, _ => cw_97
  | 98, _ => cw_98
  | 99, _ => cw_99
  | 100, _ => cw_100
  | 101, _ => cw_101
  | 102, _ => cw_102
  | 103, _ => cw_103
  | 104, _ => cw_104
  | 105, _ => cw_105
  | 106, _ => cw_106
  | 107, _ => cw_107
  | 108, _ => cw_108
  | 109, _ => cw_109
  | 110, _ => cw_110
  | 111, _ => cw_111
  | 112, _ => cw_112
  | 113, _ => cw_113
  | 114, _ => cw_114
  | 115, _ => cw_115
  | 116, _ => cw_116
  | 117, _ => cw_117
  | 118, _ => cw_118
  | 119, _ => cw_119
  | 120, _ => cw_120
  | 121, _ => cw_121
  | 122, _ => cw_122
  | 123, _ => cw_123
  | 124, _ => cw_124
  | 125, _ => cw_125
  | 126, _ => cw_126
  | 127, _ => cw_127
  | 128, _ => cw_128
  | 129, _ => cw_129
  | 130, _ => cw_130
  | 131, _ => cw_131
  | 132, _ => cw_132
  | 133, _ => cw_133
  | 134, _ => cw_134
  | 135, _ => cw_135
  | 136, _ => cw_136
  | 137, _ => cw_137
  | 138, _ => cw_138
  | 139, _ => cw_139
  | 140, _ => cw_140
  | 141, _ => cw_141
  | 142, _ => cw_142
  | 143, _ => cw_143
  | 144, _ => cw_144
  | 145, _ => cw_145
  | 146, _ => cw_146
  | 147, _ => cw_147
  | 148, _ => cw_148
  | 149, _ => cw_149
  | 150, _ => cw_150
  | 151, _ => cw_151
  | 152, _ => cw_152
  | 153, _ => cw_153
  | 154, _ => cw_154
  | 155, _ => cw_155
  | 156, _ => cw_156
  | 157, _ => cw_157
  | 158, _ => cw_158
  | 159, _ => cw_159
  | 160, _ => cw_160
  | 161, _ => cw_161
  | 162, _ => cw_162
  | 163, _ => cw_163
  | 164, _ => cw_164
  | 165, _ => cw_165
  | 166, _ => cw_166
  | 167, _ => cw_167
  | 168, _ => cw_168
  | 169, _ => cw_169
  | 170, _ => cw_170
  | 171, _ => cw_171
  | 172, _ => cw_172
  | 173, _ => cw_173
  | 174, _ => cw_174
  | 175, _ => cw_175
  | 176, _ => cw_176
  | 177, _ => cw_177
  | 178, _ => cw_178
  | 179, _ => cw_179
  | 180, _ => cw_180
  | 181, _ => cw_181
  | 182, _ => cw_182
  | 183, _ => cw_183
  | 184, _ => cw_184
  | 185, _ => cw_185
  | 186, _ => cw_186
  | 187, _ => cw_187
  | 188, _ => cw_188
  | 189, _ => cw_189
  | 190, _ => cw_190
  | 191, _ => cw_191
  | 192, _ => cw_192
  | 193, _ => cw_193
  | 194, _ => cw_194
  | 195, _ => cw_195
  | 196, _ => cw_196
  | 197, _ => cw_197
  | 198, _ => cw_198
  | 199, _ => cw_199
  | 200, _ => cw_200
  | 201, _ => cw_201
  | 202, _ => cw_202
  | 203, _ => cw_203
  | 204, _ => cw_204
  | 205, _ => cw_205
  | 206, _ => cw_206
  | 207, _ => cw_207
  | 208, _ => cw_208
  | 209, _ => cw_209
  | 210, _ => cw_210
  | 211, _ => cw_211
  | 212, _ => cw_212
  | 213, _ => cw_213
  | 214, _ => cw_214
  | 215, _ => cw_215
  | 216, _ => cw_216
  | 217, _ => cw_217
  | 218, _ => cw_218
  | 219, _ => cw_219
  | 220, _ => cw_220
  | 221, _ => cw_221
  | 222, _ => cw_222
  | 223, _ => cw_223
  | 224, _ => cw_224
  | 225, _ => cw_225
  | 226, _ => cw_226
  | 227, _ => cw_227
  | 228, _ => cw_228
  | 229, _ => cw_229
  | 230, _ => cw_230
  | 231, _ => cw_231
  | 232, _ => cw_232
  | 233, _ => cw_233
  | 234, _ => cw_234
  | 235, _ => cw_235
  | 236, _ => cw_236
  | 237, _ => cw_237
  | 238, _ => cw_238
  | 239, _ => cw_239
  | 240, _ => cw_240
  | 241, _ => cw_241
  | 242, _ => cw_242
  | 243, _ => cw_243
  | 244, _ => cw_244
  | 245, _ => cw_245
  | 246, _ => cw_246
  | 247, _ => cw_247
  | 248, _ => cw_248
  | 249, _ => cw_249
  | 250, _ => cw_250
  | 251, _ => cw_251
  | 252, _ => cw_252
  | 253, _ => cw_253
  | n + 254, h => absurd h (by omega)

