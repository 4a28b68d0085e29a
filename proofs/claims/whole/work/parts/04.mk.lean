set_option maxRecDepth 100000 in
theorem am_mk_0 : (List.range' 0 20).all am_mkB = true := by decide +kernel
set_option maxRecDepth 100000 in
theorem am_mk_20 : (List.range' 20 20).all am_mkB = true := by decide +kernel
set_option maxRecDepth 100000 in
theorem am_mk_40 : (List.range' 40 20).all am_mkB = true := by decide +kernel
set_option maxRecDepth 100000 in
theorem am_mk_60 : (List.range' 60 20).all am_mkB = true := by decide +kernel
set_option maxRecDepth 100000 in
theorem am_mk_80 : (List.range' 80 20).all am_mkB = true := by decide +kernel
set_option maxRecDepth 100000 in
theorem am_mk_100 : (List.range' 100 20).all am_mkB = true := by decide +kernel
set_option maxRecDepth 100000 in
theorem am_mk_120 : (List.range' 120 20).all am_mkB = true := by decide +kernel
set_option maxRecDepth 100000 in
theorem am_mk_140 : (List.range' 140 20).all am_mkB = true := by decide +kernel
set_option maxRecDepth 100000 in
theorem am_mk_160 : (List.range' 160 20).all am_mkB = true := by decide +kernel
set_option maxRecDepth 100000 in
theorem am_mk_180 : (List.range' 180 20).all am_mkB = true := by decide +kernel
set_option maxRecDepth 100000 in
theorem am_mk_200 : (List.range' 200 19).all am_mkB = true := by decide +kernel
set_option maxRecDepth 100000 in
theorem am_cw_1 : lw_tbl[am_wC 1]? = some (.code (am_y 1) (am_by 1) (am_mx 1) (am_rt 1)) := rfl
set_option maxRecDepth 100000 in
theorem am_cw_2 : lw_tbl[am_wC 2]? = some (.code (am_y 2) (am_by 2) (am_mx 2) (am_rt 2)) := rfl
set_option maxRecDepth 100000 in
theorem am_cw_3 : lw_tbl[am_wC 3]? = some (.code (am_y 3) (am_by 3) (am_mx 3) (am_rt 3)) := rfl
set_option maxRecDepth 100000 in
theorem am_cw_4 : lw_tbl[am_wC 4]? = some (.code (am_y 4) (am_by 4) (am_mx 4) (am_rt 4)) := rfl
set_option maxRecDepth 100000 in
theorem am_cw_5 : lw_tbl[am_wC 5]? = some (.code (am_y 5) (am_by 5) (am_mx 5) (am_rt 5)) := rfl
set_option maxRecDepth 100000 in
theorem am_cw_6 : lw_tbl[am_wC 6]? = some (.code (am_y 6) (am_by 6) (am_mx 6) (am_rt 6)) := rfl
set_option maxRecDepth 100000 in
theorem am_cw_7 : lw_tbl[am_wC 7]? = some (.code (am_y 7) (am_by 7) (am_mx 7) (am_rt 7)) := rfl
set_option maxRecDepth 100000 in
theorem am_cw_8 : lw_tbl[am_wC 8]? = some (.code (am_y 8) (am_by 8) (am_mx 8) (am_rt 8)) := rfl
set_option maxRecDepth 100000 in
theorem am_cw_9 : lw_tbl[am_wC 9]? = some (.code (am_y 9) (am_by 9) (am_mx 9) (am_rt 9)) := rfl
set_option maxRecDepth 100000 in
theorem am_cw_10 : lw_tbl[am_wC 10]? = some (.code (am_y 10) (am_by 10) (am_mx 10) (am_rt 10)) := rfl
set_option maxRecDepth 100000 in
theorem am_cw_11 : lw_tbl[am_wC 11]? = some (.code (am_y 11) (am_by 11) (am_mx 11) (am_rt 11)) := rfl
set_option maxRecDepth 100000 in
theorem am_cw_12 : lw_tbl[am_wC 12]? = some (.code (am_y 12) (am_by 12) (am_mx 12) (am_rt 12)) := rfl
set_option maxRecDepth 100000 in
theorem am_cw_13 : lw_tbl[am_wC 13]? = some (.code (am_y 13) (am_by 13) (am_mx 13) (am_rt 13)) := rfl
set_option maxRecDepth 100000 in
theorem am_cw_14 : lw_tbl[am_wC 14]? = some (.code (am_y 14) (am_by 14) (am_mx 14) (am_rt 14)) := rfl
set_option maxRecDepth 100000 in
theorem am_cw_15 : lw_tbl[am_wC 15]? = some (.code (am_y 15) (am_by 15) (am_mx 15) (am_rt 15)) := rfl
set_option maxRecDepth 100000 in
theorem am_cw_16 : lw_tbl[am_wC 16]? = some (.code (am_y 16) (am_by 16) (am_mx 16) (am_rt 16)) := rfl
set_option maxRecDepth 100000 in
theorem am_cw_17 : lw_tbl[am_wC 17]? = some (.code (am_y 17) (am_by 17) (am_mx 17) (am_rt 17)) := rfl
set_option maxRecDepth 100000 in
theorem am_cw_18 : lw_tbl[am_wC 18]? = some (.code (am_y 18) (am_by 18) (am_mx 18) (am_rt 18)) := rfl
set_option maxRecDepth 100000 in
theorem am_cw_19 : lw_tbl[am_wC 19]? = some (.code (am_y 19) (am_by 19) (am_mx 19) (am_rt 19)) := rfl
set_option maxRecDepth 100000 in
theorem am_cw_20 : lw_tbl[am_wC 20]? = some (.code (am_y 20) (am_by 20) (am_mx 20) (am_rt 20)) := rfl
set_option maxRecDepth 100000 in
theorem am_cw_21 : lw_tbl[am_wC 21]? = some (.code (am_y 21) (am_by 21) (am_mx 21) (am_rt 21)) := rfl
set_option maxRecDepth 100000 in
theorem am_cw_22 : lw_tbl[am_wC 22]? = some (.code (am_y 22) (am_by 22) (am_mx 22) (am_rt 22)) := rfl
set_option maxRecDepth 100000 in
theorem am_cw_23 : lw_tbl[am_wC 23]? = some (.code (am_y 23) (am_by 23) (am_mx 23) (am_rt 23)) := rfl
set_option maxRecDepth 100000 in
theorem am_cw_24 : lw_tbl[am_wC 24]? = some (.code (am_y 24) (am_by 24) (am_mx 24) (am_rt 24)) := rfl
set_option maxRecDepth 100000 in
theorem am_cw_25 : lw_tbl[am_wC 25]? = some (.code (am_y 25) (am_by 25) (am_mx 25) (am_rt 25)) := rfl
set_option maxRecDepth 100000 in
theorem am_cw_26 : lw_tbl[am_wC 26]? = some (.code (am_y 26) (am_by 26) (am_mx 26) (am_rt 26)) := rfl
set_option maxRecDepth 100000 in
theorem am_cw_27 : lw_tbl[am_wC 27]? = some (.code (am_y 27) (am_by 27) (am_mx 27) (am_rt 27)) := rfl
set_option maxRecDepth 100000 in
theorem am_cw_28 : lw_tbl[am_wC 28]? = some (.code (am_y 28) (am_by 28) (am_mx 28) (am_rt 28)) := rfl
set_option maxRecDepth 100000 in
theorem am_cw_29 : lw_tbl[am_wC 29]? = some (.code (am_y 29) (am_by 29) (am_mx 29) (am_rt 29)) := rfl
set_option maxRecDepth 100000 in
theorem am_cw_30 : lw_tbl[am_wC 30]? = some (.code (am_y 30) (am_by 30) (am_mx 30) (am_rt 30)) := rfl
set_option maxRecDepth 100000 in
theorem am_cw_31 : lw_tbl[am_wC 31]? = some (.code (am_y 31) (am_by 31) (am_mx 31) (am_rt 31)) := rfl
set_option maxRecDepth 100000 in
theorem am_cw_32 : lw_tbl[am_wC 32]? = some (.code (am_y 32) (am_by 32) (am_mx 32) (am_rt 32)) := rfl
set_option maxRecDepth 100000 in
theorem am_cw_33 : lw_tbl[am_wC 33]? = some (.code (am_y 33) (am_by 33) (am_mx 33) (am_rt 33)) := rfl
set_option maxRecDepth 100000 in
theorem am_cw_34 : lw_tbl[am_wC 34]? = some (.code (am_y 34) (am_by 34) (am_mx 34) (am_rt 34)) := rfl
set_option maxRecDepth 100000 in
theorem am_cw_35 : lw_tbl[am_wC 35]? = some (.code (am_y 35) (am_by 35) (am_mx 35) (am_rt 35)) := rfl
set_option maxRecDepth 100000 in
theorem am_cw_36 : lw_tbl[am_wC 36]? = some (.code (am_y 36) (am_by 36) (am_mx 36) (am_rt 36)) := rfl
set_option maxRecDepth 100000 in
theorem am_cw_37 : lw_tbl[am_wC 37]? = some (.code (am_y 37) (am_by 37) (am_mx 37) (am_rt 37)) := rfl
set_option maxRecDepth 100000 in
theorem am_cw_38 : lw_tbl[am_wC 38]? = some (.code (am_y 38) (am_by 38) (am_mx 38) (am_rt 38)) := rfl
set_option maxRecDepth 100000 in
theorem am_cw_39 : lw_tbl[am_wC 39]? = some (.code (am_y 39) (am_by 39) (am_mx 39) (am_rt 39)) := rfl
set_option maxRecDepth 100000 in
theorem am_cw_40 : lw_tbl[am_wC 40]? = some (.code (am_y 40) (am_by 40) (am_mx 40) (am_rt 40)) := rfl
set_option maxRecDepth 100000 in
theorem am_cw_41 : lw_tbl[am_wC 41]? = some (.code (am_y 41) (am_by 41) (am_mx 41) (am_rt 41)) := rfl
set_option maxRecDepth 100000 in
theorem am_cw_42 : lw_tbl[am_wC 42]? = some (.code (am_y 42) (am_by 42) (am_mx 42) (am_rt 42)) := rfl
set_option maxRecDepth 100000 in
theorem am_cw_43 : lw_tbl[am_wC 43]? = some (.code (am_y 43) (am_by 43) (am_mx 43) (am_rt 43)) := rfl
set_option maxRecDepth 100000 in
theorem am_cw_44 : lw_tbl[am_wC 44]? = some (.code (am_y 44) (am_by 44) (am_mx 44) (am_rt 44)) := rfl
set_option maxRecDepth 100000 in
theorem am_cw_45 : lw_tbl[am_wC 45]? = some (.code (am_y 45) (am_by 45) (am_mx 45) (am_rt 45)) := rfl
set_option maxRecDepth 100000 in
theorem am_cw_46 : lw_tbl[am_wC 46]? = some (.code (am_y 46) (am_by 46) (am_mx 46) (am_rt 46)) := rfl
set_option maxRecDepth 100000 in
theorem am_cw_47 : lw_tbl[am_wC 47]? = some (.code (am_y 47) (am_by 47) (am_mx 47) (am_rt 47)) := rfl
set_option maxRecDepth 100000 in
theorem am_cw_48 : lw_tbl[am_wC 48]? = some (.code (am_y 48) (am_by 48) (am_mx 48) (am_rt 48)) := rfl
set_option maxRecDepth 100000 in
theorem am_cw_49 : lw_tbl[am_wC 49]? = some (.code (am_y 49) (am_by 49) (am_mx 49) (am_rt 49)) := rfl
set_option maxRecDepth 100000 in
theorem am_cw_50 : lw_tbl[am_wC 50]? = some (.code (am_y 50) (am_by 50) (am_mx 50) (am_rt 50)) := rfl
set_option maxRecDepth 100000 in
theorem am_cw_51 : lw_tbl[am_wC 51]? = some (.code (am_y 51) (am_by 51) (am_mx 51) (am_rt 51)) := rfl
set_option maxRecDepth 100000 in
theorem am_cw_52 : lw_tbl[am_wC 52]? = some (.code (am_y 52) (am_by 52) (am_mx 52) (am_rt 52)) := rfl
set_option maxRecDepth 100000 in
theorem am_cw_53 : lw_tbl[am_wC 53]? = some (.code (am_y 53) (am_by 53) (am_mx 53) (am_rt 53)) := rfl
set_option maxRecDepth 100000 in
theorem am_cw_54 : lw_tbl[am_wC 54]? = some (.code (am_y 54) (am_by 54) (am_mx 54) (am_rt 54)) := rfl
set_option maxRecDepth 100000 in
theorem am_cw_55 : lw_tbl[am_wC 55]? = some (.code (am_y 55) (am_by 55) (am_mx 55) (am_rt 55)) := rfl
set_option maxRecDepth 100000 in
theorem am_cw_56 : lw_tbl[am_wC 56]? = some (.code (am_y 56) (am_by 56) (am_mx 56) (am_rt 56)) := rfl
set_option maxRecDepth 100000 in
theorem am_cw_57 : lw_tbl[am_wC 57]? = some (.code (am_y 57) (am_by 57) (am_mx 57) (am_rt 57)) := rfl
set_option maxRecDepth 100000 in
theorem am_cw_58 : lw_tbl[am_wC 58]? = some (.code (am_y 58) (am_by 58) (am_mx 58) (am_rt 58)) := rfl
set_option maxRecDepth 100000 in
theorem am_cw_59 : lw_tbl[am_wC 59]? = some (.code (am_y 59) (am_by 59) (am_mx 59) (am_rt 59)) := rfl
set_option maxRecDepth 100000 in
theorem am_cw_60 : lw_tbl[am_wC 60]? = some (.code (am_y 60) (am_by 60) (am_mx 60) (am_rt 60)) := rfl
set_option maxRecDepth 100000 in
theorem am_cw_61 : lw_tbl[am_wC 61]? = some (.code (am_y 61) (am_by 61) (am_mx 61) (am_rt 61)) := rfl
set_option maxRecDepth 100000 in
theorem am_cw_62 : lw_tbl[am_wC 62]? = some (.code (am_y 62) (am_by 62) (am_mx 62) (am_rt 62)) := rfl
set_option maxRecDepth 100000 in
theorem am_cw_63 : lw_tbl[am_wC 63]? = some (.code (am_y 63) (am_by 63) (am_mx 63) (am_rt 63)) := rfl
set_option maxRecDepth 100000 in
theorem am_cw_64 : lw_tbl[am_wC 64]? = some (.code (am_y 64) (am_by 64) (am_mx 64) (am_rt 64)) := rfl
set_option maxRecDepth 100000 in
theorem am_cw_65 : lw_tbl[am_wC 65]? = some (.code (am_y 65) (am_by 65) (am_mx 65) (am_rt 65)) := rfl
set_option maxRecDepth 100000 in
theorem am_cw_66 : lw_tbl[am_wC 66]? = some (.code (am_y 66) (am_by 66) (am_mx 66) (am_rt 66)) := rfl
set_option maxRecDepth 100000 in
theorem am_cw_67 : lw_tbl[am_wC 67]? = some (.code (am_y 67) (am_by 67) (am_mx 67) (am_rt 67)) := rfl
set_option maxRecDepth 100000 in
theorem am_cw_68 : lw_tbl[am_wC 68]? = some (.code (am_y 68) (am_by 68) (am_mx 68) (am_rt 68)) := rfl
set_option maxRecDepth 100000 in
theorem am_cw_69 : lw_tbl[am_wC 69]? = some (.code (am_y 69) (am_by 69) (am_mx 69) (am_rt 69)) := rfl
set_option maxRecDepth 100000 in
theorem am_cw_70 : lw_tbl[am_wC 70]? = some (.code (am_y 70) (am_by 70) (am_mx 70) (am_rt 70)) := rfl
set_option maxRecDepth 100000 in
theorem am_cw_71 : lw_tbl[am_wC 71]? = some (.code (am_y 71) (am_by 71) (am_mx 71) (am_rt 71)) := rfl
set_option maxRecDepth 100000 in
theorem am_cw_72 : lw_tbl[am_wC 72]? = some (.code (am_y 72) (am_by 72) (am_mx 72) (am_rt 72)) := rfl
set_option maxRecDepth 100000 in
theorem am_cw_73 : lw_tbl[am_wC 73]? = some (.code (am_y 73) (am_by 73) (am_mx 73) (am_rt 73)) := rfl
set_option maxRecDepth 100000 in
theorem am_cw_74 : lw_tbl[am_wC 74]? = some (.code (am_y 74) (am_by 74) (am_mx 74) (am_rt 74)) := rfl
set_option maxRecDepth 100000 in
theorem am_cw_75 : lw_tbl[am_wC 75]? = some (.code (am_y 75) (am_by 75) (am_mx 75) (am_rt 75)) := rfl
set_option maxRecDepth 100000 in
theorem am_cw_76 : lw_tbl[am_wC 76]? = some (.code (am_y 76) (am_by 76) (am_mx 76) (am_rt 76)) := rfl
set_option maxRecDepth 100000 in
theorem am_cw_77 : lw_tbl[am_wC 77]? = some (.code (am_y 77) (am_by 77) (am_mx 77) (am_rt 77)) := rfl
set_option maxRecDepth 100000 in
theorem am_cw_78 : lw_tbl[am_wC 78]? = some (.code (am_y 78) (am_by 78) (am_mx 78) (am_rt 78)) := rfl
set_option maxRecDepth 100000 in
theorem am_cw_79 : lw_tbl[am_wC 79]? = some (.code (am_y 79) (am_by 79) (am_mx 79) (am_rt 79)) := rfl
set_option maxRecDepth 100000 in
theorem am_cw_80 : lw_tbl[am_wC 80]? = some (.code (am_y 80) (am_by 80) (am_mx 80) (am_rt 80)) := rfl
set_option maxRecDepth 100000 in
theorem am_cw_81 : lw_tbl[am_wC 81]? = some (.code (am_y 81) (am_by 81) (am_mx 81) (am_rt 81)) := rfl
set_option maxRecDepth 100000 in
theorem am_cw_82 : lw_tbl[am_wC 82]? = some (.code (am_y 82) (am_by 82) (am_mx 82) (am_rt 82)) := rfl
set_option maxRecDepth 100000 in
theorem am_cw_83 : lw_tbl[am_wC 83]? = some (.code (am_y 83) (am_by 83) (am_mx 83) (am_rt 83)) := rfl
set_option maxRecDepth 100000 in
theorem am_cw_84 : lw_tbl[am_wC 84]? = some (.code (am_y 84) (am_by 84) (am_mx 84) (am_rt 84)) := rfl
set_option maxRecDepth 100000 in
theorem am_cw_85 : lw_tbl[am_wC 85]? = some (.code (am_y 85) (am_by 85) (am_mx 85) (am_rt 85)) := rfl
set_option maxRecDepth 100000 in
theorem am_cw_86 : lw_tbl[am_wC 86]? = some (.code (am_y 86) (am_by 86) (am_mx 86) (am_rt 86)) := rfl
set_option maxRecDepth 100000 in
theorem am_cw_87 : lw_tbl[am_wC 87]? = some (.code (am_y 87) (am_by 87) (am_mx 87) (am_rt 87)) := rfl
set_option maxRecDepth 100000 in
theorem am_cw_88 : lw_tbl[am_wC 88]? = some (.code (am_y 88) (am_by 88) (am_mx 88) (am_rt 88)) := rfl
set_option maxRecDepth 100000 in
theorem am_cw_89 : lw_tbl[am_wC 89]? = some (.code (am_y 89) (am_by 89) (am_mx 89) (am_rt 89)) := rfl
set_option maxRecDepth 100000 in
theorem am_cw_90 : lw_tbl[am_wC 90]? = some (.code (am_y 90) (am_by 90) (am_mx 90) (am_rt 90)) := rfl
set_option maxRecDepth 100000 in
theorem am_cw_91 : lw_tbl[am_wC 91]? = some (.code (am_y 91) (am_by 91) (am_mx 91) (am_rt 91)) := rfl
set_option maxRecDepth 100000 in
theorem am_cw_92 : lw_tbl[am_wC 92]? = some (.code (am_y 92) (am_by 92) (am_mx 92) (am_rt 92)) := rfl
set_option maxRecDepth 100000 in
theorem am_cw_93 : lw_tbl[am_wC 93]? = some (.code (am_y 93) (am_by 93) (am_mx 93) (am_rt 93)) := rfl
set_option maxRecDepth 100000 in
theorem am_cw_94 : lw_tbl[am_wC 94]? = some (.code (am_y 94) (am_by 94) (am_mx 94) (am_rt 94)) := rfl
set_option maxRecDepth 100000 in
theorem am_cw_95 : lw_tbl[am_wC 95]? = some (.code (am_y 95) (am_by 95) (am_mx 95) (am_rt 95)) := rfl
set_option maxRecDepth 100000 in
theorem am_cw_96 : lw_tbl[am_wC 96]? = some (.code (am_y 96) (am_by 96) (am_mx 96) (am_rt 96)) := rfl
set_option maxRecDepth 100000 in
theorem am_cw_97 : lw_tbl[am_wC 97]? = some (.code (am_y 97) (am_by 97) (am_mx 97) (am_rt 97)) := rfl
set_option maxRecDepth 100000 in
theorem am_cw_98 : lw_tbl[am_wC 98]? = some (.code (am_y 98) (am_by 98) (am_mx 98) (am_rt 98)) := rfl
set_option maxRecDepth 100000 in
theorem am_cw_99 : lw_tbl[am_wC 99]? = some (.code (am_y 99) (am_by 99) (am_mx 99) (am_rt 99)) := rfl
set_option maxRecDepth 100000 in
theorem am_cw_100 : lw_tbl[am_wC 100]? = some (.code (am_y 100) (am_by 100) (am_mx 100) (am_rt 100)) := rfl
set_option maxRecDepth 100000 in
theorem am_cw_101 : lw_tbl[am_wC 101]? = some (.code (am_y 101) (am_by 101) (am_mx 101) (am_rt 101)) := rfl
set_option maxRecDepth 100000 in
theorem am_cw_102 : lw_tbl[am_wC 102]? = some (.code (am_y 102) (am_by 102) (am_mx 102) (am_rt 102)) := rfl
set_option maxRecDepth 100000 in
theorem am_cw_103 : lw_tbl[am_wC 103]? = some (.code (am_y 103) (am_by 103) (am_mx 103) (am_rt 103)) := rfl
set_option maxRecDepth 100000 in
theorem am_cw_104 : lw_tbl[am_wC 104]? = some (.code (am_y 104) (am_by 104) (am_mx 104) (am_rt 104)) := rfl
set_option maxRecDepth 100000 in
theorem am_cw_105 : lw_tbl[am_wC 105]? = some (.code (am_y 105) (am_by 105) (am_mx 105) (am_rt 105)) := rfl
set_option maxRecDepth 100000 in
theorem am_cw_106 : lw_tbl[am_wC 106]? = some (.code (am_y 106) (am_by 106) (am_mx 106) (am_rt 106)) := rfl
set_option maxRecDepth 100000 in
theorem am_cw_107 : lw_tbl[am_wC 107]? = some (.code (am_y 107) (am_by 107) (am_mx 107) (am_rt 107)) := rfl
set_option maxRecDepth 100000 in
theorem am_cw_108 : lw_tbl[am_wC 108]? = some (.code (am_y 108) (am_by 108) (am_mx 108) (am_rt 108)) := rfl
set_option maxRecDepth 100000 in
theorem am_cw_109 : lw_tbl[am_wC 109]? = some (.code (am_y 109) (am_by 109) (am_mx 109) (am_rt 109)) := rfl
set_option maxRecDepth 100000 in
theorem am_cw_110 : lw_tbl[am_wC 110]? = some (.code (am_y 110) (am_by 110) (am_mx 110) (am_rt 110)) := rfl
set_option maxRecDepth 100000 in
theorem am_cw_111 : lw_tbl[am_wC 111]? = some (.code (am_y 111) (am_by 111) (am_mx 111) (am_rt 111)) := rfl
set_option maxRecDepth 100000 in
theorem am_cw_112 : lw_tbl[am_wC 112]? = some (.code (am_y 112) (am_by 112) (am_mx 112) (am_rt 112)) := rfl
set_option maxRecDepth 100000 in
theorem am_cw_113 : lw_tbl[am_wC 113]? = some (.code (am_y 113) (am_by 113) (am_mx 113) (am_rt 113)) := rfl
set_option maxRecDepth 100000 in
theorem am_cw_114 : lw_tbl[am_wC 114]? = some (.code (am_y 114) (am_by 114) (am_mx 114) (am_rt 114)) := rfl
set_option maxRecDepth 100000 in
theorem am_cw_115 : lw_tbl[am_wC 115]? = some (.code (am_y 115) (am_by 115) (am_mx 115) (am_rt 115)) := rfl
set_option maxRecDepth 100000 in
theorem am_cw_116 : lw_tbl[am_wC 116]? = some (.code (am_y 116) (am_by 116) (am_mx 116) (am_rt 116)) := rfl
set_option maxRecDepth 100000 in
theorem am_cw_117 : lw_tbl[am_wC 117]? = some (.code (am_y 117) (am_by 117) (am_mx 117) (am_rt 117)) := rfl
set_option maxRecDepth 100000 in
theorem am_cw_118 : lw_tbl[am_wC 118]? = some (.code (am_y 118) (am_by 118) (am_mx 118) (am_rt 118)) := rfl
set_option maxRecDepth 100000 in
theorem am_cw_119 : lw_tbl[am_wC 119]? = some (.code (am_y 119) (am_by 119) (am_mx 119) (am_rt 119)) := rfl
set_option maxRecDepth 100000 in
theorem am_cw_120 : lw_tbl[am_wC 120]? = some (.code (am_y 120) (am_by 120) (am_mx 120) (am_rt 120)) := rfl
set_option maxRecDepth 100000 in
theorem am_cw_121 : lw_tbl[am_wC 121]? = some (.code (am_y 121) (am_by 121) (am_mx 121) (am_rt 121)) := rfl
set_option maxRecDepth 100000 in
theorem am_cw_122 : lw_tbl[am_wC 122]? = some (.code (am_y 122) (am_by 122) (am_mx 122) (am_rt 122)) := rfl
set_option maxRecDepth 100000 in
theorem am_cw_123 : lw_tbl[am_wC 123]? = some (.code (am_y 123) (am_by 123) (am_mx 123) (am_rt 123)) := rfl
set_option maxRecDepth 100000 in
theorem am_cw_124 : lw_tbl[am_wC 124]? = some (.code (am_y 124) (am_by 124) (am_mx 124) (am_rt 124)) := rfl
set_option maxRecDepth 100000 in
theorem am_cw_125 : lw_tbl[am_wC 125]? = some (.code (am_y 125) (am_by 125) (am_mx 125) (am_rt 125)) := rfl
set_option maxRecDepth 100000 in
theorem am_cw_126 : lw_tbl[am_wC 126]? = some (.code (am_y 126) (am_by 126) (am_mx 126) (am_rt 126)) := rfl
set_option maxRecDepth 100000 in
theorem am_cw_127 : lw_tbl[am_wC 127]? = some (.code (am_y 127) (am_by 127) (am_mx 127) (am_rt 127)) := rfl
set_option maxRecDepth 100000 in
theorem am_cw_128 : lw_tbl[am_wC 128]? = some (.code (am_y 128) (am_by 128) (am_mx 128) (am_rt 128)) := rfl
set_option maxRecDepth 100000 in
theorem am_cw_129 : lw_tbl[am_wC 129]? = some (.code (am_y 129) (am_by 129) (am_mx 129) (am_rt 129)) := rfl
set_option maxRecDepth 100000 in
theorem am_cw_130 : lw_tbl[am_wC 130]? = some (.code (am_y 130) (am_by 130) (am_mx 130) (am_rt 130)) := rfl
set_option maxRecDepth 100000 in
theorem am_cw_131 : lw_tbl[am_wC 131]? = some (.code (am_y 131) (am_by 131) (am_mx 131) (am_rt 131)) := rfl
set_option maxRecDepth 100000 in
theorem am_cw_132 : lw_tbl[am_wC 132]? = some (.code (am_y 132) (am_by 132) (am_mx 132) (am_rt 132)) := rfl
set_option maxRecDepth 100000 in
theorem am_cw_133 : lw_tbl[am_wC 133]? = some (.code (am_y 133) (am_by 133) (am_mx 133) (am_rt 133)) := rfl
set_option maxRecDepth 100000 in
theorem am_cw_134 : lw_tbl[am_wC 134]? = some (.code (am_y 134) (am_by 134) (am_mx 134) (am_rt 134)) := rfl
set_option maxRecDepth 100000 in
theorem am_cw_135 : lw_tbl[am_wC 135]? = some (.code (am_y 135) (am_by 135) (am_mx 135) (am_rt 135)) := rfl
set_option maxRecDepth 100000 in
theorem am_cw_136 : lw_tbl[am_wC 136]? = some (.code (am_y 136) (am_by 136) (am_mx 136) (am_rt 136)) := rfl
set_option maxRecDepth 100000 in
theorem am_cw_137 : lw_tbl[am_wC 137]? = some (.code (am_y 137) (am_by 137) (am_mx 137) (am_rt 137)) := rfl
set_option maxRecDepth 100000 in
theorem am_cw_138 : lw_tbl[am_wC 138]? = some (.code (am_y 138) (am_by 138) (am_mx 138) (am_rt 138)) := rfl
set_option maxRecDepth 100000 in
theorem am_cw_139 : lw_tbl[am_wC 139]? = some (.code (am_y 139) (am_by 139) (am_mx 139) (am_rt 139)) := rfl
set_option maxRecDepth 100000 in
theorem am_cw_140 : lw_tbl[am_wC 140]? = some (.code (am_y 140) (am_by 140) (am_mx 140) (am_rt 140)) := rfl
set_option maxRecDepth 100000 in
theorem am_cw_141 : lw_tbl[am_wC 141]? = some (.code (am_y 141) (am_by 141) (am_mx 141) (am_rt 141)) := rfl
set_option maxRecDepth 100000 in
theorem am_cw_142 : lw_tbl[am_wC 142]? = some (.code (am_y 142) (am_by 142) (am_mx 142) (am_rt 142)) := rfl
set_option maxRecDepth 100000 in
theorem am_cw_143 : lw_tbl[am_wC 143]? = some (.code (am_y 143) (am_by 143) (am_mx 143) (am_rt 143)) := rfl
set_option maxRecDepth 100000 in
theorem am_cw_144 : lw_tbl[am_wC 144]? = some (.code (am_y 144) (am_by 144) (am_mx 144) (am_rt 144)) := rfl
set_option maxRecDepth 100000 in
theorem am_cw_145 : lw_tbl[am_wC 145]? = some (.code (am_y 145) (am_by 145) (am_mx 145) (am_rt 145)) := rfl
set_option maxRecDepth 100000 in
theorem am_cw_146 : lw_tbl[am_wC 146]? = some (.code (am_y 146) (am_by 146) (am_mx 146) (am_rt 146)) := rfl
set_option maxRecDepth 100000 in
theorem am_cw_147 : lw_tbl[am_wC 147]? = some (.code (am_y 147) (am_by 147) (am_mx 147) (am_rt 147)) := rfl
set_option maxRecDepth 100000 in
theorem am_cw_148 : lw_tbl[am_wC 148]? = some (.code (am_y 148) (am_by 148) (am_mx 148) (am_rt 148)) := rfl
set_option maxRecDepth 100000 in
theorem am_cw_149 : lw_tbl[am_wC 149]? = some (.code (am_y 149) (am_by 149) (am_mx 149) (am_rt 149)) := rfl
set_option maxRecDepth 100000 in
theorem am_cw_150 : lw_tbl[am_wC 150]? = some (.code (am_y 150) (am_by 150) (am_mx 150) (am_rt 150)) := rfl
set_option maxRecDepth 100000 in
theorem am_cw_151 : lw_tbl[am_wC 151]? = some (.code (am_y 151) (am_by 151) (am_mx 151) (am_rt 151)) := rfl
set_option maxRecDepth 100000 in
theorem am_cw_152 : lw_tbl[am_wC 152]? = some (.code (am_y 152) (am_by 152) (am_mx 152) (am_rt 152)) := rfl
set_option maxRecDepth 100000 in
theorem am_cw_153 : lw_tbl[am_wC 153]? = some (.code (am_y 153) (am_by 153) (am_mx 153) (am_rt 153)) := rfl
set_option maxRecDepth 100000 in
theorem am_cw_154 : lw_tbl[am_wC 154]? = some (.code (am_y 154) (am_by 154) (am_mx 154) (am_rt 154)) := rfl
set_option maxRecDepth 100000 in
theorem am_cw_155 : lw_tbl[am_wC 155]? = some (.code (am_y 155) (am_by 155) (am_mx 155) (am_rt 155)) := rfl
set_option maxRecDepth 100000 in
theorem am_cw_156 : lw_tbl[am_wC 156]? = some (.code (am_y 156) (am_by 156) (am_mx 156) (am_rt 156)) := rfl
set_option maxRecDepth 100000 in
theorem am_cw_157 : lw_tbl[am_wC 157]? = some (.code (am_y 157) (am_by 157) (am_mx 157) (am_rt 157)) := rfl
set_option maxRecDepth 100000 in
theorem am_cw_158 : lw_tbl[am_wC 158]? = some (.code (am_y 158) (am_by 158) (am_mx 158) (am_rt 158)) := rfl
set_option maxRecDepth 100000 in
theorem am_cw_159 : lw_tbl[am_wC 159]? = some (.code (am_y 159) (am_by 159) (am_mx 159) (am_rt 159)) := rfl
set_option maxRecDepth 100000 in
theorem am_cw_160 : lw_tbl[am_wC 160]? = some (.code (am_y 160) (am_by 160) (am_mx 160) (am_rt 160)) := rfl
set_option maxRecDepth 100000 in
theorem am_cw_161 : lw_tbl[am_wC 161]? = some (.code (am_y 161) (am_by 161) (am_mx 161) (am_rt 161)) := rfl
set_option maxRecDepth 100000 in
theorem am_cw_162 : lw_tbl[am_wC 162]? = some (.code (am_y 162) (am_by 162) (am_mx 162) (am_rt 162)) := rfl
set_option maxRecDepth 100000 in
theorem am_cw_163 : lw_tbl[am_wC 163]? = some (.code (am_y 163) (am_by 163) (am_mx 163) (am_rt 163)) := rfl
set_option maxRecDepth 100000 in
theorem am_cw_164 : lw_tbl[am_wC 164]? = some (.code (am_y 164) (am_by 164) (am_mx 164) (am_rt 164)) := rfl
set_option maxRecDepth 100000 in
theorem am_cw_165 : lw_tbl[am_wC 165]? = some (.code (am_y 165) (am_by 165) (am_mx 165) (am_rt 165)) := rfl
set_option maxRecDepth 100000 in
theorem am_cw_166 : lw_tbl[am_wC 166]? = some (.code (am_y 166) (am_by 166) (am_mx 166) (am_rt 166)) := rfl
set_option maxRecDepth 100000 in
theorem am_cw_167 : lw_tbl[am_wC 167]? = some (.code (am_y 167) (am_by 167) (am_mx 167) (am_rt 167)) := rfl
set_option maxRecDepth 100000 in
theorem am_cw_168 : lw_tbl[am_wC 168]? = some (.code (am_y 168) (am_by 168) (am_mx 168) (am_rt 168)) := rfl
set_option maxRecDepth 100000 in
theorem am_cw_169 : lw_tbl[am_wC 169]? = some (.code (am_y 169) (am_by 169) (am_mx 169) (am_rt 169)) := rfl
set_option maxRecDepth 100000 in
theorem am_cw_170 : lw_tbl[am_wC 170]? = some (.code (am_y 170) (am_by 170) (am_mx 170) (am_rt 170)) := rfl
set_option maxRecDepth 100000 in
theorem am_cw_171 : lw_tbl[am_wC 171]? = some (.code (am_y 171) (am_by 171) (am_mx 171) (am_rt 171)) := rfl
set_option maxRecDepth 100000 in
theorem am_cw_172 : lw_tbl[am_wC 172]? = some (.code (am_y 172) (am_by 172) (am_mx 172) (am_rt 172)) := rfl
set_option maxRecDepth 100000 in
theorem am_cw_173 : lw_tbl[am_wC 173]? = some (.code (am_y 173) (am_by 173) (am_mx 173) (am_rt 173)) := rfl
set_option maxRecDepth 100000 in
theorem am_cw_174 : lw_tbl[am_wC 174]? = some (.code (am_y 174) (am_by 174) (am_mx 174) (am_rt 174)) := rfl
set_option maxRecDepth 100000 in
theorem am_cw_175 : lw_tbl[am_wC 175]? = some (.code (am_y 175) (am_by 175) (am_mx 175) (am_rt 175)) := rfl
set_option maxRecDepth 100000 in
theorem am_cw_176 : lw_tbl[am_wC 176]? = some (.code (am_y 176) (am_by 176) (am_mx 176) (am_rt 176)) := rfl
set_option maxRecDepth 100000 in
theorem am_cw_177 : lw_tbl[am_wC 177]? = some (.code (am_y 177) (am_by 177) (am_mx 177) (am_rt 177)) := rfl
set_option maxRecDepth 100000 in
theorem am_cw_178 : lw_tbl[am_wC 178]? = some (.code (am_y 178) (am_by 178) (am_mx 178) (am_rt 178)) := rfl
set_option maxRecDepth 100000 in
theorem am_cw_179 : lw_tbl[am_wC 179]? = some (.code (am_y 179) (am_by 179) (am_mx 179) (am_rt 179)) := rfl
set_option maxRecDepth 100000 in
theorem am_cw_180 : lw_tbl[am_wC 180]? = some (.code (am_y 180) (am_by 180) (am_mx 180) (am_rt 180)) := rfl
set_option maxRecDepth 100000 in
theorem am_cw_181 : lw_tbl[am_wC 181]? = some (.code (am_y 181) (am_by 181) (am_mx 181) (am_rt 181)) := rfl
set_option maxRecDepth 100000 in
theorem am_cw_182 : lw_tbl[am_wC 182]? = some (.code (am_y 182) (am_by 182) (am_mx 182) (am_rt 182)) := rfl
set_option maxRecDepth 100000 in
theorem am_cw_183 : lw_tbl[am_wC 183]? = some (.code (am_y 183) (am_by 183) (am_mx 183) (am_rt 183)) := rfl
set_option maxRecDepth 100000 in
theorem am_cw_184 : lw_tbl[am_wC 184]? = some (.code (am_y 184) (am_by 184) (am_mx 184) (am_rt 184)) := rfl
set_option maxRecDepth 100000 in
theorem am_cw_185 : lw_tbl[am_wC 185]? = some (.code (am_y 185) (am_by 185) (am_mx 185) (am_rt 185)) := rfl
set_option maxRecDepth 100000 in
theorem am_cw_186 : lw_tbl[am_wC 186]? = some (.code (am_y 186) (am_by 186) (am_mx 186) (am_rt 186)) := rfl
set_option maxRecDepth 100000 in
theorem am_cw_187 : lw_tbl[am_wC 187]? = some (.code (am_y 187) (am_by 187) (am_mx 187) (am_rt 187)) := rfl
set_option maxRecDepth 100000 in
theorem am_cw_188 : lw_tbl[am_wC 188]? = some (.code (am_y 188) (am_by 188) (am_mx 188) (am_rt 188)) := rfl
set_option maxRecDepth 100000 in
theorem am_cw_189 : lw_tbl[am_wC 189]? = some (.code (am_y 189) (am_by 189) (am_mx 189) (am_rt 189)) := rfl
set_option maxRecDepth 100000 in
theorem am_cw_190 : lw_tbl[am_wC 190]? = some (.code (am_y 190) (am_by 190) (am_mx 190) (am_rt 190)) := rfl
set_option maxRecDepth 100000 in
theorem am_cw_191 : lw_tbl[am_wC 191]? = some (.code (am_y 191) (am_by 191) (am_mx 191) (am_rt 191)) := rfl
set_option maxRecDepth 100000 in
theorem am_cw_192 : lw_tbl[am_wC 192]? = some (.code (am_y 192) (am_by 192) (am_mx 192) (am_rt 192)) := rfl
set_option maxRecDepth 100000 in
theorem am_cw_193 : lw_tbl[am_wC 193]? = some (.code (am_y 193) (am_by 193) (am_mx 193) (am_rt 193)) := rfl
set_option maxRecDepth 100000 in
theorem am_cw_194 : lw_tbl[am_wC 194]? = some (.code (am_y 194) (am_by 194) (am_mx 194) (am_rt 194)) := rfl
set_option maxRecDepth 100000 in
theorem am_cw_195 : lw_tbl[am_wC 195]? = some (.code (am_y 195) (am_by 195) (am_mx 195) (am_rt 195)) := rfl
set_option maxRecDepth 100000 in
theorem am_cw_196 : lw_tbl[am_wC 196]? = some (.code (am_y 196) (am_by 196) (am_mx 196) (am_rt 196)) := rfl
set_option maxRecDepth 100000 in
theorem am_cw_197 : lw_tbl[am_wC 197]? = some (.code (am_y 197) (am_by 197) (am_mx 197) (am_rt 197)) := rfl
set_option maxRecDepth 100000 in
theorem am_cw_198 : lw_tbl[am_wC 198]? = some (.code (am_y 198) (am_by 198) (am_mx 198) (am_rt 198)) := rfl
set_option maxRecDepth 100000 in
theorem am_cw_199 : lw_tbl[am_wC 199]? = some (.code (am_y 199) (am_by 199) (am_mx 199) (am_rt 199)) := rfl
set_option maxRecDepth 100000 in
theorem am_cw_200 : lw_tbl[am_wC 200]? = some (.code (am_y 200) (am_by 200) (am_mx 200) (am_rt 200)) := rfl
set_option maxRecDepth 100000 in
theorem am_cw_201 : lw_tbl[am_wC 201]? = some (.code (am_y 201) (am_by 201) (am_mx 201) (am_rt 201)) := rfl
set_option maxRecDepth 100000 in
theorem am_cw_202 : lw_tbl[am_wC 202]? = some (.code (am_y 202) (am_by 202) (am_mx 202) (am_rt 202)) := rfl
set_option maxRecDepth 100000 in
theorem am_cw_203 : lw_tbl[am_wC 203]? = some (.code (am_y 203) (am_by 203) (am_mx 203) (am_rt 203)) := rfl
set_option maxRecDepth 100000 in
theorem am_cw_204 : lw_tbl[am_wC 204]? = some (.code (am_y 204) (am_by 204) (am_mx 204) (am_rt 204)) := rfl
set_option maxRecDepth 100000 in
theorem am_cw_205 : lw_tbl[am_wC 205]? = some (.code (am_y 205) (am_by 205) (am_mx 205) (am_rt 205)) := rfl
set_option maxRecDepth 100000 in
theorem am_cw_206 : lw_tbl[am_wC 206]? = some (.code (am_y 206) (am_by 206) (am_mx 206) (am_rt 206)) := rfl
set_option maxRecDepth 100000 in
theorem am_cw_207 : lw_tbl[am_wC 207]? = some (.code (am_y 207) (am_by 207) (am_mx 207) (am_rt 207)) := rfl
set_option maxRecDepth 100000 in
theorem am_cw_208 : lw_tbl[am_wC 208]? = some (.code (am_y 208) (am_by 208) (am_mx 208) (am_rt 208)) := rfl
set_option maxRecDepth 100000 in
theorem am_cw_209 : lw_tbl[am_wC 209]? = some (.code (am_y 209) (am_by 209) (am_mx 209) (am_rt 209)) := rfl
set_option maxRecDepth 100000 in
theorem am_cw_210 : lw_tbl[am_wC 210]? = some (.code (am_y 210) (am_by 210) (am_mx 210) (am_rt 210)) := rfl
set_option maxRecDepth 100000 in
theorem am_cw_211 : lw_tbl[am_wC 211]? = some (.code (am_y 211) (am_by 211) (am_mx 211) (am_rt 211)) := rfl
set_option maxRecDepth 100000 in
theorem am_cw_212 : lw_tbl[am_wC 212]? = some (.code (am_y 212) (am_by 212) (am_mx 212) (am_rt 212)) := rfl
set_option maxRecDepth 100000 in
theorem am_cw_213 : lw_tbl[am_wC 213]? = some (.code (am_y 213) (am_by 213) (am_mx 213) (am_rt 213)) := rfl
set_option maxRecDepth 100000 in
theorem am_cw_214 : lw_tbl[am_wC 214]? = some (.code (am_y 214) (am_by 214) (am_mx 214) (am_rt 214)) := rfl
set_option maxRecDepth 100000 in
theorem am_cw_215 : lw_tbl[am_wC 215]? = some (.code (am_y 215) (am_by 215) (am_mx 215) (am_rt 215)) := rfl
set_option maxRecDepth 100000 in
theorem am_cw_216 : lw_tbl[am_wC 216]? = some (.code (am_y 216) (am_by 216) (am_mx 216) (am_rt 216)) := rfl
set_option maxRecDepth 100000 in
theorem am_cw_217 : lw_tbl[am_wC 217]? = some (.code (am_y 217) (am_by 217) (am_mx 217) (am_rt 217)) := rfl
set_option maxRecDepth 100000 in
theorem am_cw_218 : lw_tbl[am_wC 218]? = some (.code (am_y 218) (am_by 218) (am_mx 218) (am_rt 218)) := rfl
theorem am_mk_all : ∀ a, a < am_nm → am_mkB a = true := by
  intro a h
  have h : a < 219 := h
  by_cases h0 : a < 20
  · exact List.all_eq_true.mp am_mk_0 a (List.mem_range'_1.mpr (by omega))
  by_cases h20 : a < 40
  · exact List.all_eq_true.mp am_mk_20 a (List.mem_range'_1.mpr (by omega))
  by_cases h40 : a < 60
  · exact List.all_eq_true.mp am_mk_40 a (List.mem_range'_1.mpr (by omega))
  by_cases h60 : a < 80
  · exact List.all_eq_true.mp am_mk_60 a (List.mem_range'_1.mpr (by omega))
  by_cases h80 : a < 100
  · exact List.all_eq_true.mp am_mk_80 a (List.mem_range'_1.mpr (by omega))
  by_cases h100 : a < 120
  · exact List.all_eq_true.mp am_mk_100 a (List.mem_range'_1.mpr (by omega))
  by_cases h120 : a < 140
  · exact List.all_eq_true.mp am_mk_120 a (List.mem_range'_1.mpr (by omega))
  by_cases h140 : a < 160
  · exact List.all_eq_true.mp am_mk_140 a (List.mem_range'_1.mpr (by omega))
  by_cases h160 : a < 180
  · exact List.all_eq_true.mp am_mk_160 a (List.mem_range'_1.mpr (by omega))
  by_cases h180 : a < 200
  · exact List.all_eq_true.mp am_mk_180 a (List.mem_range'_1.mpr (by omega))
  by_cases h200 : a < 219
  · exact List.all_eq_true.mp am_mk_200 a (List.mem_range'_1.mpr (by omega))
  omega
theorem am_cw_all : ∀ a, 0 < a → a < am_nm → lw_tbl[am_wC a]? = some (.code (am_y a) (am_by a) (am_mx a) (am_rt a)) := by
  intro a h0 h
  have h : a < 219 := h
  by_cases q1_219 : a < 110
  · skip
    by_cases q1_110 : a < 55
    · skip
      by_cases q1_55 : a < 28
      · skip
        by_cases q1_28 : a < 14
        · skip
          by_cases q1_14 : a < 7
          · skip
            by_cases q1_7 : a < 4
            · skip
              by_cases q1_4 : a < 2
              · skip
                have e : a = 1 := by omega
                subst e; exact am_cw_1
              · skip
                by_cases q2_4 : a < 3
                · skip
                  have e : a = 2 := by omega
                  subst e; exact am_cw_2
                · skip
                  have e : a = 3 := by omega
                  subst e; exact am_cw_3
            · skip
              by_cases q4_7 : a < 5
              · skip
                have e : a = 4 := by omega
                subst e; exact am_cw_4
              · skip
                by_cases q5_7 : a < 6
                · skip
                  have e : a = 5 := by omega
                  subst e; exact am_cw_5
                · skip
                  have e : a = 6 := by omega
                  subst e; exact am_cw_6
          · skip
            by_cases q7_14 : a < 10
            · skip
              by_cases q7_10 : a < 8
              · skip
                have e : a = 7 := by omega
                subst e; exact am_cw_7
              · skip
                by_cases q8_10 : a < 9
                · skip
                  have e : a = 8 := by omega
                  subst e; exact am_cw_8
                · skip
                  have e : a = 9 := by omega
                  subst e; exact am_cw_9
            · skip
              by_cases q10_14 : a < 12
              · skip
                by_cases q10_12 : a < 11
                · skip
                  have e : a = 10 := by omega
                  subst e; exact am_cw_10
                · skip
                  have e : a = 11 := by omega
                  subst e; exact am_cw_11
              · skip
                by_cases q12_14 : a < 13
                · skip
                  have e : a = 12 := by omega
                  subst e; exact am_cw_12
                · skip
                  have e : a = 13 := by omega
                  subst e; exact am_cw_13
        · skip
          by_cases q14_28 : a < 21
          · skip
            by_cases q14_21 : a < 17
            · skip
              by_cases q14_17 : a < 15
              · skip
                have e : a = 14 := by omega
                subst e; exact am_cw_14
              · skip
                by_cases q15_17 : a < 16
                · skip
                  have e : a = 15 := by omega
                  subst e; exact am_cw_15
                · skip
                  have e : a = 16 := by omega
                  subst e; exact am_cw_16
            · skip
              by_cases q17_21 : a < 19
              · skip
                by_cases q17_19 : a < 18
                · skip
                  have e : a = 17 := by omega
                  subst e; exact am_cw_17
                · skip
                  have e : a = 18 := by omega
                  subst e; exact am_cw_18
              · skip
                by_cases q19_21 : a < 20
                · skip
                  have e : a = 19 := by omega
                  subst e; exact am_cw_19
                · skip
                  have e : a = 20 := by omega
                  subst e; exact am_cw_20
          · skip
            by_cases q21_28 : a < 24
            · skip
              by_cases q21_24 : a < 22
              · skip
                have e : a = 21 := by omega
                subst e; exact am_cw_21
              · skip
                by_cases q22_24 : a < 23
                · skip
                  have e : a = 22 := by omega
                  subst e; exact am_cw_22
                · skip
                  have e : a = 23 := by omega
                  subst e; exact am_cw_23
            · skip
              by_cases q24_28 : a < 26
              · skip
                by_cases q24_26 : a < 25
                · skip
                  have e : a = 24 := by omega
                  subst e; exact am_cw_24
                · skip
                  have e : a = 25 := by omega
                  subst e; exact am_cw_25
              · skip
                by_cases q26_28 : a < 27
                · skip
                  have e : a = 26 := by omega
                  subst e; exact am_cw_26
                · skip
                  have e : a = 27 := by omega
                  subst e; exact am_cw_27
      · skip
        by_cases q28_55 : a < 41
        · skip
          by_cases q28_41 : a < 34
          · skip
            by_cases q28_34 : a < 31
            · skip
              by_cases q28_31 : a < 29
              · skip
                have e : a = 28 := by omega
                subst e; exact am_cw_28
              · skip
                by_cases q29_31 : a < 30
                · skip
                  have e : a = 29 := by omega
                  subst e; exact am_cw_29
                · skip
                  have e : a = 30 := by omega
                  subst e; exact am_cw_30
            · skip
              by_cases q31_34 : a < 32
              · skip
                have e : a = 31 := by omega
                subst e; exact am_cw_31
              · skip
                by_cases q32_34 : a < 33
                · skip
                  have e : a = 32 := by omega
                  subst e; exact am_cw_32
                · skip
                  have e : a = 33 := by omega
                  subst e; exact am_cw_33
          · skip
            by_cases q34_41 : a < 37
            · skip
              by_cases q34_37 : a < 35
              · skip
                have e : a = 34 := by omega
                subst e; exact am_cw_34
              · skip
                by_cases q35_37 : a < 36
                · skip
                  have e : a = 35 := by omega
                  subst e; exact am_cw_35
                · skip
                  have e : a = 36 := by omega
                  subst e; exact am_cw_36
            · skip
              by_cases q37_41 : a < 39
              · skip
                by_cases q37_39 : a < 38
                · skip
                  have e : a = 37 := by omega
                  subst e; exact am_cw_37
                · skip
                  have e : a = 38 := by omega
                  subst e; exact am_cw_38
              · skip
                by_cases q39_41 : a < 40
                · skip
                  have e : a = 39 := by omega
                  subst e; exact am_cw_39
                · skip
                  have e : a = 40 := by omega
                  subst e; exact am_cw_40
        · skip
          by_cases q41_55 : a < 48
          · skip
            by_cases q41_48 : a < 44
            · skip
              by_cases q41_44 : a < 42
              · skip
                have e : a = 41 := by omega
                subst e; exact am_cw_41
              · skip
                by_cases q42_44 : a < 43
                · skip
                  have e : a = 42 := by omega
                  subst e; exact am_cw_42
                · skip
                  have e : a = 43 := by omega
                  subst e; exact am_cw_43
            · skip
              by_cases q44_48 : a < 46
              · skip
                by_cases q44_46 : a < 45
                · skip
                  have e : a = 44 := by omega
                  subst e; exact am_cw_44
                · skip
                  have e : a = 45 := by omega
                  subst e; exact am_cw_45
              · skip
                by_cases q46_48 : a < 47
                · skip
                  have e : a = 46 := by omega
                  subst e; exact am_cw_46
                · skip
                  have e : a = 47 := by omega
                  subst e; exact am_cw_47
          · skip
            by_cases q48_55 : a < 51
            · skip
              by_cases q48_51 : a < 49
              · skip
                have e : a = 48 := by omega
                subst e; exact am_cw_48
              · skip
                by_cases q49_51 : a < 50
                · skip
                  have e : a = 49 := by omega
                  subst e; exact am_cw_49
                · skip
                  have e : a = 50 := by omega
                  subst e; exact am_cw_50
            · skip
              by_cases q51_55 : a < 53
              · skip
                by_cases q51_53 : a < 52
                · skip
                  have e : a = 51 := by omega
                  subst e; exact am_cw_51
                · skip
                  have e : a = 52 := by omega
                  subst e; exact am_cw_52
              · skip
                by_cases q53_55 : a < 54
                · skip
                  have e : a = 53 := by omega
                  subst e; exact am_cw_53
                · skip
                  have e : a = 54 := by omega
                  subst e; exact am_cw_54
    · skip
      by_cases q55_110 : a < 82
      · skip
        by_cases q55_82 : a < 68
        · skip
          by_cases q55_68 : a < 61
          · skip
            by_cases q55_61 : a < 58
            · skip
              by_cases q55_58 : a < 56
              · skip
                have e : a = 55 := by omega
                subst e; exact am_cw_55
              · skip
                by_cases q56_58 : a < 57
                · skip
                  have e : a = 56 := by omega
                  subst e; exact am_cw_56
                · skip
                  have e : a = 57 := by omega
                  subst e; exact am_cw_57
            · skip
              by_cases q58_61 : a < 59
              · skip
                have e : a = 58 := by omega
                subst e; exact am_cw_58
              · skip
                by_cases q59_61 : a < 60
                · skip
                  have e : a = 59 := by omega
                  subst e; exact am_cw_59
                · skip
                  have e : a = 60 := by omega
                  subst e; exact am_cw_60
          · skip
            by_cases q61_68 : a < 64
            · skip
              by_cases q61_64 : a < 62
              · skip
                have e : a = 61 := by omega
                subst e; exact am_cw_61
              · skip
                by_cases q62_64 : a < 63
                · skip
                  have e : a = 62 := by omega
                  subst e; exact am_cw_62
                · skip
                  have e : a = 63 := by omega
                  subst e; exact am_cw_63
            · skip
              by_cases q64_68 : a < 66
              · skip
                by_cases q64_66 : a < 65
                · skip
                  have e : a = 64 := by omega
                  subst e; exact am_cw_64
                · skip
                  have e : a = 65 := by omega
                  subst e; exact am_cw_65
              · skip
                by_cases q66_68 : a < 67
                · skip
                  have e : a = 66 := by omega
                  subst e; exact am_cw_66
                · skip
                  have e : a = 67 := by omega
                  subst e; exact am_cw_67
        · skip
          by_cases q68_82 : a < 75
          · skip
            by_cases q68_75 : a < 71
            · skip
              by_cases q68_71 : a < 69
              · skip
                have e : a = 68 := by omega
                subst e; exact am_cw_68
              · skip
                by_cases q69_71 : a < 70
                · skip
                  have e : a = 69 := by omega
                  subst e; exact am_cw_69
                · skip
                  have e : a = 70 := by omega
                  subst e; exact am_cw_70
            · skip
              by_cases q71_75 : a < 73
              · skip
                by_cases q71_73 : a < 72
                · skip
                  have e : a = 71 := by omega
                  subst e; exact am_cw_71
                · skip
                  have e : a = 72 := by omega
                  subst e; exact am_cw_72
              · skip
                by_cases q73_75 : a < 74
                · skip
                  have e : a = 73 := by omega
                  subst e; exact am_cw_73
                · skip
                  have e : a = 74 := by omega
                  subst e; exact am_cw_74
          · skip
            by_cases q75_82 : a < 78
            · skip
              by_cases q75_78 : a < 76
              · skip
                have e : a = 75 := by omega
                subst e; exact am_cw_75
              · skip
                by_cases q76_78 : a < 77
                · skip
                  have e : a = 76 := by omega
                  subst e; exact am_cw_76
                · skip
                  have e : a = 77 := by omega
                  subst e; exact am_cw_77
            · skip
              by_cases q78_82 : a < 80
              · skip
                by_cases q78_80 : a < 79
                · skip
                  have e : a = 78 := by omega
                  subst e; exact am_cw_78
                · skip
                  have e : a = 79 := by omega
                  subst e; exact am_cw_79
              · skip
                by_cases q80_82 : a < 81
                · skip
                  have e : a = 80 := by omega
                  subst e; exact am_cw_80
                · skip
                  have e : a = 81 := by omega
                  subst e; exact am_cw_81
      · skip
        by_cases q82_110 : a < 96
        · skip
          by_cases q82_96 : a < 89
          · skip
            by_cases q82_89 : a < 85
            · skip
              by_cases q82_85 : a < 83
              · skip
                have e : a = 82 := by omega
                subst e; exact am_cw_82
              · skip
                by_cases q83_85 : a < 84
                · skip
                  have e : a = 83 := by omega
                  subst e; exact am_cw_83
                · skip
                  have e : a = 84 := by omega
                  subst e; exact am_cw_84
            · skip
              by_cases q85_89 : a < 87
              · skip
                by_cases q85_87 : a < 86
                · skip
                  have e : a = 85 := by omega
                  subst e; exact am_cw_85
                · skip
                  have e : a = 86 := by omega
                  subst e; exact am_cw_86
              · skip
                by_cases q87_89 : a < 88
                · skip
                  have e : a = 87 := by omega
                  subst e; exact am_cw_87
                · skip
                  have e : a = 88 := by omega
                  subst e; exact am_cw_88
          · skip
            by_cases q89_96 : a < 92
            · skip
              by_cases q89_92 : a < 90
              · skip
                have e : a = 89 := by omega
                subst e; exact am_cw_89
              · skip
                by_cases q90_92 : a < 91
                · skip
                  have e : a = 90 := by omega
                  subst e; exact am_cw_90
                · skip
                  have e : a = 91 := by omega
                  subst e; exact am_cw_91
            · skip
              by_cases q92_96 : a < 94
              · skip
                by_cases q92_94 : a < 93
                · skip
                  have e : a = 92 := by omega
                  subst e; exact am_cw_92
                · skip
                  have e : a = 93 := by omega
                  subst e; exact am_cw_93
              · skip
                by_cases q94_96 : a < 95
                · skip
                  have e : a = 94 := by omega
                  subst e; exact am_cw_94
                · skip
                  have e : a = 95 := by omega
                  subst e; exact am_cw_95
        · skip
          by_cases q96_110 : a < 103
          · skip
            by_cases q96_103 : a < 99
            · skip
              by_cases q96_99 : a < 97
              · skip
                have e : a = 96 := by omega
                subst e; exact am_cw_96
              · skip
                by_cases q97_99 : a < 98
                · skip
                  have e : a = 97 := by omega
                  subst e; exact am_cw_97
                · skip
                  have e : a = 98 := by omega
                  subst e; exact am_cw_98
            · skip
              by_cases q99_103 : a < 101
              · skip
                by_cases q99_101 : a < 100
                · skip
                  have e : a = 99 := by omega
                  subst e; exact am_cw_99
                · skip
                  have e : a = 100 := by omega
                  subst e; exact am_cw_100
              · skip
                by_cases q101_103 : a < 102
                · skip
                  have e : a = 101 := by omega
                  subst e; exact am_cw_101
                · skip
                  have e : a = 102 := by omega
                  subst e; exact am_cw_102
          · skip
            by_cases q103_110 : a < 106
            · skip
              by_cases q103_106 : a < 104
              · skip
                have e : a = 103 := by omega
                subst e; exact am_cw_103
              · skip
                by_cases q104_106 : a < 105
                · skip
                  have e : a = 104 := by omega
                  subst e; exact am_cw_104
                · skip
                  have e : a = 105 := by omega
                  subst e; exact am_cw_105
            · skip
              by_cases q106_110 : a < 108
              · skip
                by_cases q106_108 : a < 107
                · skip
                  have e : a = 106 := by omega
                  subst e; exact am_cw_106
                · skip
                  have e : a = 107 := by omega
                  subst e; exact am_cw_107
              · skip
                by_cases q108_110 : a < 109
                · skip
                  have e : a = 108 := by omega
                  subst e; exact am_cw_108
                · skip
                  have e : a = 109 := by omega
                  subst e; exact am_cw_109
  · skip
    by_cases q110_219 : a < 164
    · skip
      by_cases q110_164 : a < 137
      · skip
        by_cases q110_137 : a < 123
        · skip
          by_cases q110_123 : a < 116
          · skip
            by_cases q110_116 : a < 113
            · skip
              by_cases q110_113 : a < 111
              · skip
                have e : a = 110 := by omega
                subst e; exact am_cw_110
              · skip
                by_cases q111_113 : a < 112
                · skip
                  have e : a = 111 := by omega
                  subst e; exact am_cw_111
                · skip
                  have e : a = 112 := by omega
                  subst e; exact am_cw_112
            · skip
              by_cases q113_116 : a < 114
              · skip
                have e : a = 113 := by omega
                subst e; exact am_cw_113
              · skip
                by_cases q114_116 : a < 115
                · skip
                  have e : a = 114 := by omega
                  subst e; exact am_cw_114
                · skip
                  have e : a = 115 := by omega
                  subst e; exact am_cw_115
          · skip
            by_cases q116_123 : a < 119
            · skip
              by_cases q116_119 : a < 117
              · skip
                have e : a = 116 := by omega
                subst e; exact am_cw_116
              · skip
                by_cases q117_119 : a < 118
                · skip
                  have e : a = 117 := by omega
                  subst e; exact am_cw_117
                · skip
                  have e : a = 118 := by omega
                  subst e; exact am_cw_118
            · skip
              by_cases q119_123 : a < 121
              · skip
                by_cases q119_121 : a < 120
                · skip
                  have e : a = 119 := by omega
                  subst e; exact am_cw_119
                · skip
                  have e : a = 120 := by omega
                  subst e; exact am_cw_120
              · skip
                by_cases q121_123 : a < 122
                · skip
                  have e : a = 121 := by omega
                  subst e; exact am_cw_121
                · skip
                  have e : a = 122 := by omega
                  subst e; exact am_cw_122
        · skip
          by_cases q123_137 : a < 130
          · skip
            by_cases q123_130 : a < 126
            · skip
              by_cases q123_126 : a < 124
              · skip
                have e : a = 123 := by omega
                subst e; exact am_cw_123
              · skip
                by_cases q124_126 : a < 125
                · skip
                  have e : a = 124 := by omega
                  subst e; exact am_cw_124
                · skip
                  have e : a = 125 := by omega
                  subst e; exact am_cw_125
            · skip
              by_cases q126_130 : a < 128
              · skip
                by_cases q126_128 : a < 127
                · skip
                  have e : a = 126 := by omega
                  subst e; exact am_cw_126
                · skip
                  have e : a = 127 := by omega
                  subst e; exact am_cw_127
              · skip
                by_cases q128_130 : a < 129
                · skip
                  have e : a = 128 := by omega
                  subst e; exact am_cw_128
                · skip
                  have e : a = 129 := by omega
                  subst e; exact am_cw_129
          · skip
            by_cases q130_137 : a < 133
            · skip
              by_cases q130_133 : a < 131
              · skip
                have e : a = 130 := by omega
                subst e; exact am_cw_130
              · skip
                by_cases q131_133 : a < 132
                · skip
                  have e : a = 131 := by omega
                  subst e; exact am_cw_131
                · skip
                  have e : a = 132 := by omega
                  subst e; exact am_cw_132
            · skip
              by_cases q133_137 : a < 135
              · skip
                by_cases q133_135 : a < 134
                · skip
                  have e : a = 133 := by omega
                  subst e; exact am_cw_133
                · skip
                  have e : a = 134 := by omega
                  subst e; exact am_cw_134
              · skip
                by_cases q135_137 : a < 136
                · skip
                  have e : a = 135 := by omega
                  subst e; exact am_cw_135
                · skip
                  have e : a = 136 := by omega
                  subst e; exact am_cw_136
      · skip
        by_cases q137_164 : a < 150
        · skip
          by_cases q137_150 : a < 143
          · skip
            by_cases q137_143 : a < 140
            · skip
              by_cases q137_140 : a < 138
              · skip
                have e : a = 137 := by omega
                subst e; exact am_cw_137
              · skip
                by_cases q138_140 : a < 139
                · skip
                  have e : a = 138 := by omega
                  subst e; exact am_cw_138
                · skip
                  have e : a = 139 := by omega
                  subst e; exact am_cw_139
            · skip
              by_cases q140_143 : a < 141
              · skip
                have e : a = 140 := by omega
                subst e; exact am_cw_140
              · skip
                by_cases q141_143 : a < 142
                · skip
                  have e : a = 141 := by omega
                  subst e; exact am_cw_141
                · skip
                  have e : a = 142 := by omega
                  subst e; exact am_cw_142
          · skip
            by_cases q143_150 : a < 146
            · skip
              by_cases q143_146 : a < 144
              · skip
                have e : a = 143 := by omega
                subst e; exact am_cw_143
              · skip
                by_cases q144_146 : a < 145
                · skip
                  have e : a = 144 := by omega
                  subst e; exact am_cw_144
                · skip
                  have e : a = 145 := by omega
                  subst e; exact am_cw_145
            · skip
              by_cases q146_150 : a < 148
              · skip
                by_cases q146_148 : a < 147
                · skip
                  have e : a = 146 := by omega
                  subst e; exact am_cw_146
                · skip
                  have e : a = 147 := by omega
                  subst e; exact am_cw_147
              · skip
                by_cases q148_150 : a < 149
                · skip
                  have e : a = 148 := by omega
                  subst e; exact am_cw_148
                · skip
                  have e : a = 149 := by omega
                  subst e; exact am_cw_149
        · skip
          by_cases q150_164 : a < 157
          · skip
            by_cases q150_157 : a < 153
            · skip
              by_cases q150_153 : a < 151
              · skip
                have e : a = 150 := by omega
                subst e; exact am_cw_150
              · skip
                by_cases q151_153 : a < 152
                · skip
                  have e : a = 151 := by omega
                  subst e; exact am_cw_151
                · skip
                  have e : a = 152 := by omega
                  subst e; exact am_cw_152
            · skip
              by_cases q153_157 : a < 155
              · skip
                by_cases q153_155 : a < 154
                · skip
                  have e : a = 153 := by omega
                  subst e; exact am_cw_153
                · skip
                  have e : a = 154 := by omega
                  subst e; exact am_cw_154
              · skip
                by_cases q155_157 : a < 156
                · skip
                  have e : a = 155 := by omega
                  subst e; exact am_cw_155
                · skip
                  have e : a = 156 := by omega
                  subst e; exact am_cw_156
          · skip
            by_cases q157_164 : a < 160
            · skip
              by_cases q157_160 : a < 158
              · skip
                have e : a = 157 := by omega
                subst e; exact am_cw_157
              · skip
                by_cases q158_160 : a < 159
                · skip
                  have e : a = 158 := by omega
                  subst e; exact am_cw_158
                · skip
                  have e : a = 159 := by omega
                  subst e; exact am_cw_159
            · skip
              by_cases q160_164 : a < 162
              · skip
                by_cases q160_162 : a < 161
                · skip
                  have e : a = 160 := by omega
                  subst e; exact am_cw_160
                · skip
                  have e : a = 161 := by omega
                  subst e; exact am_cw_161
              · skip
                by_cases q162_164 : a < 163
                · skip
                  have e : a = 162 := by omega
                  subst e; exact am_cw_162
                · skip
                  have e : a = 163 := by omega
                  subst e; exact am_cw_163
    · skip
      by_cases q164_219 : a < 191
      · skip
        by_cases q164_191 : a < 177
        · skip
          by_cases q164_177 : a < 170
          · skip
            by_cases q164_170 : a < 167
            · skip
              by_cases q164_167 : a < 165
              · skip
                have e : a = 164 := by omega
                subst e; exact am_cw_164
              · skip
                by_cases q165_167 : a < 166
                · skip
                  have e : a = 165 := by omega
                  subst e; exact am_cw_165
                · skip
                  have e : a = 166 := by omega
                  subst e; exact am_cw_166
            · skip
              by_cases q167_170 : a < 168
              · skip
                have e : a = 167 := by omega
                subst e; exact am_cw_167
              · skip
                by_cases q168_170 : a < 169
                · skip
                  have e : a = 168 := by omega
                  subst e; exact am_cw_168
                · skip
                  have e : a = 169 := by omega
                  subst e; exact am_cw_169
          · skip
            by_cases q170_177 : a < 173
            · skip
              by_cases q170_173 : a < 171
              · skip
                have e : a = 170 := by omega
                subst e; exact am_cw_170
              · skip
                by_cases q171_173 : a < 172
                · skip
                  have e : a = 171 := by omega
                  subst e; exact am_cw_171
                · skip
                  have e : a = 172 := by omega
                  subst e; exact am_cw_172
            · skip
              by_cases q173_177 : a < 175
              · skip
                by_cases q173_175 : a < 174
                · skip
                  have e : a = 173 := by omega
                  subst e; exact am_cw_173
                · skip
                  have e : a = 174 := by omega
                  subst e; exact am_cw_174
              · skip
                by_cases q175_177 : a < 176
                · skip
                  have e : a = 175 := by omega
                  subst e; exact am_cw_175
                · skip
                  have e : a = 176 := by omega
                  subst e; exact am_cw_176
        · skip
          by_cases q177_191 : a < 184
          · skip
            by_cases q177_184 : a < 180
            · skip
              by_cases q177_180 : a < 178
              · skip
                have e : a = 177 := by omega
                subst e; exact am_cw_177
              · skip
                by_cases q178_180 : a < 179
                · skip
                  have e : a = 178 := by omega
                  subst e; exact am_cw_178
                · skip
                  have e : a = 179 := by omega
                  subst e; exact am_cw_179
            · skip
              by_cases q180_184 : a < 182
              · skip
                by_cases q180_182 : a < 181
                · skip
                  have e : a = 180 := by omega
                  subst e; exact am_cw_180
                · skip
                  have e : a = 181 := by omega
                  subst e; exact am_cw_181
              · skip
                by_cases q182_184 : a < 183
                · skip
                  have e : a = 182 := by omega
                  subst e; exact am_cw_182
                · skip
                  have e : a = 183 := by omega
                  subst e; exact am_cw_183
          · skip
            by_cases q184_191 : a < 187
            · skip
              by_cases q184_187 : a < 185
              · skip
                have e : a = 184 := by omega
                subst e; exact am_cw_184
              · skip
                by_cases q185_187 : a < 186
                · skip
                  have e : a = 185 := by omega
                  subst e; exact am_cw_185
                · skip
                  have e : a = 186 := by omega
                  subst e; exact am_cw_186
            · skip
              by_cases q187_191 : a < 189
              · skip
                by_cases q187_189 : a < 188
                · skip
                  have e : a = 187 := by omega
                  subst e; exact am_cw_187
                · skip
                  have e : a = 188 := by omega
                  subst e; exact am_cw_188
              · skip
                by_cases q189_191 : a < 190
                · skip
                  have e : a = 189 := by omega
                  subst e; exact am_cw_189
                · skip
                  have e : a = 190 := by omega
                  subst e; exact am_cw_190
      · skip
        by_cases q191_219 : a < 205
        · skip
          by_cases q191_205 : a < 198
          · skip
            by_cases q191_198 : a < 194
            · skip
              by_cases q191_194 : a < 192
              · skip
                have e : a = 191 := by omega
                subst e; exact am_cw_191
              · skip
                by_cases q192_194 : a < 193
                · skip
                  have e : a = 192 := by omega
                  subst e; exact am_cw_192
                · skip
                  have e : a = 193 := by omega
                  subst e; exact am_cw_193
            · skip
              by_cases q194_198 : a < 196
              · skip
                by_cases q194_196 : a < 195
                · skip
                  have e : a = 194 := by omega
                  subst e; exact am_cw_194
                · skip
                  have e : a = 195 := by omega
                  subst e; exact am_cw_195
              · skip
                by_cases q196_198 : a < 197
                · skip
                  have e : a = 196 := by omega
                  subst e; exact am_cw_196
                · skip
                  have e : a = 197 := by omega
                  subst e; exact am_cw_197
          · skip
            by_cases q198_205 : a < 201
            · skip
              by_cases q198_201 : a < 199
              · skip
                have e : a = 198 := by omega
                subst e; exact am_cw_198
              · skip
                by_cases q199_201 : a < 200
                · skip
                  have e : a = 199 := by omega
                  subst e; exact am_cw_199
                · skip
                  have e : a = 200 := by omega
                  subst e; exact am_cw_200
            · skip
              by_cases q201_205 : a < 203
              · skip
                by_cases q201_203 : a < 202
                · skip
                  have e : a = 201 := by omega
                  subst e; exact am_cw_201
                · skip
                  have e : a = 202 := by omega
                  subst e; exact am_cw_202
              · skip
                by_cases q203_205 : a < 204
                · skip
                  have e : a = 203 := by omega
                  subst e; exact am_cw_203
                · skip
                  have e : a = 204 := by omega
                  subst e; exact am_cw_204
        · skip
          by_cases q205_219 : a < 212
          · skip
            by_cases q205_212 : a < 208
            · skip
              by_cases q205_208 : a < 206
              · skip
                have e : a = 205 := by omega
                subst e; exact am_cw_205
              · skip
                by_cases q206_208 : a < 207
                · skip
                  have e : a = 206 := by omega
                  subst e; exact am_cw_206
                · skip
                  have e : a = 207 := by omega
                  subst e; exact am_cw_207
            · skip
              by_cases q208_212 : a < 210
              · skip
                by_cases q208_210 : a < 209
                · skip
                  have e : a = 208 := by omega
                  subst e; exact am_cw_208
                · skip
                  have e : a = 209 := by omega
                  subst e; exact am_cw_209
              · skip
                by_cases q210_212 : a < 211
                · skip
                  have e : a = 210 := by omega
                  subst e; exact am_cw_210
                · skip
                  have e : a = 211 := by omega
                  subst e; exact am_cw_211
          · skip
            by_cases q212_219 : a < 215
            · skip
              by_cases q212_215 : a < 213
              · skip
                have e : a = 212 := by omega
                subst e; exact am_cw_212
              · skip
                by_cases q213_215 : a < 214
                · skip
                  have e : a = 213 := by omega
                  subst e; exact am_cw_213
                · skip
                  have e : a = 214 := by omega
                  subst e; exact am_cw_214
            · skip
              by_cases q215_219 : a < 217
              · skip
                by_cases q215_217 : a < 216
                · skip
                  have e : a = 215 := by omega
                  subst e; exact am_cw_215
                · skip
                  have e : a = 216 := by omega
                  subst e; exact am_cw_216
              · skip
                by_cases q217_219 : a < 218
                · skip
                  have e : a = 217 := by omega
                  subst e; exact am_cw_217
                · skip
                  have e : a = 218 := by omega
                  subst e; exact am_cw_218
