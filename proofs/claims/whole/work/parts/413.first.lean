def cpS0 : cpS := (fun k => if k = 1 ∨ k = 15 ∨ k = 29 ∨ k = 43 then (fun j => if j = 0 then 1 else 0) else if k = 12 ∨ k = 26 ∨ k = 40 ∨ k = 54 then (fun j => if j = 5 then 5 else if j = 4 then 4 else if j = 3 then 4 else if j = 1 then 5 else 0) else if k = 13 ∨ k = 27 ∨ k = 41 ∨ k = 55 then cpCode0 else if k = 139 ∨ k = 141 ∨ k = 143 ∨ k = 145 then (fun j => if j = 2 then (-1) else 0) else if k = 115 then (fun j => if j = 4 then (-1) else 0) else if k = 150 then (fun j => if j = 14 then (-1) else 0) else if k = 151 then cpAll0 else if k = 171 then cpMin4 else (fun _ => 0), fun _ _ => 0)
def cpAd (u v : Nat → Nat) : Nat → Nat := fun k => if k < 150 then u k else v (k - 150)
abbrev cpWa (w : cpW) (ad : Nat → Nat) : cpW := (w.1, ad, w.2.2)
def cpPosL : List Nat := [0, 1, 2, 3, 4, 5, 6, 7, 8, 9, 10, 11, 12, 13, 14, 67, 68, 69, 70, 71, 72, 73, 74, 75, 76, 77, 78, 79, 80, 114, 115, 116, 117, 118, 119, 120, 121, 122, 123, 124, 125, 126, 127, 132, 133, 134, 135, 136, 137, 138, 139, 140, 141, 142, 143, 144, 145, 15, 16, 17, 18, 19, 20, 21, 22, 25, 26, 27, 28, 29, 30, 31, 32, 33, 34, 35, 36, 37, 38, 39, 40, 41, 42, 43, 44, 45, 46, 47, 48, 49, 50, 51, 52, 53, 54, 55, 56, 57, 58, 59, 60, 61, 62, 63, 64, 128, 129, 130, 131, 146, 147, 148, 149, 23, 24, 65, 66, 98, 81, 97, 82, 83, 84, 85, 86, 87, 88, 89, 90, 91, 92, 93, 94, 95, 96, 99, 100, 101, 102, 106, 107, 108, 109, 110, 111, 112, 113, 103, 104, 105, 150, 173, 151, 152, 153, 154, 155, 156, 157, 158, 159, 160, 161, 162, 163, 164, 165, 166, 167, 168, 169, 170, 171, 172]
def cpPos (k : Nat) : Nat := cpPosL.getD k 0
theorem nat_0 (w : cpW) (u v : Nat → Nat) : (bX11n w u)[0]? = some (cpAd u v 0, cpCell (cpWa w (cpAd u v)) cpS0 0) := rfl
theorem nat_1 (w : cpW) (u v : Nat → Nat) : (bX11n w u)[1]? = some (cpAd u v 1, cpCell (cpWa w (cpAd u v)) cpS0 1) := rfl
theorem nat_2 (w : cpW) (u v : Nat → Nat) : (bX11n w u)[2]? = some (cpAd u v 2, cpCell (cpWa w (cpAd u v)) cpS0 2) := rfl
theorem nat_3 (w : cpW) (u v : Nat → Nat) : (bX11n w u)[3]? = some (cpAd u v 3, cpCell (cpWa w (cpAd u v)) cpS0 3) := rfl
theorem nat_4 (w : cpW) (u v : Nat → Nat) : (bX11n w u)[4]? = some (cpAd u v 4, cpCell (cpWa w (cpAd u v)) cpS0 4) := rfl
theorem nat_5 (w : cpW) (u v : Nat → Nat) : (bX11n w u)[5]? = some (cpAd u v 5, cpCell (cpWa w (cpAd u v)) cpS0 5) := rfl
theorem nat_6 (w : cpW) (u v : Nat → Nat) : (bX11n w u)[6]? = some (cpAd u v 6, cpCell (cpWa w (cpAd u v)) cpS0 6) := rfl
theorem nat_7 (w : cpW) (u v : Nat → Nat) : (bX11n w u)[7]? = some (cpAd u v 7, cpCell (cpWa w (cpAd u v)) cpS0 7) := rfl
theorem nat_8 (w : cpW) (u v : Nat → Nat) : (bX11n w u)[8]? = some (cpAd u v 8, cpCell (cpWa w (cpAd u v)) cpS0 8) := rfl
theorem nat_9 (w : cpW) (u v : Nat → Nat) : (bX11n w u)[9]? = some (cpAd u v 9, cpCell (cpWa w (cpAd u v)) cpS0 9) := rfl
theorem nat_10 (w : cpW) (u v : Nat → Nat) : (bX11n w u)[10]? = some (cpAd u v 10, cpCell (cpWa w (cpAd u v)) cpS0 10) := rfl
theorem nat_11 (w : cpW) (u v : Nat → Nat) : (bX11n w u)[11]? = some (cpAd u v 11, cpCell (cpWa w (cpAd u v)) cpS0 11) := rfl
theorem nat_12 (w : cpW) (u v : Nat → Nat) : (bX11n w u)[12]? = some (cpAd u v 12, cpCell (cpWa w (cpAd u v)) cpS0 12) := rfl
theorem nat_13 (w : cpW) (u v : Nat → Nat) : (bX11n w u)[13]? = some (cpAd u v 13, cpCell (cpWa w (cpAd u v)) cpS0 13) := rfl
theorem nat_14 (w : cpW) (u v : Nat → Nat) : (bX11n w u)[14]? = some (cpAd u v 14, cpCell (cpWa w (cpAd u v)) cpS0 14) := rfl
theorem nat_15 (w : cpW) (u v : Nat → Nat) : (bX11n w u)[67]? = some (cpAd u v 15, cpCell (cpWa w (cpAd u v)) cpS0 15) := rfl
theorem nat_16 (w : cpW) (u v : Nat → Nat) : (bX11n w u)[68]? = some (cpAd u v 16, cpCell (cpWa w (cpAd u v)) cpS0 16) := rfl
theorem nat_17 (w : cpW) (u v : Nat → Nat) : (bX11n w u)[69]? = some (cpAd u v 17, cpCell (cpWa w (cpAd u v)) cpS0 17) := rfl
theorem nat_18 (w : cpW) (u v : Nat → Nat) : (bX11n w u)[70]? = some (cpAd u v 18, cpCell (cpWa w (cpAd u v)) cpS0 18) := rfl
theorem nat_19 (w : cpW) (u v : Nat → Nat) : (bX11n w u)[71]? = some (cpAd u v 19, cpCell (cpWa w (cpAd u v)) cpS0 19) := rfl
theorem nat_20 (w : cpW) (u v : Nat → Nat) : (bX11n w u)[72]? = some (cpAd u v 20, cpCell (cpWa w (cpAd u v)) cpS0 20) := rfl
theorem nat_21 (w : cpW) (u v : Nat → Nat) : (bX11n w u)[73]? = some (cpAd u v 21, cpCell (cpWa w (cpAd u v)) cpS0 21) := rfl
theorem nat_22 (w : cpW) (u v : Nat → Nat) : (bX11n w u)[74]? = some (cpAd u v 22, cpCell (cpWa w (cpAd u v)) cpS0 22) := rfl
theorem nat_23 (w : cpW) (u v : Nat → Nat) : (bX11n w u)[75]? = some (cpAd u v 23, cpCell (cpWa w (cpAd u v)) cpS0 23) := rfl
theorem nat_24 (w : cpW) (u v : Nat → Nat) : (bX11n w u)[76]? = some (cpAd u v 24, cpCell (cpWa w (cpAd u v)) cpS0 24) := rfl
theorem nat_25 (w : cpW) (u v : Nat → Nat) : (bX11n w u)[77]? = some (cpAd u v 25, cpCell (cpWa w (cpAd u v)) cpS0 25) := rfl
theorem nat_26 (w : cpW) (u v : Nat → Nat) : (bX11n w u)[78]? = some (cpAd u v 26, cpCell (cpWa w (cpAd u v)) cpS0 26) := rfl
theorem nat_27 (w : cpW) (u v : Nat → Nat) : (bX11n w u)[79]? = some (cpAd u v 27, cpCell (cpWa w (cpAd u v)) cpS0 27) := rfl
theorem nat_28 (w : cpW) (u v : Nat → Nat) : (bX11n w u)[80]? = some (cpAd u v 28, cpCell (cpWa w (cpAd u v)) cpS0 28) := rfl
theorem nat_29 (w : cpW) (u v : Nat → Nat) : (bX11n w u)[114]? = some (cpAd u v 29, cpCell (cpWa w (cpAd u v)) cpS0 29) := rfl
theorem nat_30 (w : cpW) (u v : Nat → Nat) : (bX11n w u)[115]? = some (cpAd u v 30, cpCell (cpWa w (cpAd u v)) cpS0 30) := rfl
theorem nat_31 (w : cpW) (u v : Nat → Nat) : (bX11n w u)[116]? = some (cpAd u v 31, cpCell (cpWa w (cpAd u v)) cpS0 31) := rfl
theorem nat_32 (w : cpW) (u v : Nat → Nat) : (bX11n w u)[117]? = some (cpAd u v 32, cpCell (cpWa w (cpAd u v)) cpS0 32) := rfl
theorem nat_33 (w : cpW) (u v : Nat → Nat) : (bX11n w u)[118]? = some (cpAd u v 33, cpCell (cpWa w (cpAd u v)) cpS0 33) := rfl
theorem nat_34 (w : cpW) (u v : Nat → Nat) : (bX11n w u)[119]? = some (cpAd u v 34, cpCell (cpWa w (cpAd u v)) cpS0 34) := rfl
theorem nat_35 (w : cpW) (u v : Nat → Nat) : (bX11n w u)[120]? = some (cpAd u v 35, cpCell (cpWa w (cpAd u v)) cpS0 35) := rfl
theorem nat_36 (w : cpW) (u v : Nat → Nat) : (bX11n w u)[121]? = some (cpAd u v 36, cpCell (cpWa w (cpAd u v)) cpS0 36) := rfl
theorem nat_37 (w : cpW) (u v : Nat → Nat) : (bX11n w u)[122]? = some (cpAd u v 37, cpCell (cpWa w (cpAd u v)) cpS0 37) := rfl
theorem nat_38 (w : cpW) (u v : Nat → Nat) : (bX11n w u)[123]? = some (cpAd u v 38, cpCell (cpWa w (cpAd u v)) cpS0 38) := rfl
theorem nat_39 (w : cpW) (u v : Nat → Nat) : (bX11n w u)[124]? = some (cpAd u v 39, cpCell (cpWa w (cpAd u v)) cpS0 39) := rfl
theorem nat_40 (w : cpW) (u v : Nat → Nat) : (bX11n w u)[125]? = some (cpAd u v 40, cpCell (cpWa w (cpAd u v)) cpS0 40) := rfl
theorem nat_41 (w : cpW) (u v : Nat → Nat) : (bX11n w u)[126]? = some (cpAd u v 41, cpCell (cpWa w (cpAd u v)) cpS0 41) := rfl
theorem nat_42 (w : cpW) (u v : Nat → Nat) : (bX11n w u)[127]? = some (cpAd u v 42, cpCell (cpWa w (cpAd u v)) cpS0 42) := rfl
theorem nat_43 (w : cpW) (u v : Nat → Nat) : (bX11n w u)[132]? = some (cpAd u v 43, cpCell (cpWa w (cpAd u v)) cpS0 43) := rfl
theorem nat_44 (w : cpW) (u v : Nat → Nat) : (bX11n w u)[133]? = some (cpAd u v 44, cpCell (cpWa w (cpAd u v)) cpS0 44) := rfl
theorem nat_45 (w : cpW) (u v : Nat → Nat) : (bX11n w u)[134]? = some (cpAd u v 45, cpCell (cpWa w (cpAd u v)) cpS0 45) := rfl
theorem nat_46 (w : cpW) (u v : Nat → Nat) : (bX11n w u)[135]? = some (cpAd u v 46, cpCell (cpWa w (cpAd u v)) cpS0 46) := rfl
theorem nat_47 (w : cpW) (u v : Nat → Nat) : (bX11n w u)[136]? = some (cpAd u v 47, cpCell (cpWa w (cpAd u v)) cpS0 47) := rfl
theorem nat_48 (w : cpW) (u v : Nat → Nat) : (bX11n w u)[137]? = some (cpAd u v 48, cpCell (cpWa w (cpAd u v)) cpS0 48) := rfl
theorem nat_49 (w : cpW) (u v : Nat → Nat) : (bX11n w u)[138]? = some (cpAd u v 49, cpCell (cpWa w (cpAd u v)) cpS0 49) := rfl
theorem nat_50 (w : cpW) (u v : Nat → Nat) : (bX11n w u)[139]? = some (cpAd u v 50, cpCell (cpWa w (cpAd u v)) cpS0 50) := rfl
theorem nat_51 (w : cpW) (u v : Nat → Nat) : (bX11n w u)[140]? = some (cpAd u v 51, cpCell (cpWa w (cpAd u v)) cpS0 51) := rfl
theorem nat_52 (w : cpW) (u v : Nat → Nat) : (bX11n w u)[141]? = some (cpAd u v 52, cpCell (cpWa w (cpAd u v)) cpS0 52) := rfl
theorem nat_53 (w : cpW) (u v : Nat → Nat) : (bX11n w u)[142]? = some (cpAd u v 53, cpCell (cpWa w (cpAd u v)) cpS0 53) := rfl
theorem nat_54 (w : cpW) (u v : Nat → Nat) : (bX11n w u)[143]? = some (cpAd u v 54, cpCell (cpWa w (cpAd u v)) cpS0 54) := rfl
theorem nat_55 (w : cpW) (u v : Nat → Nat) : (bX11n w u)[144]? = some (cpAd u v 55, cpCell (cpWa w (cpAd u v)) cpS0 55) := rfl
theorem nat_56 (w : cpW) (u v : Nat → Nat) : (bX11n w u)[145]? = some (cpAd u v 56, cpCell (cpWa w (cpAd u v)) cpS0 56) := rfl
theorem nat_57 (w : cpW) (u v : Nat → Nat) : (bX11n w u)[15]? = some (cpAd u v 57, cpCell (cpWa w (cpAd u v)) cpS0 57) := rfl
theorem nat_58 (w : cpW) (u v : Nat → Nat) : (bX11n w u)[16]? = some (cpAd u v 58, cpCell (cpWa w (cpAd u v)) cpS0 58) := rfl
theorem nat_59 (w : cpW) (u v : Nat → Nat) : (bX11n w u)[17]? = some (cpAd u v 59, cpCell (cpWa w (cpAd u v)) cpS0 59) := rfl
theorem nat_60 (w : cpW) (u v : Nat → Nat) : (bX11n w u)[18]? = some (cpAd u v 60, cpCell (cpWa w (cpAd u v)) cpS0 60) := rfl
theorem nat_61 (w : cpW) (u v : Nat → Nat) : (bX11n w u)[19]? = some (cpAd u v 61, cpCell (cpWa w (cpAd u v)) cpS0 61) := rfl
theorem nat_62 (w : cpW) (u v : Nat → Nat) : (bX11n w u)[20]? = some (cpAd u v 62, cpCell (cpWa w (cpAd u v)) cpS0 62) := rfl
theorem nat_63 (w : cpW) (u v : Nat → Nat) : (bX11n w u)[21]? = some (cpAd u v 63, cpCell (cpWa w (cpAd u v)) cpS0 63) := rfl
theorem nat_64 (w : cpW) (u v : Nat → Nat) : (bX11n w u)[22]? = some (cpAd u v 64, cpCell (cpWa w (cpAd u v)) cpS0 64) := rfl
theorem nat_65 (w : cpW) (u v : Nat → Nat) : (bX11n w u)[25]? = some (cpAd u v 65, cpCell (cpWa w (cpAd u v)) cpS0 65) := rfl
theorem nat_66 (w : cpW) (u v : Nat → Nat) : (bX11n w u)[26]? = some (cpAd u v 66, cpCell (cpWa w (cpAd u v)) cpS0 66) := rfl
theorem nat_67 (w : cpW) (u v : Nat → Nat) : (bX11n w u)[27]? = some (cpAd u v 67, cpCell (cpWa w (cpAd u v)) cpS0 67) := rfl
theorem nat_68 (w : cpW) (u v : Nat → Nat) : (bX11n w u)[28]? = some (cpAd u v 68, cpCell (cpWa w (cpAd u v)) cpS0 68) := rfl
theorem nat_69 (w : cpW) (u v : Nat → Nat) : (bX11n w u)[29]? = some (cpAd u v 69, cpCell (cpWa w (cpAd u v)) cpS0 69) := rfl
theorem nat_70 (w : cpW) (u v : Nat → Nat) : (bX11n w u)[30]? = some (cpAd u v 70, cpCell (cpWa w (cpAd u v)) cpS0 70) := rfl
theorem nat_71 (w : cpW) (u v : Nat → Nat) : (bX11n w u)[31]? = some (cpAd u v 71, cpCell (cpWa w (cpAd u v)) cpS0 71) := rfl
theorem nat_72 (w : cpW) (u v : Nat → Nat) : (bX11n w u)[32]? = some (cpAd u v 72, cpCell (cpWa w (cpAd u v)) cpS0 72) := rfl
theorem nat_73 (w : cpW) (u v : Nat → Nat) : (bX11n w u)[33]? = some (cpAd u v 73, cpCell (cpWa w (cpAd u v)) cpS0 73) := rfl
theorem nat_74 (w : cpW) (u v : Nat → Nat) : (bX11n w u)[34]? = some (cpAd u v 74, cpCell (cpWa w (cpAd u v)) cpS0 74) := rfl
theorem nat_75 (w : cpW) (u v : Nat → Nat) : (bX11n w u)[35]? = some (cpAd u v 75, cpCell (cpWa w (cpAd u v)) cpS0 75) := rfl
theorem nat_76 (w : cpW) (u v : Nat → Nat) : (bX11n w u)[36]? = some (cpAd u v 76, cpCell (cpWa w (cpAd u v)) cpS0 76) := rfl
theorem nat_77 (w : cpW) (u v : Nat → Nat) : (bX11n w u)[37]? = some (cpAd u v 77, cpCell (cpWa w (cpAd u v)) cpS0 77) := rfl
theorem nat_78 (w : cpW) (u v : Nat → Nat) : (bX11n w u)[38]? = some (cpAd u v 78, cpCell (cpWa w (cpAd u v)) cpS0 78) := rfl
theorem nat_79 (w : cpW) (u v : Nat → Nat) : (bX11n w u)[39]? = some (cpAd u v 79, cpCell (cpWa w (cpAd u v)) cpS0 79) := rfl
theorem nat_80 (w : cpW) (u v : Nat → Nat) : (bX11n w u)[40]? = some (cpAd u v 80, cpCell (cpWa w (cpAd u v)) cpS0 80) := rfl
theorem nat_81 (w : cpW) (u v : Nat → Nat) : (bX11n w u)[41]? = some (cpAd u v 81, cpCell (cpWa w (cpAd u v)) cpS0 81) := rfl
theorem nat_82 (w : cpW) (u v : Nat → Nat) : (bX11n w u)[42]? = some (cpAd u v 82, cpCell (cpWa w (cpAd u v)) cpS0 82) := rfl
theorem nat_83 (w : cpW) (u v : Nat → Nat) : (bX11n w u)[43]? = some (cpAd u v 83, cpCell (cpWa w (cpAd u v)) cpS0 83) := rfl
theorem nat_84 (w : cpW) (u v : Nat → Nat) : (bX11n w u)[44]? = some (cpAd u v 84, cpCell (cpWa w (cpAd u v)) cpS0 84) := rfl
theorem nat_85 (w : cpW) (u v : Nat → Nat) : (bX11n w u)[45]? = some (cpAd u v 85, cpCell (cpWa w (cpAd u v)) cpS0 85) := rfl
theorem nat_86 (w : cpW) (u v : Nat → Nat) : (bX11n w u)[46]? = some (cpAd u v 86, cpCell (cpWa w (cpAd u v)) cpS0 86) := rfl
theorem nat_87 (w : cpW) (u v : Nat → Nat) : (bX11n w u)[47]? = some (cpAd u v 87, cpCell (cpWa w (cpAd u v)) cpS0 87) := rfl
theorem nat_88 (w : cpW) (u v : Nat → Nat) : (bX11n w u)[48]? = some (cpAd u v 88, cpCell (cpWa w (cpAd u v)) cpS0 88) := rfl
theorem nat_89 (w : cpW) (u v : Nat → Nat) : (bX11n w u)[49]? = some (cpAd u v 89, cpCell (cpWa w (cpAd u v)) cpS0 89) := rfl
theorem nat_90 (w : cpW) (u v : Nat → Nat) : (bX11n w u)[50]? = some (cpAd u v 90, cpCell (cpWa w (cpAd u v)) cpS0 90) := rfl
theorem nat_91 (w : cpW) (u v : Nat → Nat) : (bX11n w u)[51]? = some (cpAd u v 91, cpCell (cpWa w (cpAd u v)) cpS0 91) := rfl
theorem nat_92 (w : cpW) (u v : Nat → Nat) : (bX11n w u)[52]? = some (cpAd u v 92, cpCell (cpWa w (cpAd u v)) cpS0 92) := rfl
theorem nat_93 (w : cpW) (u v : Nat → Nat) : (bX11n w u)[53]? = some (cpAd u v 93, cpCell (cpWa w (cpAd u v)) cpS0 93) := rfl
theorem nat_94 (w : cpW) (u v : Nat → Nat) : (bX11n w u)[54]? = some (cpAd u v 94, cpCell (cpWa w (cpAd u v)) cpS0 94) := rfl
theorem nat_95 (w : cpW) (u v : Nat → Nat) : (bX11n w u)[55]? = some (cpAd u v 95, cpCell (cpWa w (cpAd u v)) cpS0 95) := rfl
theorem nat_96 (w : cpW) (u v : Nat → Nat) : (bX11n w u)[56]? = some (cpAd u v 96, cpCell (cpWa w (cpAd u v)) cpS0 96) := rfl
theorem nat_97 (w : cpW) (u v : Nat → Nat) : (bX11n w u)[57]? = some (cpAd u v 97, cpCell (cpWa w (cpAd u v)) cpS0 97) := rfl
theorem nat_98 (w : cpW) (u v : Nat → Nat) : (bX11n w u)[58]? = some (cpAd u v 98, cpCell (cpWa w (cpAd u v)) cpS0 98) := rfl
theorem nat_99 (w : cpW) (u v : Nat → Nat) : (bX11n w u)[59]? = some (cpAd u v 99, cpCell (cpWa w (cpAd u v)) cpS0 99) := rfl
theorem nat_100 (w : cpW) (u v : Nat → Nat) : (bX11n w u)[60]? = some (cpAd u v 100, cpCell (cpWa w (cpAd u v)) cpS0 100) := rfl
theorem nat_101 (w : cpW) (u v : Nat → Nat) : (bX11n w u)[61]? = some (cpAd u v 101, cpCell (cpWa w (cpAd u v)) cpS0 101) := rfl
theorem nat_102 (w : cpW) (u v : Nat → Nat) : (bX11n w u)[62]? = some (cpAd u v 102, cpCell (cpWa w (cpAd u v)) cpS0 102) := rfl
theorem nat_103 (w : cpW) (u v : Nat → Nat) : (bX11n w u)[63]? = some (cpAd u v 103, cpCell (cpWa w (cpAd u v)) cpS0 103) := rfl
theorem nat_104 (w : cpW) (u v : Nat → Nat) : (bX11n w u)[64]? = some (cpAd u v 104, cpCell (cpWa w (cpAd u v)) cpS0 104) := rfl
theorem nat_105 (w : cpW) (u v : Nat → Nat) : (bX11n w u)[128]? = some (cpAd u v 105, cpCell (cpWa w (cpAd u v)) cpS0 105) := rfl
theorem nat_106 (w : cpW) (u v : Nat → Nat) : (bX11n w u)[129]? = some (cpAd u v 106, cpCell (cpWa w (cpAd u v)) cpS0 106) := rfl
theorem nat_107 (w : cpW) (u v : Nat → Nat) : (bX11n w u)[130]? = some (cpAd u v 107, cpCell (cpWa w (cpAd u v)) cpS0 107) := rfl
theorem nat_108 (w : cpW) (u v : Nat → Nat) : (bX11n w u)[131]? = some (cpAd u v 108, cpCell (cpWa w (cpAd u v)) cpS0 108) := rfl
theorem nat_109 (w : cpW) (u v : Nat → Nat) : (bX11n w u)[146]? = some (cpAd u v 109, cpCell (cpWa w (cpAd u v)) cpS0 109) := rfl
theorem nat_110 (w : cpW) (u v : Nat → Nat) : (bX11n w u)[147]? = some (cpAd u v 110, cpCell (cpWa w (cpAd u v)) cpS0 110) := rfl
theorem nat_111 (w : cpW) (u v : Nat → Nat) : (bX11n w u)[148]? = some (cpAd u v 111, cpCell (cpWa w (cpAd u v)) cpS0 111) := rfl
theorem nat_112 (w : cpW) (u v : Nat → Nat) : (bX11n w u)[149]? = some (cpAd u v 112, cpCell (cpWa w (cpAd u v)) cpS0 112) := rfl
theorem nat_113 (w : cpW) (u v : Nat → Nat) : (bX11n w u)[23]? = some (cpAd u v 113, cpCell (cpWa w (cpAd u v)) cpS0 113) := rfl
theorem nat_114 (w : cpW) (u v : Nat → Nat) : (bX11n w u)[24]? = some (cpAd u v 114, cpCell (cpWa w (cpAd u v)) cpS0 114) := by
  have e : (va_up (va_up (va_up (va_up (va_up (va_up (va_up (va_up (va_up (va_up (fun _ => none) 0 (some (u 65))) 1 (some (u 69))) 2 (some (u 73))) 3 (some (u 77))) 4 (some (u 81))) 5 (some (u 85))) 6 (some (u 89))) 7 (some (u 93))) 8 (some (u 97))) 9 (some (u 101))) = (fun j => (([some 65, some 69, some 73, some 77, some 81, some 85, some 89, some 93, some 97, some 101] : List (Option Nat)).getD j none).map (cpAd u v)) := by
    funext j
    match j with
    | 0 => rfl
    | 1 => rfl
    | 2 => rfl
    | 3 => rfl
    | 4 => rfl
    | 5 => rfl
    | 6 => rfl
    | 7 => rfl
    | 8 => rfl
    | 9 => rfl
    | j + 10 => simp [va_up]
  exact congrArg (fun f => some (u 114, (Sum.inl (w.2.2.1 5, 10, Sum.inr (Sum.inr (Sum.inr (Sum.inr f)))) : va_E))) e
theorem nat_115 (w : cpW) (u v : Nat → Nat) : (bX11n w u)[65]? = some (cpAd u v 115, cpCell (cpWa w (cpAd u v)) cpS0 115) := rfl
theorem nat_116 (w : cpW) (u v : Nat → Nat) : (bX11n w u)[66]? = some (cpAd u v 116, cpCell (cpWa w (cpAd u v)) cpS0 116) := rfl
theorem nat_117 (w : cpW) (u v : Nat → Nat) : (bX11n w u)[98]? = some (cpAd u v 117, cpCell (cpWa w (cpAd u v)) cpS0 117) := rfl
theorem nat_118 (w : cpW) (u v : Nat → Nat) : (bX11n w u)[81]? = some (cpAd u v 118, cpCell (cpWa w (cpAd u v)) cpS0 118) := rfl
theorem nat_119 (w : cpW) (u v : Nat → Nat) : (bX11n w u)[97]? = some (cpAd u v 119, cpCell (cpWa w (cpAd u v)) cpS0 119) := rfl
theorem nat_120 (w : cpW) (u v : Nat → Nat) : (bX11n w u)[82]? = some (cpAd u v 120, cpCell (cpWa w (cpAd u v)) cpS0 120) := rfl
theorem nat_121 (w : cpW) (u v : Nat → Nat) : (bX11n w u)[83]? = some (cpAd u v 121, cpCell (cpWa w (cpAd u v)) cpS0 121) := rfl
theorem nat_122 (w : cpW) (u v : Nat → Nat) : (bX11n w u)[84]? = some (cpAd u v 122, cpCell (cpWa w (cpAd u v)) cpS0 122) := rfl
theorem nat_123 (w : cpW) (u v : Nat → Nat) : (bX11n w u)[85]? = some (cpAd u v 123, cpCell (cpWa w (cpAd u v)) cpS0 123) := rfl
theorem nat_124 (w : cpW) (u v : Nat → Nat) : (bX11n w u)[86]? = some (cpAd u v 124, cpCell (cpWa w (cpAd u v)) cpS0 124) := rfl
theorem nat_125 (w : cpW) (u v : Nat → Nat) : (bX11n w u)[87]? = some (cpAd u v 125, cpCell (cpWa w (cpAd u v)) cpS0 125) := rfl
theorem nat_126 (w : cpW) (u v : Nat → Nat) : (bX11n w u)[88]? = some (cpAd u v 126, cpCell (cpWa w (cpAd u v)) cpS0 126) := rfl
theorem nat_127 (w : cpW) (u v : Nat → Nat) : (bX11n w u)[89]? = some (cpAd u v 127, cpCell (cpWa w (cpAd u v)) cpS0 127) := rfl
theorem nat_128 (w : cpW) (u v : Nat → Nat) : (bX11n w u)[90]? = some (cpAd u v 128, cpCell (cpWa w (cpAd u v)) cpS0 128) := rfl
theorem nat_129 (w : cpW) (u v : Nat → Nat) : (bX11n w u)[91]? = some (cpAd u v 129, cpCell (cpWa w (cpAd u v)) cpS0 129) := rfl
theorem nat_130 (w : cpW) (u v : Nat → Nat) : (bX11n w u)[92]? = some (cpAd u v 130, cpCell (cpWa w (cpAd u v)) cpS0 130) := rfl
theorem nat_131 (w : cpW) (u v : Nat → Nat) : (bX11n w u)[93]? = some (cpAd u v 131, cpCell (cpWa w (cpAd u v)) cpS0 131) := rfl
theorem nat_132 (w : cpW) (u v : Nat → Nat) : (bX11n w u)[94]? = some (cpAd u v 132, cpCell (cpWa w (cpAd u v)) cpS0 132) := rfl
theorem nat_133 (w : cpW) (u v : Nat → Nat) : (bX11n w u)[95]? = some (cpAd u v 133, cpCell (cpWa w (cpAd u v)) cpS0 133) := rfl
theorem nat_134 (w : cpW) (u v : Nat → Nat) : (bX11n w u)[96]? = some (cpAd u v 134, cpCell (cpWa w (cpAd u v)) cpS0 134) := rfl
theorem nat_135 (w : cpW) (u v : Nat → Nat) : (bX11n w u)[99]? = some (cpAd u v 135, cpCell (cpWa w (cpAd u v)) cpS0 135) := rfl
theorem nat_136 (w : cpW) (u v : Nat → Nat) : (bX11n w u)[100]? = some (cpAd u v 136, cpCell (cpWa w (cpAd u v)) cpS0 136) := rfl
theorem nat_137 (w : cpW) (u v : Nat → Nat) : (bX11n w u)[101]? = some (cpAd u v 137, cpCell (cpWa w (cpAd u v)) cpS0 137) := rfl
theorem nat_138 (w : cpW) (u v : Nat → Nat) : (bX11n w u)[102]? = some (cpAd u v 138, cpCell (cpWa w (cpAd u v)) cpS0 138) := by
  have e : (va_up (va_up (va_up (va_up (fun _ => none) 0 (some (u 139))) 1 (some (u 141))) 2 (some (u 143))) 3 (some (u 145))) = (fun j => (([some 139, some 141, some 143, some 145] : List (Option Nat)).getD j none).map (cpAd u v)) := by
    funext j
    match j with
    | 0 => rfl
    | 1 => rfl
    | 2 => rfl
    | 3 => rfl
    | j + 4 => simp [va_up]
  exact congrArg (fun f => some (u 138, (Sum.inl (w.2.2.1 6, 4, Sum.inr (Sum.inr (Sum.inr (Sum.inr f)))) : va_E))) e
theorem nat_139 (w : cpW) (u v : Nat → Nat) : (bX11n w u)[106]? = some (cpAd u v 139, cpCell (cpWa w (cpAd u v)) cpS0 139) := rfl
theorem nat_140 (w : cpW) (u v : Nat → Nat) : (bX11n w u)[107]? = some (cpAd u v 140, cpCell (cpWa w (cpAd u v)) cpS0 140) := rfl
theorem nat_141 (w : cpW) (u v : Nat → Nat) : (bX11n w u)[108]? = some (cpAd u v 141, cpCell (cpWa w (cpAd u v)) cpS0 141) := rfl
theorem nat_142 (w : cpW) (u v : Nat → Nat) : (bX11n w u)[109]? = some (cpAd u v 142, cpCell (cpWa w (cpAd u v)) cpS0 142) := rfl
theorem nat_143 (w : cpW) (u v : Nat → Nat) : (bX11n w u)[110]? = some (cpAd u v 143, cpCell (cpWa w (cpAd u v)) cpS0 143) := rfl
theorem nat_144 (w : cpW) (u v : Nat → Nat) : (bX11n w u)[111]? = some (cpAd u v 144, cpCell (cpWa w (cpAd u v)) cpS0 144) := rfl
theorem nat_145 (w : cpW) (u v : Nat → Nat) : (bX11n w u)[112]? = some (cpAd u v 145, cpCell (cpWa w (cpAd u v)) cpS0 145) := rfl
theorem nat_146 (w : cpW) (u v : Nat → Nat) : (bX11n w u)[113]? = some (cpAd u v 146, cpCell (cpWa w (cpAd u v)) cpS0 146) := rfl
theorem nat_147 (w : cpW) (u v : Nat → Nat) : (bX11n w u)[103]? = some (cpAd u v 147, cpCell (cpWa w (cpAd u v)) cpS0 147) := by
  have e : (va_up (va_up (fun _ => none) 0 (some (u 29))) 1 (some (u 43))) = (fun j => (([some 29, some 43] : List (Option Nat)).getD j none).map (cpAd u v)) := by
    funext j
    match j with
    | 0 => rfl
    | 1 => rfl
    | j + 2 => simp [va_up]
  exact congrArg (fun f => some (u 147, (Sum.inl (w.2.2.1 7, 2, Sum.inr (Sum.inr (Sum.inr (Sum.inr f)))) : va_E))) e
theorem nat_148 (w : cpW) (u v : Nat → Nat) : (bX11n w u)[104]? = some (cpAd u v 148, cpCell (cpWa w (cpAd u v)) cpS0 148) := by
  have e : (va_up (va_up (fun _ => none) 0 (some (u 105))) 1 (some (u 109))) = (fun j => (([some 105, some 109] : List (Option Nat)).getD j none).map (cpAd u v)) := by
    funext j
    match j with
    | 0 => rfl
    | 1 => rfl
    | j + 2 => simp [va_up]
  exact congrArg (fun f => some (u 148, (Sum.inl (w.2.2.1 5, 2, Sum.inr (Sum.inr (Sum.inr (Sum.inr f)))) : va_E))) e
theorem nat_149 (w : cpW) (u v : Nat → Nat) : (bX11n w u)[105]? = some (cpAd u v 149, cpCell (cpWa w (cpAd u v)) cpS0 149) := rfl
theorem nat_150 (w : cpW) (u v : Nat → Nat) : (bX12n w v)[0]? = some (cpAd u v 150, cpCell (cpWa w (cpAd u v)) cpS0 150) := rfl
theorem nat_151 (w : cpW) (u v : Nat → Nat) : (bX12n w v)[23]? = some (cpAd u v 151, cpCell (cpWa w (cpAd u v)) cpS0 151) := rfl
theorem nat_152 (w : cpW) (u v : Nat → Nat) : (bX12n w v)[1]? = some (cpAd u v 152, cpCell (cpWa w (cpAd u v)) cpS0 152) := rfl
theorem nat_153 (w : cpW) (u v : Nat → Nat) : (bX12n w v)[2]? = some (cpAd u v 153, cpCell (cpWa w (cpAd u v)) cpS0 153) := rfl
theorem nat_154 (w : cpW) (u v : Nat → Nat) : (bX12n w v)[3]? = some (cpAd u v 154, cpCell (cpWa w (cpAd u v)) cpS0 154) := rfl
theorem nat_155 (w : cpW) (u v : Nat → Nat) : (bX12n w v)[4]? = some (cpAd u v 155, cpCell (cpWa w (cpAd u v)) cpS0 155) := rfl
theorem nat_156 (w : cpW) (u v : Nat → Nat) : (bX12n w v)[5]? = some (cpAd u v 156, cpCell (cpWa w (cpAd u v)) cpS0 156) := rfl
theorem nat_157 (w : cpW) (u v : Nat → Nat) : (bX12n w v)[6]? = some (cpAd u v 157, cpCell (cpWa w (cpAd u v)) cpS0 157) := rfl
theorem nat_158 (w : cpW) (u v : Nat → Nat) : (bX12n w v)[7]? = some (cpAd u v 158, cpCell (cpWa w (cpAd u v)) cpS0 158) := rfl
theorem nat_159 (w : cpW) (u v : Nat → Nat) : (bX12n w v)[8]? = some (cpAd u v 159, cpCell (cpWa w (cpAd u v)) cpS0 159) := rfl
theorem nat_160 (w : cpW) (u v : Nat → Nat) : (bX12n w v)[9]? = some (cpAd u v 160, cpCell (cpWa w (cpAd u v)) cpS0 160) := rfl
theorem nat_161 (w : cpW) (u v : Nat → Nat) : (bX12n w v)[10]? = some (cpAd u v 161, cpCell (cpWa w (cpAd u v)) cpS0 161) := rfl
theorem nat_162 (w : cpW) (u v : Nat → Nat) : (bX12n w v)[11]? = some (cpAd u v 162, cpCell (cpWa w (cpAd u v)) cpS0 162) := rfl
theorem nat_163 (w : cpW) (u v : Nat → Nat) : (bX12n w v)[12]? = some (cpAd u v 163, cpCell (cpWa w (cpAd u v)) cpS0 163) := rfl
theorem nat_164 (w : cpW) (u v : Nat → Nat) : (bX12n w v)[13]? = some (cpAd u v 164, cpCell (cpWa w (cpAd u v)) cpS0 164) := rfl
theorem nat_165 (w : cpW) (u v : Nat → Nat) : (bX12n w v)[14]? = some (cpAd u v 165, cpCell (cpWa w (cpAd u v)) cpS0 165) := rfl
theorem nat_166 (w : cpW) (u v : Nat → Nat) : (bX12n w v)[15]? = some (cpAd u v 166, cpCell (cpWa w (cpAd u v)) cpS0 166) := rfl
theorem nat_167 (w : cpW) (u v : Nat → Nat) : (bX12n w v)[16]? = some (cpAd u v 167, cpCell (cpWa w (cpAd u v)) cpS0 167) := rfl
theorem nat_168 (w : cpW) (u v : Nat → Nat) : (bX12n w v)[17]? = some (cpAd u v 168, cpCell (cpWa w (cpAd u v)) cpS0 168) := rfl
theorem nat_169 (w : cpW) (u v : Nat → Nat) : (bX12n w v)[18]? = some (cpAd u v 169, cpCell (cpWa w (cpAd u v)) cpS0 169) := rfl
theorem nat_170 (w : cpW) (u v : Nat → Nat) : (bX12n w v)[19]? = some (cpAd u v 170, cpCell (cpWa w (cpAd u v)) cpS0 170) := rfl
theorem nat_171 (w : cpW) (u v : Nat → Nat) : (bX12n w v)[20]? = some (cpAd u v 171, cpCell (cpWa w (cpAd u v)) cpS0 171) := rfl
theorem nat_172 (w : cpW) (u v : Nat → Nat) : (bX12n w v)[21]? = some (cpAd u v 172, cpCell (cpWa w (cpAd u v)) cpS0 172) := rfl
theorem nat_173 (w : cpW) (u v : Nat → Nat) : (bX12n w v)[22]? = some (cpAd u v 173, cpCell (cpWa w (cpAd u v)) cpS0 173) := rfl
set_option maxRecDepth 100000 in
theorem len11 (w : cpW) (u : Nat → Nat) : (bX11n w u).length = 150 := rfl
theorem cp_l {α : Type} {a b : List α} {i : Nat} {x : α} (h : a[i]? = some x) : (a ++ b)[i]? = some x := by rw [List.getElem?_append_left (List.getElem?_eq_some_iff.mp h).1]; exact h
theorem cp_r {α : Type} {a b : List α} {i n : Nat} {x : α} (hn : a.length = n) (h : b[i]? = some x) : (a ++ b)[n + i]? = some x := by rw [← hn, List.getElem?_append_right (by omega)]; simpa using h
theorem nat_all (w : cpW) (u v : Nat → Nat) (k : Nat) (hk : k < 174) : (bX11n w u ++ bX12n w v)[cpPos k]? = some (cpAd u v k, cpCell (cpWa w (cpAd u v)) cpS0 k) := by
  match k, hk with
  | 0, _ => exact cp_l (nat_0 w u v)
  | 1, _ => exact cp_l (nat_1 w u v)
  | 2, _ => exact cp_l (nat_2 w u v)
  | 3, _ => exact cp_l (nat_3 w u v)
  | 4, _ => exact cp_l (nat_4 w u v)
  | 5, _ => exact cp_l (nat_5 w u v)
  | 6, _ => exact cp_l (nat_6 w u v)
  | 7, _ => exact cp_l (nat_7 w u v)
  | 8, _ => exact cp_l (nat_8 w u v)
  | 9, _ => exact cp_l (nat_9 w u v)
  | 10, _ => exact cp_l (nat_10 w u v)
  | 11, _ => exact cp_l (nat_11 w u v)
  | 12, _ => exact cp_l (nat_12 w u v)
  | 13, _ => exact cp_l (nat_13 w u v)
  | 14, _ => exact cp_l (nat_14 w u v)
  | 15, _ => exact cp_l (nat_15 w u v)
  | 16, _ => exact cp_l (nat_16 w u v)
  | 17, _ => exact cp_l (nat_17 w u v)
  | 18, _ => exact cp_l (nat_18 w u v)
  | 19, _ => exact cp_l (nat_19 w u v)
  | 20, _ => exact cp_l (nat_20 w u v)
  | 21, _ => exact cp_l (nat_21 w u v)
  | 22, _ => exact cp_l (nat_22 w u v)
  | 23, _ => exact cp_l (nat_23 w u v)
  | 24, _ => exact cp_l (nat_24 w u v)
  | 25, _ => exact cp_l (nat_25 w u v)
  | 26, _ => exact cp_l (nat_26 w u v)
  | 27, _ => exact cp_l (nat_27 w u v)
  | 28, _ => exact cp_l (nat_28 w u v)
  | 29, _ => exact cp_l (nat_29 w u v)
  | 30, _ => exact cp_l (nat_30 w u v)
  | 31, _ => exact cp_l (nat_31 w u v)
  | 32, _ => exact cp_l (nat_32 w u v)
  | 33, _ => exact cp_l (nat_33 w u v)
  | 34, _ => exact cp_l (nat_34 w u v)
  | 35, _ => exact cp_l (nat_35 w u v)
  | 36, _ => exact cp_l (nat_36 w u v)
  | 37, _ => exact cp_l (nat_37 w u v)
  | 38, _ => exact cp_l (nat_38 w u v)
  | 39, _ => exact cp_l (nat_39 w u v)
  | 40, _ => exact cp_l (nat_40 w u v)
  | 41, _ => exact cp_l (nat_41 w u v)
  | 42, _ => exact cp_l (nat_42 w u v)
  | 43, _ => exact cp_l (nat_43 w u v)
  | 44, _ => exact cp_l (nat_44 w u v)
  | 45, _ => exact cp_l (nat_45 w u v)
  | 46, _ => exact cp_l (nat_46 w u v)
  | 47, _ => exact cp_l (nat_47 w u v)
  | 48, _ => exact cp_l (nat_48 w u v)
  | 49, _ => exact cp_l (nat_49 w u v)
  | 50, _ => exact cp_l (nat_50 w u v)
  | 51, _ => exact cp_l (nat_51 w u v)
  | 52, _ => exact cp_l (nat_52 w u v)
  | 53, _ => exact cp_l (nat_53 w u v)
  | 54, _ => exact cp_l (nat_54 w u v)
  | 55, _ => exact cp_l (nat_55 w u v)
  | 56, _ => exact cp_l (nat_56 w u v)
  | 57, _ => exact cp_l (nat_57 w u v)
  | 58, _ => exact cp_l (nat_58 w u v)
  | 59, _ => exact cp_l (nat_59 w u v)
  | 60, _ => exact cp_l (nat_60 w u v)
  | 61, _ => exact cp_l (nat_61 w u v)
  | 62, _ => exact cp_l (nat_62 w u v)
  | 63, _ => exact cp_l (nat_63 w u v)
  | 64, _ => exact cp_l (nat_64 w u v)
  | 65, _ => exact cp_l (nat_65 w u v)
  | 66, _ => exact cp_l (nat_66 w u v)
  | 67, _ => exact cp_l (nat_67 w u v)
  | 68, _ => exact cp_l (nat_68 w u v)
  | 69, _ => exact cp_l (nat_69 w u v)
  | 70, _ => exact cp_l (nat_70 w u v)
  | 71, _ => exact cp_l (nat_71 w u v)
  | 72, _ => exact cp_l (nat_72 w u v)
  | 73, _ => exact cp_l (nat_73 w u v)
  | 74, _ => exact cp_l (nat_74 w u v)
  | 75, _ => exact cp_l (nat_75 w u v)
  | 76, _ => exact cp_l (nat_76 w u v)
  | 77, _ => exact cp_l (nat_77 w u v)
  | 78, _ => exact cp_l (nat_78 w u v)
  | 79, _ => exact cp_l (nat_79 w u v)
  | 80, _ => exact cp_l (nat_80 w u v)
  | 81, _ => exact cp_l (nat_81 w u v)
  | 82, _ => exact cp_l (nat_82 w u v)
  | 83, _ => exact cp_l (nat_83 w u v)
  | 84, _ => exact cp_l (nat_84 w u v)
  | 85, _ => exact cp_l (nat_85 w u v)
  | 86, _ => exact cp_l (nat_86 w u v)
  | 87, _ => exact cp_l (nat_87 w u v)
  | 88, _ => exact cp_l (nat_88 w u v)
  | 89, _ => exact cp_l (nat_89 w u v)
  | 90, _ => exact cp_l (nat_90 w u v)
  | 91, _ => exact cp_l (nat_91 w u v)
  | 92, _ => exact cp_l (nat_92 w u v)
  | 93, _ => exact cp_l (nat_93 w u v)
  | 94, _ => exact cp_l (nat_94 w u v)
  | 95, _ => exact cp_l (nat_95 w u v)
  | 96, _ => exact cp_l (nat_96 w u v)
  | 97, _ => exact cp_l (nat_97 w u v)
  | 98, _ => exact cp_l (nat_98 w u v)
  | 99, _ => exact cp_l (nat_99 w u v)
  | 100, _ => exact cp_l (nat_100 w u v)
  | 101, _ => exact cp_l (nat_101 w u v)
  | 102, _ => exact cp_l (nat_102 w u v)
  | 103, _ => exact cp_l (nat_103 w u v)
  | 104, _ => exact cp_l (nat_104 w u v)
  | 105, _ => exact cp_l (nat_105 w u v)
  | 106, _ => exact cp_l (nat_106 w u v)
  | 107, _ => exact cp_l (nat_107 w u v)
  | 108, _ => exact cp_l (nat_108 w u v)
  | 109, _ => exact cp_l (nat_109 w u v)
  | 110, _ => exact cp_l (nat_110 w u v)
  | 111, _ => exact cp_l (nat_111 w u v)
  | 112, _ => exact cp_l (nat_112 w u v)
  | 113, _ => exact cp_l (nat_113 w u v)
  | 114, _ => exact cp_l (nat_114 w u v)
  | 115, _ => exact cp_l (nat_115 w u v)
  | 116, _ => exact cp_l (nat_116 w u v)
  | 117, _ => exact cp_l (nat_117 w u v)
  | 118, _ => exact cp_l (nat_118 w u v)
  | 119, _ => exact cp_l (nat_119 w u v)
  | 120, _ => exact cp_l (nat_120 w u v)
  | 121, _ => exact cp_l (nat_121 w u v)
  | 122, _ => exact cp_l (nat_122 w u v)
  | 123, _ => exact cp_l (nat_123 w u v)
  | 124, _ => exact cp_l (nat_124 w u v)
  | 125, _ => exact cp_l (nat_125 w u v)
  | 126, _ => exact cp_l (nat_126 w u v)
  | 127, _ => exact cp_l (nat_127 w u v)
  | 128, _ => exact cp_l (nat_128 w u v)
  | 129, _ => exact cp_l (nat_129 w u v)
  | 130, _ => exact cp_l (nat_130 w u v)
  | 131, _ => exact cp_l (nat_131 w u v)
  | 132, _ => exact cp_l (nat_132 w u v)
  | 133, _ => exact cp_l (nat_133 w u v)
  | 134, _ => exact cp_l (nat_134 w u v)
  | 135, _ => exact cp_l (nat_135 w u v)
  | 136, _ => exact cp_l (nat_136 w u v)
  | 137, _ => exact cp_l (nat_137 w u v)
  | 138, _ => exact cp_l (nat_138 w u v)
  | 139, _ => exact cp_l (nat_139 w u v)
  | 140, _ => exact cp_l (nat_140 w u v)
  | 141, _ => exact cp_l (nat_141 w u v)
  | 142, _ => exact cp_l (nat_142 w u v)
  | 143, _ => exact cp_l (nat_143 w u v)
  | 144, _ => exact cp_l (nat_144 w u v)
  | 145, _ => exact cp_l (nat_145 w u v)
  | 146, _ => exact cp_l (nat_146 w u v)
  | 147, _ => exact cp_l (nat_147 w u v)
  | 148, _ => exact cp_l (nat_148 w u v)
  | 149, _ => exact cp_l (nat_149 w u v)
  | 150, _ => exact cp_r (len11 w u) (nat_150 w u v)
  | 151, _ => exact cp_r (len11 w u) (nat_151 w u v)
  | 152, _ => exact cp_r (len11 w u) (nat_152 w u v)
  | 153, _ => exact cp_r (len11 w u) (nat_153 w u v)
  | 154, _ => exact cp_r (len11 w u) (nat_154 w u v)
  | 155, _ => exact cp_r (len11 w u) (nat_155 w u v)
  | 156, _ => exact cp_r (len11 w u) (nat_156 w u v)
  | 157, _ => exact cp_r (len11 w u) (nat_157 w u v)
  | 158, _ => exact cp_r (len11 w u) (nat_158 w u v)
  | 159, _ => exact cp_r (len11 w u) (nat_159 w u v)
  | 160, _ => exact cp_r (len11 w u) (nat_160 w u v)
  | 161, _ => exact cp_r (len11 w u) (nat_161 w u v)
  | 162, _ => exact cp_r (len11 w u) (nat_162 w u v)
  | 163, _ => exact cp_r (len11 w u) (nat_163 w u v)
  | 164, _ => exact cp_r (len11 w u) (nat_164 w u v)
  | 165, _ => exact cp_r (len11 w u) (nat_165 w u v)
  | 166, _ => exact cp_r (len11 w u) (nat_166 w u v)
  | 167, _ => exact cp_r (len11 w u) (nat_167 w u v)
  | 168, _ => exact cp_r (len11 w u) (nat_168 w u v)
  | 169, _ => exact cp_r (len11 w u) (nat_169 w u v)
  | 170, _ => exact cp_r (len11 w u) (nat_170 w u v)
  | 171, _ => exact cp_r (len11 w u) (nat_171 w u v)
  | 172, _ => exact cp_r (len11 w u) (nat_172 w u v)
  | 173, _ => exact cp_r (len11 w u) (nat_173 w u v)
  | j + 174, h => exact absurd h (by omega)
set_option maxRecDepth 100000 in
theorem cpPos_inj : ∀ i, i < 174 → ∀ j, j < 174 → cpPos i = cpPos j → i = j := by decide +kernel
theorem nat_P {w : cpW} {u v : Nat → Nat} {H : Heap} (hP : va_P w.1 vwCl (bX11n w u ++ bX12n w v) H) : va_P (cpWa w (cpAd u v)).1 vwCl (cpWd (cpWa w (cpAd u v)) cpS0) H := by
  intro k q hk
  have hl : k < cpN := by
    have := (List.getElem?_eq_some_iff.mp hk).1
    rwa [cpWd_len] at this
  rw [cpWd_at hl] at hk
  cases hk
  exact hP (cpPos k) _ (nat_all w u v k hl)
theorem nat_D {w : cpW} {u v : Nat → Nat} {A : Nat → Prop} (hD : va_D A (bX11n w u ++ bX12n w v)) : cpDist (cpWa w (cpAd u v)) A := by
  refine ⟨fun i j hi hj e => ?_, fun i hi => hD.2 _ _ (nat_all w u v i hi)⟩
  exact cpPos_inj i hi j hj (hD.1 _ _ _ _ (nat_all w u v i hi) (nat_all w u v j hj) e)
