-- the instructions are those of the byte code
set_option maxRecDepth 100000 in
theorem s_ckg_0_0 : (s_wj 0 s_c_0 && (s_wj 1 s_c_1 && (s_wj 2 s_c_2 && (s_wj 3 s_c_3 && (s_wj 4 s_c_4 && (s_wj 5 s_c_5 && (s_wj 6 s_c_6 && (s_wj 7 s_c_7 && (s_wj 8 s_c_8 && (s_wj 9 s_c_9 && (s_wj 10 s_c_10 && (s_wj 11 s_c_11 && (s_wj 12 s_c_12 && (s_wj 13 s_c_13 && (s_wj 14 s_c_14 && (s_wj 15 s_c_15 && (s_wj 16 s_c_16 && (s_wj 17 s_c_17 && (s_wj 18 s_c_18 && (s_wj 19 s_c_19 && (s_wj 20 s_c_20 && (s_wj 21 s_c_21 && (s_wj 22 s_c_22 && (s_wj 23 s_c_23 && (s_wj 24 s_c_24 && (s_wj 25 s_c_25 && (s_wj 26 s_c_26 && (s_wj 27 s_c_27 && (s_wj 28 s_c_28 && (s_wj 29 s_c_29 && (s_wj 30 s_c_30 && (s_wj 31 s_c_31 && (s_wj 32 s_c_32 && (s_wj 33 s_c_33 && (s_wj 34 s_c_34 && (s_wj 35 s_c_35 && (s_wj 36 s_c_36 && (s_wj 37 s_c_37 && (s_wj 38 s_c_38 && (s_wj 39 s_c_39 && (s_wj 40 s_c_40 && (s_wj 41 s_c_41 && (s_wj 42 s_c_42 && (s_wj 43 s_c_43 && (s_wj 44 s_c_44 && (s_wj 45 s_c_45 && (s_wj 46 s_c_46 && (s_wj 47 s_c_47 && (s_wj 48 s_c_48 && (s_wj 49 s_c_49 && ( true))))))))))))))))))))))))))))))))))))))))))))))))))) = true := by decide +kernel
theorem s_ck_0 : s_c_0.all (s_okI (g_by 0) (g_me 0).2.1) = true := s_wj_ok (s_a1 s_ckg_0_0)
theorem s_ckg_0_1 : _ = true := s_a2 s_ckg_0_0
theorem s_ck_1 : s_c_1.all (s_okI (g_by 1) (g_me 1).2.1) = true := s_wj_ok (s_a1 s_ckg_0_1)
theorem s_ckg_0_2 : _ = true := s_a2 s_ckg_0_1
theorem s_ck_2 : s_c_2.all (s_okI (g_by 2) (g_me 2).2.1) = true := s_wj_ok (s_a1 s_ckg_0_2)
theorem s_ckg_0_3 : _ = true := s_a2 s_ckg_0_2
theorem s_ck_3 : s_c_3.all (s_okI (g_by 3) (g_me 3).2.1) = true := s_wj_ok (s_a1 s_ckg_0_3)
theorem s_ckg_0_4 : _ = true := s_a2 s_ckg_0_3
theorem s_ck_4 : s_c_4.all (s_okI (g_by 4) (g_me 4).2.1) = true := s_wj_ok (s_a1 s_ckg_0_4)
theorem s_ckg_0_5 : _ = true := s_a2 s_ckg_0_4
theorem s_ck_5 : s_c_5.all (s_okI (g_by 5) (g_me 5).2.1) = true := s_wj_ok (s_a1 s_ckg_0_5)
theorem s_ckg_0_6 : _ = true := s_a2 s_ckg_0_5
theorem s_ck_6 : s_c_6.all (s_okI (g_by 6) (g_me 6).2.1) = true := s_wj_ok (s_a1 s_ckg_0_6)
theorem s_ckg_0_7 : _ = true := s_a2 s_ckg_0_6
theorem s_ck_7 : s_c_7.all (s_okI (g_by 7) (g_me 7).2.1) = true := s_wj_ok (s_a1 s_ckg_0_7)
theorem s_ckg_0_8 : _ = true := s_a2 s_ckg_0_7
theorem s_ck_8 : s_c_8.all (s_okI (g_by 8) (g_me 8).2.1) = true := s_wj_ok (s_a1 s_ckg_0_8)
theorem s_ckg_0_9 : _ = true := s_a2 s_ckg_0_8
theorem s_ck_9 : s_c_9.all (s_okI (g_by 9) (g_me 9).2.1) = true := s_wj_ok (s_a1 s_ckg_0_9)
theorem s_ckg_0_10 : _ = true := s_a2 s_ckg_0_9
theorem s_ck_10 : s_c_10.all (s_okI (g_by 10) (g_me 10).2.1) = true := s_wj_ok (s_a1 s_ckg_0_10)
theorem s_ckg_0_11 : _ = true := s_a2 s_ckg_0_10
theorem s_ck_11 : s_c_11.all (s_okI (g_by 11) (g_me 11).2.1) = true := s_wj_ok (s_a1 s_ckg_0_11)
theorem s_ckg_0_12 : _ = true := s_a2 s_ckg_0_11
theorem s_ck_12 : s_c_12.all (s_okI (g_by 12) (g_me 12).2.1) = true := s_wj_ok (s_a1 s_ckg_0_12)
theorem s_ckg_0_13 : _ = true := s_a2 s_ckg_0_12
theorem s_ck_13 : s_c_13.all (s_okI (g_by 13) (g_me 13).2.1) = true := s_wj_ok (s_a1 s_ckg_0_13)
theorem s_ckg_0_14 : _ = true := s_a2 s_ckg_0_13
theorem s_ck_14 : s_c_14.all (s_okI (g_by 14) (g_me 14).2.1) = true := s_wj_ok (s_a1 s_ckg_0_14)
theorem s_ckg_0_15 : _ = true := s_a2 s_ckg_0_14
theorem s_ck_15 : s_c_15.all (s_okI (g_by 15) (g_me 15).2.1) = true := s_wj_ok (s_a1 s_ckg_0_15)
theorem s_ckg_0_16 : _ = true := s_a2 s_ckg_0_15
theorem s_ck_16 : s_c_16.all (s_okI (g_by 16) (g_me 16).2.1) = true := s_wj_ok (s_a1 s_ckg_0_16)
theorem s_ckg_0_17 : _ = true := s_a2 s_ckg_0_16
theorem s_ck_17 : s_c_17.all (s_okI (g_by 17) (g_me 17).2.1) = true := s_wj_ok (s_a1 s_ckg_0_17)
theorem s_ckg_0_18 : _ = true := s_a2 s_ckg_0_17
theorem s_ck_18 : s_c_18.all (s_okI (g_by 18) (g_me 18).2.1) = true := s_wj_ok (s_a1 s_ckg_0_18)
theorem s_ckg_0_19 : _ = true := s_a2 s_ckg_0_18
theorem s_ck_19 : s_c_19.all (s_okI (g_by 19) (g_me 19).2.1) = true := s_wj_ok (s_a1 s_ckg_0_19)
theorem s_ckg_0_20 : _ = true := s_a2 s_ckg_0_19
theorem s_ck_20 : s_c_20.all (s_okI (g_by 20) (g_me 20).2.1) = true := s_wj_ok (s_a1 s_ckg_0_20)
theorem s_ckg_0_21 : _ = true := s_a2 s_ckg_0_20
theorem s_ck_21 : s_c_21.all (s_okI (g_by 21) (g_me 21).2.1) = true := s_wj_ok (s_a1 s_ckg_0_21)
theorem s_ckg_0_22 : _ = true := s_a2 s_ckg_0_21
theorem s_ck_22 : s_c_22.all (s_okI (g_by 22) (g_me 22).2.1) = true := s_wj_ok (s_a1 s_ckg_0_22)
theorem s_ckg_0_23 : _ = true := s_a2 s_ckg_0_22
theorem s_ck_23 : s_c_23.all (s_okI (g_by 23) (g_me 23).2.1) = true := s_wj_ok (s_a1 s_ckg_0_23)
theorem s_ckg_0_24 : _ = true := s_a2 s_ckg_0_23
theorem s_ck_24 : s_c_24.all (s_okI (g_by 24) (g_me 24).2.1) = true := s_wj_ok (s_a1 s_ckg_0_24)
theorem s_ckg_0_25 : _ = true := s_a2 s_ckg_0_24
theorem s_ck_25 : s_c_25.all (s_okI (g_by 25) (g_me 25).2.1) = true := s_wj_ok (s_a1 s_ckg_0_25)
theorem s_ckg_0_26 : _ = true := s_a2 s_ckg_0_25
theorem s_ck_26 : s_c_26.all (s_okI (g_by 26) (g_me 26).2.1) = true := s_wj_ok (s_a1 s_ckg_0_26)
theorem s_ckg_0_27 : _ = true := s_a2 s_ckg_0_26
theorem s_ck_27 : s_c_27.all (s_okI (g_by 27) (g_me 27).2.1) = true := s_wj_ok (s_a1 s_ckg_0_27)
theorem s_ckg_0_28 : _ = true := s_a2 s_ckg_0_27
theorem s_ck_28 : s_c_28.all (s_okI (g_by 28) (g_me 28).2.1) = true := s_wj_ok (s_a1 s_ckg_0_28)
theorem s_ckg_0_29 : _ = true := s_a2 s_ckg_0_28
theorem s_ck_29 : s_c_29.all (s_okI (g_by 29) (g_me 29).2.1) = true := s_wj_ok (s_a1 s_ckg_0_29)
theorem s_ckg_0_30 : _ = true := s_a2 s_ckg_0_29
theorem s_ck_30 : s_c_30.all (s_okI (g_by 30) (g_me 30).2.1) = true := s_wj_ok (s_a1 s_ckg_0_30)
theorem s_ckg_0_31 : _ = true := s_a2 s_ckg_0_30
theorem s_ck_31 : s_c_31.all (s_okI (g_by 31) (g_me 31).2.1) = true := s_wj_ok (s_a1 s_ckg_0_31)
theorem s_ckg_0_32 : _ = true := s_a2 s_ckg_0_31
theorem s_ck_32 : s_c_32.all (s_okI (g_by 32) (g_me 32).2.1) = true := s_wj_ok (s_a1 s_ckg_0_32)
theorem s_ckg_0_33 : _ = true := s_a2 s_ckg_0_32
theorem s_ck_33 : s_c_33.all (s_okI (g_by 33) (g_me 33).2.1) = true := s_wj_ok (s_a1 s_ckg_0_33)
theorem s_ckg_0_34 : _ = true := s_a2 s_ckg_0_33
theorem s_ck_34 : s_c_34.all (s_okI (g_by 34) (g_me 34).2.1) = true := s_wj_ok (s_a1 s_ckg_0_34)
theorem s_ckg_0_35 : _ = true := s_a2 s_ckg_0_34
theorem s_ck_35 : s_c_35.all (s_okI (g_by 35) (g_me 35).2.1) = true := s_wj_ok (s_a1 s_ckg_0_35)
theorem s_ckg_0_36 : _ = true := s_a2 s_ckg_0_35
theorem s_ck_36 : s_c_36.all (s_okI (g_by 36) (g_me 36).2.1) = true := s_wj_ok (s_a1 s_ckg_0_36)
theorem s_ckg_0_37 : _ = true := s_a2 s_ckg_0_36
theorem s_ck_37 : s_c_37.all (s_okI (g_by 37) (g_me 37).2.1) = true := s_wj_ok (s_a1 s_ckg_0_37)
theorem s_ckg_0_38 : _ = true := s_a2 s_ckg_0_37
theorem s_ck_38 : s_c_38.all (s_okI (g_by 38) (g_me 38).2.1) = true := s_wj_ok (s_a1 s_ckg_0_38)
theorem s_ckg_0_39 : _ = true := s_a2 s_ckg_0_38
theorem s_ck_39 : s_c_39.all (s_okI (g_by 39) (g_me 39).2.1) = true := s_wj_ok (s_a1 s_ckg_0_39)
theorem s_ckg_0_40 : _ = true := s_a2 s_ckg_0_39
theorem s_ck_40 : s_c_40.all (s_okI (g_by 40) (g_me 40).2.1) = true := s_wj_ok (s_a1 s_ckg_0_40)
theorem s_ckg_0_41 : _ = true := s_a2 s_ckg_0_40
theorem s_ck_41 : s_c_41.all (s_okI (g_by 41) (g_me 41).2.1) = true := s_wj_ok (s_a1 s_ckg_0_41)
theorem s_ckg_0_42 : _ = true := s_a2 s_ckg_0_41
theorem s_ck_42 : s_c_42.all (s_okI (g_by 42) (g_me 42).2.1) = true := s_wj_ok (s_a1 s_ckg_0_42)
theorem s_ckg_0_43 : _ = true := s_a2 s_ckg_0_42
theorem s_ck_43 : s_c_43.all (s_okI (g_by 43) (g_me 43).2.1) = true := s_wj_ok (s_a1 s_ckg_0_43)
theorem s_ckg_0_44 : _ = true := s_a2 s_ckg_0_43
theorem s_ck_44 : s_c_44.all (s_okI (g_by 44) (g_me 44).2.1) = true := s_wj_ok (s_a1 s_ckg_0_44)
theorem s_ckg_0_45 : _ = true := s_a2 s_ckg_0_44
theorem s_ck_45 : s_c_45.all (s_okI (g_by 45) (g_me 45).2.1) = true := s_wj_ok (s_a1 s_ckg_0_45)
theorem s_ckg_0_46 : _ = true := s_a2 s_ckg_0_45
theorem s_ck_46 : s_c_46.all (s_okI (g_by 46) (g_me 46).2.1) = true := s_wj_ok (s_a1 s_ckg_0_46)
theorem s_ckg_0_47 : _ = true := s_a2 s_ckg_0_46
theorem s_ck_47 : s_c_47.all (s_okI (g_by 47) (g_me 47).2.1) = true := s_wj_ok (s_a1 s_ckg_0_47)
theorem s_ckg_0_48 : _ = true := s_a2 s_ckg_0_47
theorem s_ck_48 : s_c_48.all (s_okI (g_by 48) (g_me 48).2.1) = true := s_wj_ok (s_a1 s_ckg_0_48)
theorem s_ckg_0_49 : _ = true := s_a2 s_ckg_0_48
theorem s_ck_49 : s_c_49.all (s_okI (g_by 49) (g_me 49).2.1) = true := s_wj_ok (s_a1 s_ckg_0_49)
set_option maxRecDepth 100000 in
theorem s_ckg_50_0 : (s_wj 50 s_c_50 && (s_wj 51 s_c_51 && (s_wj 52 s_c_52 && (s_wj 53 s_c_53 && (s_wj 54 s_c_54 && (s_wj 55 s_c_55 && (s_wj 56 s_c_56 && (s_wj 57 s_c_57 && (s_wj 58 s_c_58 && (s_wj 59 s_c_59 && (s_wj 60 s_c_60 && (s_wj 61 s_c_61 && (s_wj 62 s_c_62 && (s_wj 63 s_c_63 && (s_wj 64 s_c_64 && (s_wj 65 s_c_65 && (s_wj 66 s_c_66 && (s_wj 67 s_c_67 && (s_wj 68 s_c_68 && (s_wj 69 s_c_69 && (s_wj 70 s_c_70 && (s_wj 71 s_c_71 && (s_wj 72 s_c_72 && (s_wj 73 s_c_73 && (s_wj 74 s_c_74 && (s_wj 75 s_c_75 && (s_wj 76 s_c_76 && (s_wj 77 s_c_77 && (s_wj 78 s_c_78 && (s_wj 79 s_c_79 && (s_wj 80 s_c_80 && (s_wj 81 s_c_81 && (s_wj 82 s_c_82 && (s_wj 83 s_c_83 && (s_wj 84 s_c_84 && ( true)))))))))))))))))))))))))))))))))))) = true := by decide +kernel
theorem s_ck_50 : s_c_50.all (s_okI (g_by 50) (g_me 50).2.1) = true := s_wj_ok (s_a1 s_ckg_50_0)
theorem s_ckg_50_1 : _ = true := s_a2 s_ckg_50_0
theorem s_ck_51 : s_c_51.all (s_okI (g_by 51) (g_me 51).2.1) = true := s_wj_ok (s_a1 s_ckg_50_1)
theorem s_ckg_50_2 : _ = true := s_a2 s_ckg_50_1
theorem s_ck_52 : s_c_52.all (s_okI (g_by 52) (g_me 52).2.1) = true := s_wj_ok (s_a1 s_ckg_50_2)
theorem s_ckg_50_3 : _ = true := s_a2 s_ckg_50_2
theorem s_ck_53 : s_c_53.all (s_okI (g_by 53) (g_me 53).2.1) = true := s_wj_ok (s_a1 s_ckg_50_3)
theorem s_ckg_50_4 : _ = true := s_a2 s_ckg_50_3
theorem s_ck_54 : s_c_54.all (s_okI (g_by 54) (g_me 54).2.1) = true := s_wj_ok (s_a1 s_ckg_50_4)
theorem s_ckg_50_5 : _ = true := s_a2 s_ckg_50_4
theorem s_ck_55 : s_c_55.all (s_okI (g_by 55) (g_me 55).2.1) = true := s_wj_ok (s_a1 s_ckg_50_5)
theorem s_ckg_50_6 : _ = true := s_a2 s_ckg_50_5
theorem s_ck_56 : s_c_56.all (s_okI (g_by 56) (g_me 56).2.1) = true := s_wj_ok (s_a1 s_ckg_50_6)
theorem s_ckg_50_7 : _ = true := s_a2 s_ckg_50_6
theorem s_ck_57 : s_c_57.all (s_okI (g_by 57) (g_me 57).2.1) = true := s_wj_ok (s_a1 s_ckg_50_7)
theorem s_ckg_50_8 : _ = true := s_a2 s_ckg_50_7
theorem s_ck_58 : s_c_58.all (s_okI (g_by 58) (g_me 58).2.1) = true := s_wj_ok (s_a1 s_ckg_50_8)
theorem s_ckg_50_9 : _ = true := s_a2 s_ckg_50_8
theorem s_ck_59 : s_c_59.all (s_okI (g_by 59) (g_me 59).2.1) = true := s_wj_ok (s_a1 s_ckg_50_9)
theorem s_ckg_50_10 : _ = true := s_a2 s_ckg_50_9
theorem s_ck_60 : s_c_60.all (s_okI (g_by 60) (g_me 60).2.1) = true := s_wj_ok (s_a1 s_ckg_50_10)
theorem s_ckg_50_11 : _ = true := s_a2 s_ckg_50_10
theorem s_ck_61 : s_c_61.all (s_okI (g_by 61) (g_me 61).2.1) = true := s_wj_ok (s_a1 s_ckg_50_11)
theorem s_ckg_50_12 : _ = true := s_a2 s_ckg_50_11
theorem s_ck_62 : s_c_62.all (s_okI (g_by 62) (g_me 62).2.1) = true := s_wj_ok (s_a1 s_ckg_50_12)
theorem s_ckg_50_13 : _ = true := s_a2 s_ckg_50_12
theorem s_ck_63 : s_c_63.all (s_okI (g_by 63) (g_me 63).2.1) = true := s_wj_ok (s_a1 s_ckg_50_13)
theorem s_ckg_50_14 : _ = true := s_a2 s_ckg_50_13
theorem s_ck_64 : s_c_64.all (s_okI (g_by 64) (g_me 64).2.1) = true := s_wj_ok (s_a1 s_ckg_50_14)
theorem s_ckg_50_15 : _ = true := s_a2 s_ckg_50_14
theorem s_ck_65 : s_c_65.all (s_okI (g_by 65) (g_me 65).2.1) = true := s_wj_ok (s_a1 s_ckg_50_15)
theorem s_ckg_50_16 : _ = true := s_a2 s_ckg_50_15
theorem s_ck_66 : s_c_66.all (s_okI (g_by 66) (g_me 66).2.1) = true := s_wj_ok (s_a1 s_ckg_50_16)
theorem s_ckg_50_17 : _ = true := s_a2 s_ckg_50_16
theorem s_ck_67 : s_c_67.all (s_okI (g_by 67) (g_me 67).2.1) = true := s_wj_ok (s_a1 s_ckg_50_17)
theorem s_ckg_50_18 : _ = true := s_a2 s_ckg_50_17
theorem s_ck_68 : s_c_68.all (s_okI (g_by 68) (g_me 68).2.1) = true := s_wj_ok (s_a1 s_ckg_50_18)
theorem s_ckg_50_19 : _ = true := s_a2 s_ckg_50_18
theorem s_ck_69 : s_c_69.all (s_okI (g_by 69) (g_me 69).2.1) = true := s_wj_ok (s_a1 s_ckg_50_19)
theorem s_ckg_50_20 : _ = true := s_a2 s_ckg_50_19
theorem s_ck_70 : s_c_70.all (s_okI (g_by 70) (g_me 70).2.1) = true := s_wj_ok (s_a1 s_ckg_50_20)
theorem s_ckg_50_21 : _ = true := s_a2 s_ckg_50_20
theorem s_ck_71 : s_c_71.all (s_okI (g_by 71) (g_me 71).2.1) = true := s_wj_ok (s_a1 s_ckg_50_21)
theorem s_ckg_50_22 : _ = true := s_a2 s_ckg_50_21
theorem s_ck_72 : s_c_72.all (s_okI (g_by 72) (g_me 72).2.1) = true := s_wj_ok (s_a1 s_ckg_50_22)
theorem s_ckg_50_23 : _ = true := s_a2 s_ckg_50_22
theorem s_ck_73 : s_c_73.all (s_okI (g_by 73) (g_me 73).2.1) = true := s_wj_ok (s_a1 s_ckg_50_23)
theorem s_ckg_50_24 : _ = true := s_a2 s_ckg_50_23
theorem s_ck_74 : s_c_74.all (s_okI (g_by 74) (g_me 74).2.1) = true := s_wj_ok (s_a1 s_ckg_50_24)
theorem s_ckg_50_25 : _ = true := s_a2 s_ckg_50_24
theorem s_ck_75 : s_c_75.all (s_okI (g_by 75) (g_me 75).2.1) = true := s_wj_ok (s_a1 s_ckg_50_25)
theorem s_ckg_50_26 : _ = true := s_a2 s_ckg_50_25
theorem s_ck_76 : s_c_76.all (s_okI (g_by 76) (g_me 76).2.1) = true := s_wj_ok (s_a1 s_ckg_50_26)
theorem s_ckg_50_27 : _ = true := s_a2 s_ckg_50_26
theorem s_ck_77 : s_c_77.all (s_okI (g_by 77) (g_me 77).2.1) = true := s_wj_ok (s_a1 s_ckg_50_27)
theorem s_ckg_50_28 : _ = true := s_a2 s_ckg_50_27
theorem s_ck_78 : s_c_78.all (s_okI (g_by 78) (g_me 78).2.1) = true := s_wj_ok (s_a1 s_ckg_50_28)
theorem s_ckg_50_29 : _ = true := s_a2 s_ckg_50_28
theorem s_ck_79 : s_c_79.all (s_okI (g_by 79) (g_me 79).2.1) = true := s_wj_ok (s_a1 s_ckg_50_29)
theorem s_ckg_50_30 : _ = true := s_a2 s_ckg_50_29
theorem s_ck_80 : s_c_80.all (s_okI (g_by 80) (g_me 80).2.1) = true := s_wj_ok (s_a1 s_ckg_50_30)
theorem s_ckg_50_31 : _ = true := s_a2 s_ckg_50_30
theorem s_ck_81 : s_c_81.all (s_okI (g_by 81) (g_me 81).2.1) = true := s_wj_ok (s_a1 s_ckg_50_31)
theorem s_ckg_50_32 : _ = true := s_a2 s_ckg_50_31
theorem s_ck_82 : s_c_82.all (s_okI (g_by 82) (g_me 82).2.1) = true := s_wj_ok (s_a1 s_ckg_50_32)
theorem s_ckg_50_33 : _ = true := s_a2 s_ckg_50_32
theorem s_ck_83 : s_c_83.all (s_okI (g_by 83) (g_me 83).2.1) = true := s_wj_ok (s_a1 s_ckg_50_33)
theorem s_ckg_50_34 : _ = true := s_a2 s_ckg_50_33
theorem s_ck_84 : s_c_84.all (s_okI (g_by 84) (g_me 84).2.1) = true := s_wj_ok (s_a1 s_ckg_50_34)
set_option maxRecDepth 100000 in
theorem s_ckg_85_0 : (s_wj 85 s_c_85 && (s_wj 86 s_c_86 && (s_wj 87 s_c_87 && (s_wj 88 s_c_88 && (s_wj 89 s_c_89 && (s_wj 90 s_c_90 && (s_wj 91 s_c_91 && (s_wj 92 s_c_92 && (s_wj 93 s_c_93 && (s_wj 94 s_c_94 && (s_wj 95 s_c_95 && (s_wj 96 s_c_96 && (s_wj 97 s_c_97 && (s_wj 98 s_c_98 && (s_wj 99 s_c_99 && (s_wj 100 s_c_100 && (s_wj 101 s_c_101 && (s_wj 102 s_c_102 && (s_wj 103 s_c_103 && (s_wj 104 s_c_104 && (s_wj 105 s_c_105 && (s_wj 106 s_c_106 && (s_wj 107 s_c_107 && (s_wj 108 s_c_108 && (s_wj 109 s_c_109 && (s_wj 110 s_c_110 && (s_wj 111 s_c_111 && (s_wj 112 s_c_112 && (s_wj 113 s_c_113 && (s_wj 114 s_c_114 && (s_wj 115 s_c_115 && ( true)))))))))))))))))))))))))))))))) = true := by decide +kernel
theorem s_ck_85 : s_c_85.all (s_okI (g_by 85) (g_me 85).2.1) = true := s_wj_ok (s_a1 s_ckg_85_0)
theorem s_ckg_85_1 : _ = true := s_a2 s_ckg_85_0
theorem s_ck_86 : s_c_86.all (s_okI (g_by 86) (g_me 86).2.1) = true := s_wj_ok (s_a1 s_ckg_85_1)
theorem s_ckg_85_2 : _ = true := s_a2 s_ckg_85_1
theorem s_ck_87 : s_c_87.all (s_okI (g_by 87) (g_me 87).2.1) = true := s_wj_ok (s_a1 s_ckg_85_2)
theorem s_ckg_85_3 : _ = true := s_a2 s_ckg_85_2
theorem s_ck_88 : s_c_88.all (s_okI (g_by 88) (g_me 88).2.1) = true := s_wj_ok (s_a1 s_ckg_85_3)
theorem s_ckg_85_4 : _ = true := s_a2 s_ckg_85_3
theorem s_ck_89 : s_c_89.all (s_okI (g_by 89) (g_me 89).2.1) = true := s_wj_ok (s_a1 s_ckg_85_4)
theorem s_ckg_85_5 : _ = true := s_a2 s_ckg_85_4
theorem s_ck_90 : s_c_90.all (s_okI (g_by 90) (g_me 90).2.1) = true := s_wj_ok (s_a1 s_ckg_85_5)
theorem s_ckg_85_6 : _ = true := s_a2 s_ckg_85_5
theorem s_ck_91 : s_c_91.all (s_okI (g_by 91) (g_me 91).2.1) = true := s_wj_ok (s_a1 s_ckg_85_6)
theorem s_ckg_85_7 : _ = true := s_a2 s_ckg_85_6
theorem s_ck_92 : s_c_92.all (s_okI (g_by 92) (g_me 92).2.1) = true := s_wj_ok (s_a1 s_ckg_85_7)
theorem s_ckg_85_8 : _ = true := s_a2 s_ckg_85_7
theorem s_ck_93 : s_c_93.all (s_okI (g_by 93) (g_me 93).2.1) = true := s_wj_ok (s_a1 s_ckg_85_8)
theorem s_ckg_85_9 : _ = true := s_a2 s_ckg_85_8
theorem s_ck_94 : s_c_94.all (s_okI (g_by 94) (g_me 94).2.1) = true := s_wj_ok (s_a1 s_ckg_85_9)
theorem s_ckg_85_10 : _ = true := s_a2 s_ckg_85_9
theorem s_ck_95 : s_c_95.all (s_okI (g_by 95) (g_me 95).2.1) = true := s_wj_ok (s_a1 s_ckg_85_10)
theorem s_ckg_85_11 : _ = true := s_a2 s_ckg_85_10
theorem s_ck_96 : s_c_96.all (s_okI (g_by 96) (g_me 96).2.1) = true := s_wj_ok (s_a1 s_ckg_85_11)
theorem s_ckg_85_12 : _ = true := s_a2 s_ckg_85_11
theorem s_ck_97 : s_c_97.all (s_okI (g_by 97) (g_me 97).2.1) = true := s_wj_ok (s_a1 s_ckg_85_12)
theorem s_ckg_85_13 : _ = true := s_a2 s_ckg_85_12
theorem s_ck_98 : s_c_98.all (s_okI (g_by 98) (g_me 98).2.1) = true := s_wj_ok (s_a1 s_ckg_85_13)
theorem s_ckg_85_14 : _ = true := s_a2 s_ckg_85_13
theorem s_ck_99 : s_c_99.all (s_okI (g_by 99) (g_me 99).2.1) = true := s_wj_ok (s_a1 s_ckg_85_14)
theorem s_ckg_85_15 : _ = true := s_a2 s_ckg_85_14
theorem s_ck_100 : s_c_100.all (s_okI (g_by 100) (g_me 100).2.1) = true := s_wj_ok (s_a1 s_ckg_85_15)
theorem s_ckg_85_16 : _ = true := s_a2 s_ckg_85_15
theorem s_ck_101 : s_c_101.all (s_okI (g_by 101) (g_me 101).2.1) = true := s_wj_ok (s_a1 s_ckg_85_16)
theorem s_ckg_85_17 : _ = true := s_a2 s_ckg_85_16
theorem s_ck_102 : s_c_102.all (s_okI (g_by 102) (g_me 102).2.1) = true := s_wj_ok (s_a1 s_ckg_85_17)
theorem s_ckg_85_18 : _ = true := s_a2 s_ckg_85_17
theorem s_ck_103 : s_c_103.all (s_okI (g_by 103) (g_me 103).2.1) = true := s_wj_ok (s_a1 s_ckg_85_18)
theorem s_ckg_85_19 : _ = true := s_a2 s_ckg_85_18
theorem s_ck_104 : s_c_104.all (s_okI (g_by 104) (g_me 104).2.1) = true := s_wj_ok (s_a1 s_ckg_85_19)
theorem s_ckg_85_20 : _ = true := s_a2 s_ckg_85_19
theorem s_ck_105 : s_c_105.all (s_okI (g_by 105) (g_me 105).2.1) = true := s_wj_ok (s_a1 s_ckg_85_20)
theorem s_ckg_85_21 : _ = true := s_a2 s_ckg_85_20
theorem s_ck_106 : s_c_106.all (s_okI (g_by 106) (g_me 106).2.1) = true := s_wj_ok (s_a1 s_ckg_85_21)
theorem s_ckg_85_22 : _ = true := s_a2 s_ckg_85_21
theorem s_ck_107 : s_c_107.all (s_okI (g_by 107) (g_me 107).2.1) = true := s_wj_ok (s_a1 s_ckg_85_22)
theorem s_ckg_85_23 : _ = true := s_a2 s_ckg_85_22
theorem s_ck_108 : s_c_108.all (s_okI (g_by 108) (g_me 108).2.1) = true := s_wj_ok (s_a1 s_ckg_85_23)
theorem s_ckg_85_24 : _ = true := s_a2 s_ckg_85_23
theorem s_ck_109 : s_c_109.all (s_okI (g_by 109) (g_me 109).2.1) = true := s_wj_ok (s_a1 s_ckg_85_24)
theorem s_ckg_85_25 : _ = true := s_a2 s_ckg_85_24
theorem s_ck_110 : s_c_110.all (s_okI (g_by 110) (g_me 110).2.1) = true := s_wj_ok (s_a1 s_ckg_85_25)
theorem s_ckg_85_26 : _ = true := s_a2 s_ckg_85_25
theorem s_ck_111 : s_c_111.all (s_okI (g_by 111) (g_me 111).2.1) = true := s_wj_ok (s_a1 s_ckg_85_26)
theorem s_ckg_85_27 : _ = true := s_a2 s_ckg_85_26
theorem s_ck_112 : s_c_112.all (s_okI (g_by 112) (g_me 112).2.1) = true := s_wj_ok (s_a1 s_ckg_85_27)
theorem s_ckg_85_28 : _ = true := s_a2 s_ckg_85_27
theorem s_ck_113 : s_c_113.all (s_okI (g_by 113) (g_me 113).2.1) = true := s_wj_ok (s_a1 s_ckg_85_28)
theorem s_ckg_85_29 : _ = true := s_a2 s_ckg_85_28
theorem s_ck_114 : s_c_114.all (s_okI (g_by 114) (g_me 114).2.1) = true := s_wj_ok (s_a1 s_ckg_85_29)
theorem s_ckg_85_30 : _ = true := s_a2 s_ckg_85_29
theorem s_ck_115 : s_c_115.all (s_okI (g_by 115) (g_me 115).2.1) = true := s_wj_ok (s_a1 s_ckg_85_30)
set_option maxRecDepth 100000 in
theorem s_ckg_116_0 : (s_wj 116 s_c_116 && (s_wj 117 s_c_117 && (s_wj 118 s_c_118 && (s_wj 119 s_c_119 && (s_wj 120 s_c_120 && (s_wj 121 s_c_121 && (s_wj 122 s_c_122 && (s_wj 123 s_c_123 && (s_wj 124 s_c_124 && (s_wj 125 s_c_125 && (s_wj 126 s_c_126 && (s_wj 127 s_c_127 && (s_wj 128 s_c_128 && (s_wj 129 s_c_129 && (s_wj 130 s_c_130 && (s_wj 131 s_c_131 && (s_wj 132 s_c_132 && (s_wj 133 s_c_133 && (s_wj 134 s_c_134 && (s_wj 135 s_c_135 && (s_wj 136 s_c_136 && (s_wj 137 s_c_137 && (s_wj 138 s_c_138 && (s_wj 139 s_c_139 && (s_wj 140 s_c_140 && (s_wj 141 s_c_141 && ( true))))))))))))))))))))))))))) = true := by decide +kernel
theorem s_ck_116 : s_c_116.all (s_okI (g_by 116) (g_me 116).2.1) = true := s_wj_ok (s_a1 s_ckg_116_0)
theorem s_ckg_116_1 : _ = true := s_a2 s_ckg_116_0
theorem s_ck_117 : s_c_117.all (s_okI (g_by 117) (g_me 117).2.1) = true := s_wj_ok (s_a1 s_ckg_116_1)
theorem s_ckg_116_2 : _ = true := s_a2 s_ckg_116_1
theorem s_ck_118 : s_c_118.all (s_okI (g_by 118) (g_me 118).2.1) = true := s_wj_ok (s_a1 s_ckg_116_2)
theorem s_ckg_116_3 : _ = true := s_a2 s_ckg_116_2
theorem s_ck_119 : s_c_119.all (s_okI (g_by 119) (g_me 119).2.1) = true := s_wj_ok (s_a1 s_ckg_116_3)
theorem s_ckg_116_4 : _ = true := s_a2 s_ckg_116_3
theorem s_ck_120 : s_c_120.all (s_okI (g_by 120) (g_me 120).2.1) = true := s_wj_ok (s_a1 s_ckg_116_4)
theorem s_ckg_116_5 : _ = true := s_a2 s_ckg_116_4
theorem s_ck_121 : s_c_121.all (s_okI (g_by 121) (g_me 121).2.1) = true := s_wj_ok (s_a1 s_ckg_116_5)
theorem s_ckg_116_6 : _ = true := s_a2 s_ckg_116_5
theorem s_ck_122 : s_c_122.all (s_okI (g_by 122) (g_me 122).2.1) = true := s_wj_ok (s_a1 s_ckg_116_6)
theorem s_ckg_116_7 : _ = true := s_a2 s_ckg_116_6
theorem s_ck_123 : s_c_123.all (s_okI (g_by 123) (g_me 123).2.1) = true := s_wj_ok (s_a1 s_ckg_116_7)
theorem s_ckg_116_8 : _ = true := s_a2 s_ckg_116_7
theorem s_ck_124 : s_c_124.all (s_okI (g_by 124) (g_me 124).2.1) = true := s_wj_ok (s_a1 s_ckg_116_8)
theorem s_ckg_116_9 : _ = true := s_a2 s_ckg_116_8
theorem s_ck_125 : s_c_125.all (s_okI (g_by 125) (g_me 125).2.1) = true := s_wj_ok (s_a1 s_ckg_116_9)
theorem s_ckg_116_10 : _ = true := s_a2 s_ckg_116_9
theorem s_ck_126 : s_c_126.all (s_okI (g_by 126) (g_me 126).2.1) = true := s_wj_ok (s_a1 s_ckg_116_10)
theorem s_ckg_116_11 : _ = true := s_a2 s_ckg_116_10
theorem s_ck_127 : s_c_127.all (s_okI (g_by 127) (g_me 127).2.1) = true := s_wj_ok (s_a1 s_ckg_116_11)
theorem s_ckg_116_12 : _ = true := s_a2 s_ckg_116_11
theorem s_ck_128 : s_c_128.all (s_okI (g_by 128) (g_me 128).2.1) = true := s_wj_ok (s_a1 s_ckg_116_12)
theorem s_ckg_116_13 : _ = true := s_a2 s_ckg_116_12
theorem s_ck_129 : s_c_129.all (s_okI (g_by 129) (g_me 129).2.1) = true := s_wj_ok (s_a1 s_ckg_116_13)
theorem s_ckg_116_14 : _ = true := s_a2 s_ckg_116_13
theorem s_ck_130 : s_c_130.all (s_okI (g_by 130) (g_me 130).2.1) = true := s_wj_ok (s_a1 s_ckg_116_14)
theorem s_ckg_116_15 : _ = true := s_a2 s_ckg_116_14
theorem s_ck_131 : s_c_131.all (s_okI (g_by 131) (g_me 131).2.1) = true := s_wj_ok (s_a1 s_ckg_116_15)
theorem s_ckg_116_16 : _ = true := s_a2 s_ckg_116_15
theorem s_ck_132 : s_c_132.all (s_okI (g_by 132) (g_me 132).2.1) = true := s_wj_ok (s_a1 s_ckg_116_16)
theorem s_ckg_116_17 : _ = true := s_a2 s_ckg_116_16
theorem s_ck_133 : s_c_133.all (s_okI (g_by 133) (g_me 133).2.1) = true := s_wj_ok (s_a1 s_ckg_116_17)
theorem s_ckg_116_18 : _ = true := s_a2 s_ckg_116_17
theorem s_ck_134 : s_c_134.all (s_okI (g_by 134) (g_me 134).2.1) = true := s_wj_ok (s_a1 s_ckg_116_18)
theorem s_ckg_116_19 : _ = true := s_a2 s_ckg_116_18
theorem s_ck_135 : s_c_135.all (s_okI (g_by 135) (g_me 135).2.1) = true := s_wj_ok (s_a1 s_ckg_116_19)
theorem s_ckg_116_20 : _ = true := s_a2 s_ckg_116_19
theorem s_ck_136 : s_c_136.all (s_okI (g_by 136) (g_me 136).2.1) = true := s_wj_ok (s_a1 s_ckg_116_20)
theorem s_ckg_116_21 : _ = true := s_a2 s_ckg_116_20
theorem s_ck_137 : s_c_137.all (s_okI (g_by 137) (g_me 137).2.1) = true := s_wj_ok (s_a1 s_ckg_116_21)
theorem s_ckg_116_22 : _ = true := s_a2 s_ckg_116_21
theorem s_ck_138 : s_c_138.all (s_okI (g_by 138) (g_me 138).2.1) = true := s_wj_ok (s_a1 s_ckg_116_22)
theorem s_ckg_116_23 : _ = true := s_a2 s_ckg_116_22
theorem s_ck_139 : s_c_139.all (s_okI (g_by 139) (g_me 139).2.1) = true := s_wj_ok (s_a1 s_ckg_116_23)
theorem s_ckg_116_24 : _ = true := s_a2 s_ckg_116_23
theorem s_ck_140 : s_c_140.all (s_okI (g_by 140) (g_me 140).2.1) = true := s_wj_ok (s_a1 s_ckg_116_24)
theorem s_ckg_116_25 : _ = true := s_a2 s_ckg_116_24
theorem s_ck_141 : s_c_141.all (s_okI (g_by 141) (g_me 141).2.1) = true := s_wj_ok (s_a1 s_ckg_116_25)
