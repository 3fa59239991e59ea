theorem ck_2_5 : okM (yX4_sinceLook, cX4_sinceLook, 1, (some .int), 4, 0, 0, kX4_sinceLook) (3095, 1034, 3093, 3094) = true := by decide +kernel
theorem ck_2_6 : okM (yX4_hoursToLook, cX4_hoursToLook, 1, (some .int), 4, 0, 0, kX4_hoursToLook) (3100, 1034, 3098, 3099) = true := by decide +kernel
theorem ck_2_7 : okM (yX4_lookDue, cX4_lookDue, 1, (some .boolean), 4, 0, 0, kX4_lookDue) (4106, 1034, 4104, 4105) = true := by decide +kernel
theorem ck_2_8 : okM (yX4_lookLapses, cX4_lookLapses, 2, (some .boolean), 4, 0, 1, kX4_lookLapses) (4110, 1034, 4108, 4109) = true := by decide +kernel
theorem ck_2_9 : okM (yX4_beginLook, cX4_beginLook, 2, none, 4, 0, 1, kX4_beginLook) (3116, 1034, 3114, 3115) = true := by decide +kernel
theorem ck_2_10 : okM (yX4_load, cX4_load, 4, none, 4, 0, 3, kX4_load) (4248, 1034, 4246, 4247) = true := by decide +kernel
theorem ck_2_11 : okM (yX4_settle, cX4_settle, 2, none, 4, 0, 1, kX4_settle) (2113, 1034, 2111, 2112) = true := by decide +kernel
theorem ck_2_12 : okM (yX4_leave, cX4_leave, 3, none, 4, 0, 2, kX4_leave) (3148, 1034, 3146, 3147) = true := by decide +kernel
theorem ck_2_13 : okM (yX4_addLink, cX4_addLink, 3, (some .int), 4, 0, 2, kX4_addLink) (3078, 1034, 3076, 3077) = true := by decide +kernel
theorem ck_2_14 : okM (yX4_ownerOf, cX4_ownerOf, 2, (some .int), 4, 0, 1, kX4_ownerOf) (6192, 1034, 6190, 6191) = true := by decide +kernel
theorem ck_2_15 : okM (yX4_rateOf, cX4_rateOf, 2, (some .int), 4, 0, 1, kX4_rateOf) (6184, 1034, 6182, 6183) = true := by decide +kernel
theorem ck_3_0 : okM (yX5_init, cX5_init, 1, none, 5, 0, 0, kX5_init) (1119, 1028, 1118, 0) = true := by decide +kernel
theorem ck_3_1 : okM (yX5_isListed, cX5_isListed, 3, (some .boolean), 5, 0, 1, kX5_isListed) (4127, 1028, 4126, 9) = true := by decide +kernel
theorem ck_3_2 : okM (yX5_add, cX5_add, 2, (some .int), 5, 0, 1, kX5_add) (4123, 1028, 4121, 4122) = true := by decide +kernel
theorem ck_3_3 : okM (yX5_begin, cX5_begin, 1, none, 5, 0, 0, kX5_begin) (4135, 1028, 4133, 4134) = true := by decide +kernel
theorem cq_3_4_0 : okCk 5 yX5_offer cX5_offer 0 ((kX5_offer.drop 0).take 10) = true := by decide +kernel
theorem cq_3_4_10 : okCk 5 yX5_offer cX5_offer 160 ((kX5_offer.drop 10).take 10) = true := by decide +kernel
theorem cc_3_4 : okCk 5 yX5_offer cX5_offer 0 (kX5_offer.drop 0) = true := (okCk_split cq_3_4_0 (okCk_last cq_3_4_10 (by decide +kernel)))
theorem ck_3_4 : okM (yX5_offer, cX5_offer, 8, none, 5, 0, 3, kX5_offer) (4143, 1028, 4141, 4142) = true := okM_of (k := kX5_offer) cc_3_4 (by decide +kernel)
theorem ck_3_5 : okM (yX5_costOf, cX5_costOf, 7, (some .long), 5, 1, 5, kX5_costOf) (4146, 1028, 4145, 0) = true := by decide +kernel
theorem ck_3_6 : okM (yX5_leastCost, cX5_leastCost, 7, (some .long), 5, 0, 0, kX5_leastCost) (4163, 1028, 4162, 10) = true := by decide +kernel
theorem ck_3_7 : okM (yX5_promise, cX5_promise, 9, (some .int), 5, 0, 2, kX5_promise) (4159, 1028, 4157, 4158) = true := by decide +kernel
theorem ck_3_8 : okM (yX6_init, cX6_init, 3, none, 6, 0, 2, kX6_init) (2191, 1035, 2190, 0) = true := by decide +kernel
theorem ck_3_9 : okM (yX6_size, cX6_size, 1, (some .int), 6, 0, 0, kX6_size) (4307, 1035, 4305, 4306) = true := by decide +kernel
theorem ck_3_10 : okM (yX6_last, cX6_last, 1, (some .int), 6, 0, 0, kX6_last) (3087, 1035, 3085, 3086) = true := by decide +kernel
theorem ck_3_11 : okM (yX6_valueAt, cX6_valueAt, 2, (some .int), 6, 0, 1, kX6_valueAt) (3091, 1035, 3089, 3090) = true := by decide +kernel
theorem ck_3_12 : okM (yX6_toldAt, cX6_toldAt, 2, (some .boolean), 6, 0, 1, kX6_toldAt) (3160, 1035, 3159, 3) = true := by decide +kernel
theorem ck_3_13 : okM (yX6_isAnother, cX6_isAnother, 2, (some .boolean), 6, 0, 1, kX6_isAnother) (3156, 1035, 3154, 3155) = true := by decide +kernel
theorem ck_3_14 : okM (yX6_tell, cX6_tell, 3, none, 6, 0, 2, kX6_tell) (3164, 1035, 3162, 3163) = true := by decide +kernel
theorem ck_3_15 : okM (yX6_grow, cX6_grow, 1, none, 6, 0, 0, kX6_grow) (3168, 1035, 3167, 4) = true := by decide +kernel
theorem ck_4_0 : okM (yX6_latestUpTo, cX6_latestUpTo, 6, (some .int), 6, 0, 1, kX6_latestUpTo) (4301, 1035, 4299, 4300) = true := by decide +kernel
theorem ck_4_1 : okM (yX6_earliestFrom, cX6_earliestFrom, 2, (some .int), 6, 0, 1, kX6_earliestFrom) (4297, 1035, 4295, 4296) = true := by decide +kernel
theorem ck_4_2 : okM (yX7_init, cX7_init, 7, none, 7, 0, 6, kX7_init) (3228, 1039, 3227, 0) = true := by decide +kernel
theorem ck_4_3 : okM (yX7_objection, cX7_objection, 5, (some .int), 7, 0, 3, kX7_objection) (4098, 1039, 4096, 4097) = true := by decide +kernel
theorem ck_4_4 : okM (yX7_begun, cX7_begun, 2, (some .boolean), 7, 0, 1, kX7_begun) (3140, 1039, 3138, 3139) = true := by decide +kernel
theorem ck_4_5 : okM (yX7_isSubstitute, cX7_isSubstitute, 1, (some .boolean), 7, 0, 0, kX7_isSubstitute) (5312, 1039, 5310, 5311) = true := by decide +kernel
theorem ck_4_6 : okM (yX7_promise, cX7_promise, 2, none, 7, 0, 1, kX7_promise) (4170, 1039, 4168, 4169) = true := by decide +kernel
theorem ck_4_7 : okM (yX7_finish, cX7_finish, 2, none, 7, 0, 1, kX7_finish) (3144, 1039, 3142, 3143) = true := by decide +kernel
theorem ck_4_8 : okM (yX7_loseMachine, cX7_loseMachine, 2, none, 7, 0, 1, kX7_loseMachine) (3136, 1039, 3134, 3135) = true := by decide +kernel
theorem ck_4_9 : okM (yX7_endBy, cX7_endBy, 2, (some .int), 7, 0, 1, kX7_endBy) (4283, 1039, 4281, 4282) = true := by decide +kernel
theorem ck_4_10 : okM (yX7_dayCount, cX7_dayCount, 2, (some .int), 7, 0, 1, kX7_dayCount) (4279, 1039, 4277, 4278) = true := by decide +kernel
