-- decode rows of J6
theorem dJ6_bitCount_0f7a4_0 : decode cJ6_bitCount_0f7a4 0 = .ok (.iload_n 0, 1) := by decide +kernel
theorem dJ6_bitCount_0f7a4_1 : decode cJ6_bitCount_0f7a4 1 = .ok (.iload_n 0, 1) := by decide +kernel
theorem dJ6_bitCount_0f7a4_2 : decode cJ6_bitCount_0f7a4 2 = .ok (.iconst 1, 1) := by decide +kernel
theorem dJ6_bitCount_0f7a4_3 : decode cJ6_bitCount_0f7a4 3 = .ok (.iushr, 1) := by decide +kernel
theorem dJ6_bitCount_0f7a4_4 : decode cJ6_bitCount_0f7a4 4 = .ok (.ldc_w 265, 3) := by decide +kernel
theorem dJ6_bitCount_0f7a4_7 : decode cJ6_bitCount_0f7a4 7 = .ok (.iand, 1) := by decide +kernel
theorem dJ6_bitCount_0f7a4_8 : decode cJ6_bitCount_0f7a4 8 = .ok (.isub, 1) := by decide +kernel
theorem dJ6_bitCount_0f7a4_9 : decode cJ6_bitCount_0f7a4 9 = .ok (.istore_n 0, 1) := by decide +kernel
theorem dJ6_bitCount_0f7a4_10 : decode cJ6_bitCount_0f7a4 10 = .ok (.iload_n 0, 1) := by decide +kernel
theorem dJ6_bitCount_0f7a4_11 : decode cJ6_bitCount_0f7a4 11 = .ok (.ldc_w 266, 3) := by decide +kernel
theorem dJ6_bitCount_0f7a4_14 : decode cJ6_bitCount_0f7a4 14 = .ok (.iand, 1) := by decide +kernel
theorem dJ6_bitCount_0f7a4_15 : decode cJ6_bitCount_0f7a4 15 = .ok (.iload_n 0, 1) := by decide +kernel
theorem dJ6_bitCount_0f7a4_16 : decode cJ6_bitCount_0f7a4 16 = .ok (.iconst 2, 1) := by decide +kernel
theorem dJ6_bitCount_0f7a4_17 : decode cJ6_bitCount_0f7a4 17 = .ok (.iushr, 1) := by decide +kernel
theorem dJ6_bitCount_0f7a4_18 : decode cJ6_bitCount_0f7a4 18 = .ok (.ldc_w 266, 3) := by decide +kernel
theorem dJ6_bitCount_0f7a4_21 : decode cJ6_bitCount_0f7a4 21 = .ok (.iand, 1) := by decide +kernel
theorem dJ6_bitCount_0f7a4_22 : decode cJ6_bitCount_0f7a4 22 = .ok (.iadd, 1) := by decide +kernel
theorem dJ6_bitCount_0f7a4_23 : decode cJ6_bitCount_0f7a4 23 = .ok (.istore_n 0, 1) := by decide +kernel
theorem dJ6_bitCount_0f7a4_24 : decode cJ6_bitCount_0f7a4 24 = .ok (.iload_n 0, 1) := by decide +kernel
theorem dJ6_bitCount_0f7a4_25 : decode cJ6_bitCount_0f7a4 25 = .ok (.iload_n 0, 1) := by decide +kernel
theorem dJ6_bitCount_0f7a4_26 : decode cJ6_bitCount_0f7a4 26 = .ok (.iconst 4, 1) := by decide +kernel
theorem dJ6_bitCount_0f7a4_27 : decode cJ6_bitCount_0f7a4 27 = .ok (.iushr, 1) := by decide +kernel
theorem dJ6_bitCount_0f7a4_28 : decode cJ6_bitCount_0f7a4 28 = .ok (.iadd, 1) := by decide +kernel
theorem dJ6_bitCount_0f7a4_29 : decode cJ6_bitCount_0f7a4 29 = .ok (.ldc_w 267, 3) := by decide +kernel
theorem dJ6_bitCount_0f7a4_32 : decode cJ6_bitCount_0f7a4 32 = .ok (.iand, 1) := by decide +kernel
theorem dJ6_bitCount_0f7a4_33 : decode cJ6_bitCount_0f7a4 33 = .ok (.istore_n 0, 1) := by decide +kernel
theorem dJ6_bitCount_0f7a4_34 : decode cJ6_bitCount_0f7a4 34 = .ok (.iload_n 0, 1) := by decide +kernel
theorem dJ6_bitCount_0f7a4_35 : decode cJ6_bitCount_0f7a4 35 = .ok (.iload_n 0, 1) := by decide +kernel
theorem dJ6_bitCount_0f7a4_36 : decode cJ6_bitCount_0f7a4 36 = .ok (.bipush 8, 2) := by decide +kernel
theorem dJ6_bitCount_0f7a4_38 : decode cJ6_bitCount_0f7a4 38 = .ok (.iushr, 1) := by decide +kernel
theorem dJ6_bitCount_0f7a4_39 : decode cJ6_bitCount_0f7a4 39 = .ok (.iadd, 1) := by decide +kernel
theorem dJ6_bitCount_0f7a4_40 : decode cJ6_bitCount_0f7a4 40 = .ok (.istore_n 0, 1) := by decide +kernel
theorem dJ6_bitCount_0f7a4_41 : decode cJ6_bitCount_0f7a4 41 = .ok (.iload_n 0, 1) := by decide +kernel
theorem dJ6_bitCount_0f7a4_42 : decode cJ6_bitCount_0f7a4 42 = .ok (.iload_n 0, 1) := by decide +kernel
theorem dJ6_bitCount_0f7a4_43 : decode cJ6_bitCount_0f7a4 43 = .ok (.bipush 16, 2) := by decide +kernel
theorem dJ6_bitCount_0f7a4_45 : decode cJ6_bitCount_0f7a4 45 = .ok (.iushr, 1) := by decide +kernel
theorem dJ6_bitCount_0f7a4_46 : decode cJ6_bitCount_0f7a4 46 = .ok (.iadd, 1) := by decide +kernel
theorem dJ6_bitCount_0f7a4_47 : decode cJ6_bitCount_0f7a4 47 = .ok (.istore_n 0, 1) := by decide +kernel
theorem dJ6_bitCount_0f7a4_48 : decode cJ6_bitCount_0f7a4 48 = .ok (.iload_n 0, 1) := by decide +kernel
theorem dJ6_bitCount_0f7a4_49 : decode cJ6_bitCount_0f7a4 49 = .ok (.bipush 63, 2) := by decide +kernel
theorem dJ6_bitCount_0f7a4_51 : decode cJ6_bitCount_0f7a4 51 = .ok (.iand, 1) := by decide +kernel
theorem dJ6_bitCount_0f7a4_52 : decode cJ6_bitCount_0f7a4 52 = .ok (.ireturn, 1) := by decide +kernel
-- decode rows of J9
theorem dJ9_floorMod_7cf53_0 : decode cJ9_floorMod_7cf53 0 = .ok (.iload_n 0, 1) := by decide +kernel
theorem dJ9_floorMod_7cf53_1 : decode cJ9_floorMod_7cf53 1 = .ok (.iload_n 1, 1) := by decide +kernel
theorem dJ9_floorMod_7cf53_2 : decode cJ9_floorMod_7cf53 2 = .ok (.irem, 1) := by decide +kernel
theorem dJ9_floorMod_7cf53_3 : decode cJ9_floorMod_7cf53 3 = .ok (.istore_n 2, 1) := by decide +kernel
theorem dJ9_floorMod_7cf53_4 : decode cJ9_floorMod_7cf53 4 = .ok (.iload_n 0, 1) := by decide +kernel
theorem dJ9_floorMod_7cf53_5 : decode cJ9_floorMod_7cf53 5 = .ok (.iload_n 1, 1) := by decide +kernel
theorem dJ9_floorMod_7cf53_6 : decode cJ9_floorMod_7cf53 6 = .ok (.ixor, 1) := by decide +kernel
theorem dJ9_floorMod_7cf53_7 : decode cJ9_floorMod_7cf53 7 = .ok (.ifCond .ge 11, 3) := by decide +kernel
theorem dJ9_floorMod_7cf53_10 : decode cJ9_floorMod_7cf53 10 = .ok (.iload_n 2, 1) := by decide +kernel
theorem dJ9_floorMod_7cf53_11 : decode cJ9_floorMod_7cf53 11 = .ok (.ifCond .eq 7, 3) := by decide +kernel
theorem dJ9_floorMod_7cf53_14 : decode cJ9_floorMod_7cf53 14 = .ok (.iload_n 2, 1) := by decide +kernel
theorem dJ9_floorMod_7cf53_15 : decode cJ9_floorMod_7cf53 15 = .ok (.iload_n 1, 1) := by decide +kernel
theorem dJ9_floorMod_7cf53_16 : decode cJ9_floorMod_7cf53 16 = .ok (.iadd, 1) := by decide +kernel
theorem dJ9_floorMod_7cf53_17 : decode cJ9_floorMod_7cf53 17 = .ok (.ireturn, 1) := by decide +kernel
theorem dJ9_floorMod_7cf53_18 : decode cJ9_floorMod_7cf53 18 = .ok (.iload_n 2, 1) := by decide +kernel
theorem dJ9_floorMod_7cf53_19 : decode cJ9_floorMod_7cf53 19 = .ok (.ireturn, 1) := by decide +kernel
theorem dJ9_max_7cf53_0 : decode cJ9_max_7cf53 0 = .ok (.iload_n 0, 1) := by decide +kernel
theorem dJ9_max_7cf53_1 : decode cJ9_max_7cf53 1 = .ok (.iload_n 1, 1) := by decide +kernel
theorem dJ9_max_7cf53_2 : decode cJ9_max_7cf53 2 = .ok (.if_icmp .lt 7, 3) := by decide +kernel
theorem dJ9_max_7cf53_5 : decode cJ9_max_7cf53 5 = .ok (.iload_n 0, 1) := by decide +kernel
theorem dJ9_max_7cf53_6 : decode cJ9_max_7cf53 6 = .ok (.goto 4, 3) := by decide +kernel
theorem dJ9_max_7cf53_9 : decode cJ9_max_7cf53 9 = .ok (.iload_n 1, 1) := by decide +kernel
theorem dJ9_max_7cf53_10 : decode cJ9_max_7cf53 10 = .ok (.ireturn, 1) := by decide +kernel
-- decode rows of L
theorem dL_setGround_0 : decode cL_setGround 0 = .ok (.aload 5, 2) := by decide +kernel
theorem dL_setGround_2 : decode cL_setGround 2 = .ok (.iconst 0, 1) := by decide +kernel
theorem dL_setGround_3 : decode cL_setGround 3 = .ok (.aload_n 0, 1) := by decide +kernel
theorem dL_setGround_4 : decode cL_setGround 4 = .ok (.iload_n 1, 1) := by decide +kernel
theorem dL_setGround_5 : decode cL_setGround 5 = .ok (.iload_n 2, 1) := by decide +kernel
theorem dL_setGround_6 : decode cL_setGround 6 = .ok (.iload_n 3, 1) := by decide +kernel
theorem dL_setGround_7 : decode cL_setGround 7 = .ok (.iload 4, 2) := by decide +kernel
theorem dL_setGround_9 : decode cL_setGround 9 = .ok (.invokevirtual 7, 3) := by decide +kernel
theorem dL_setGround_12 : decode cL_setGround 12 = .ok (.i2l, 1) := by decide +kernel
theorem dL_setGround_13 : decode cL_setGround 13 = .ok (.lastore, 1) := by decide +kernel
theorem dL_setGround_14 : decode cL_setGround 14 = .ok (.goto 11, 3) := by decide +kernel
theorem dL_setGround_17 : decode cL_setGround 17 = .ok (.astore 6, 2) := by decide +kernel
theorem dL_setGround_19 : decode cL_setGround 19 = .ok (.iconst 1, 1) := by decide +kernel
theorem dL_setGround_20 : decode cL_setGround 20 = .ok (.ireturn, 1) := by decide +kernel
theorem dL_setGround_21 : decode cL_setGround 21 = .ok (.astore 6, 2) := by decide +kernel
theorem dL_setGround_23 : decode cL_setGround 23 = .ok (.iconst 2, 1) := by decide +kernel
theorem dL_setGround_24 : decode cL_setGround 24 = .ok (.ireturn, 1) := by decide +kernel
theorem dL_setGround_25 : decode cL_setGround 25 = .ok (.iconst 0, 1) := by decide +kernel
theorem dL_setGround_26 : decode cL_setGround 26 = .ok (.ireturn, 1) := by decide +kernel
theorem dL_ditch_0 : decode cL_ditch 0 = .ok (.aload_n 3, 1) := by decide +kernel
theorem dL_ditch_1 : decode cL_ditch 1 = .ok (.iconst 0, 1) := by decide +kernel
theorem dL_ditch_2 : decode cL_ditch 2 = .ok (.aload_n 0, 1) := by decide +kernel
theorem dL_ditch_3 : decode cL_ditch 3 = .ok (.iload_n 1, 1) := by decide +kernel
theorem dL_ditch_4 : decode cL_ditch 4 = .ok (.iload_n 2, 1) := by decide +kernel
theorem dL_ditch_5 : decode cL_ditch 5 = .ok (.invokevirtual 17, 3) := by decide +kernel
theorem dL_ditch_8 : decode cL_ditch 8 = .ok (.ifCond .eq 7, 3) := by decide +kernel
theorem dL_ditch_11 : decode cL_ditch 11 = .ok (.lconst 1, 1) := by decide +kernel
theorem dL_ditch_12 : decode cL_ditch 12 = .ok (.goto 4, 3) := by decide +kernel
theorem dL_ditch_15 : decode cL_ditch 15 = .ok (.lconst 0, 1) := by decide +kernel
theorem dL_ditch_16 : decode cL_ditch 16 = .ok (.lastore, 1) := by decide +kernel
theorem dL_ditch_17 : decode cL_ditch 17 = .ok (.goto 7, 3) := by decide +kernel
theorem dL_ditch_20 : decode cL_ditch 20 = .ok (.astore 4, 2) := by decide +kernel
theorem dL_ditch_22 : decode cL_ditch 22 = .ok (.iconst 1, 1) := by decide +kernel
theorem dL_ditch_23 : decode cL_ditch 23 = .ok (.ireturn, 1) := by decide +kernel
theorem dL_ditch_24 : decode cL_ditch 24 = .ok (.iconst 0, 1) := by decide +kernel
theorem dL_ditch_25 : decode cL_ditch 25 = .ok (.ireturn, 1) := by decide +kernel
theorem dL_setNight_0 : decode cL_setNight 0 = .ok (.aload 5, 2) := by decide +kernel
theorem dL_setNight_2 : decode cL_setNight 2 = .ok (.iconst 0, 1) := by decide +kernel
theorem dL_setNight_3 : decode cL_setNight 3 = .ok (.aload_n 0, 1) := by decide +kernel
theorem dL_setNight_4 : decode cL_setNight 4 = .ok (.iload_n 1, 1) := by decide +kernel
theorem dL_setNight_5 : decode cL_setNight 5 = .ok (.iload_n 2, 1) := by decide +kernel
theorem dL_setNight_6 : decode cL_setNight 6 = .ok (.iload_n 3, 1) := by decide +kernel
theorem dL_setNight_7 : decode cL_setNight 7 = .ok (.iload 4, 2) := by decide +kernel
theorem dL_setNight_9 : decode cL_setNight 9 = .ok (.invokevirtual 21, 3) := by decide +kernel
theorem dL_setNight_12 : decode cL_setNight 12 = .ok (.i2l, 1) := by decide +kernel
theorem dL_setNight_13 : decode cL_setNight 13 = .ok (.lastore, 1) := by decide +kernel
theorem dL_setNight_14 : decode cL_setNight 14 = .ok (.goto 11, 3) := by decide +kernel
theorem dL_setNight_17 : decode cL_setNight 17 = .ok (.astore 6, 2) := by decide +kernel
theorem dL_setNight_19 : decode cL_setNight 19 = .ok (.iconst 1, 1) := by decide +kernel
theorem dL_setNight_20 : decode cL_setNight 20 = .ok (.ireturn, 1) := by decide +kernel
theorem dL_setNight_21 : decode cL_setNight 21 = .ok (.astore 6, 2) := by decide +kernel
theorem dL_setNight_23 : decode cL_setNight 23 = .ok (.iconst 2, 1) := by decide +kernel
theorem dL_setNight_24 : decode cL_setNight 24 = .ok (.ireturn, 1) := by decide +kernel
theorem dL_setNight_25 : decode cL_setNight 25 = .ok (.iconst 0, 1) := by decide +kernel
theorem dL_setNight_26 : decode cL_setNight 26 = .ok (.ireturn, 1) := by decide +kernel
theorem dL_drive_0 : decode cL_drive 0 = .ok (.aload_n 3, 1) := by decide +kernel
theorem dL_drive_1 : decode cL_drive 1 = .ok (.iconst 0, 1) := by decide +kernel
theorem dL_drive_2 : decode cL_drive 2 = .ok (.aload_n 0, 1) := by decide +kernel
theorem dL_drive_3 : decode cL_drive 3 = .ok (.iload_n 1, 1) := by decide +kernel
theorem dL_drive_4 : decode cL_drive 4 = .ok (.iload_n 2, 1) := by decide +kernel
theorem dL_drive_5 : decode cL_drive 5 = .ok (.invokevirtual 24, 3) := by decide +kernel
theorem dL_drive_8 : decode cL_drive 8 = .ok (.i2l, 1) := by decide +kernel
theorem dL_drive_9 : decode cL_drive 9 = .ok (.lastore, 1) := by decide +kernel
theorem dL_drive_10 : decode cL_drive 10 = .ok (.goto 11, 3) := by decide +kernel
theorem dL_drive_13 : decode cL_drive 13 = .ok (.astore 4, 2) := by decide +kernel
theorem dL_drive_15 : decode cL_drive 15 = .ok (.iconst 1, 1) := by decide +kernel
theorem dL_drive_16 : decode cL_drive 16 = .ok (.ireturn, 1) := by decide +kernel
theorem dL_drive_17 : decode cL_drive 17 = .ok (.astore 4, 2) := by decide +kernel
theorem dL_drive_19 : decode cL_drive 19 = .ok (.iconst 2, 1) := by decide +kernel
theorem dL_drive_20 : decode cL_drive 20 = .ok (.ireturn, 1) := by decide +kernel
theorem dL_drive_21 : decode cL_drive 21 = .ok (.iconst 0, 1) := by decide +kernel
theorem dL_drive_22 : decode cL_drive 22 = .ok (.ireturn, 1) := by decide +kernel
theorem dL_again_0 : decode cL_again 0 = .ok (.aload_n 2, 1) := by decide +kernel
theorem dL_again_1 : decode cL_again 1 = .ok (.iconst 0, 1) := by decide +kernel
theorem dL_again_2 : decode cL_again 2 = .ok (.aload_n 0, 1) := by decide +kernel
theorem dL_again_3 : decode cL_again 3 = .ok (.iload_n 1, 1) := by decide +kernel
theorem dL_again_4 : decode cL_again 4 = .ok (.invokevirtual 30, 3) := by decide +kernel
theorem dL_again_7 : decode cL_again 7 = .ok (.i2l, 1) := by decide +kernel
theorem dL_again_8 : decode cL_again 8 = .ok (.lastore, 1) := by decide +kernel
theorem dL_again_9 : decode cL_again 9 = .ok (.goto 9, 3) := by decide +kernel
theorem dL_again_12 : decode cL_again 12 = .ok (.astore_n 3, 1) := by decide +kernel
theorem dL_again_13 : decode cL_again 13 = .ok (.iconst 1, 1) := by decide +kernel
theorem dL_again_14 : decode cL_again 14 = .ok (.ireturn, 1) := by decide +kernel
theorem dL_again_15 : decode cL_again 15 = .ok (.astore_n 3, 1) := by decide +kernel
theorem dL_again_16 : decode cL_again 16 = .ok (.iconst 2, 1) := by decide +kernel
theorem dL_again_17 : decode cL_again 17 = .ok (.ireturn, 1) := by decide +kernel
theorem dL_again_18 : decode cL_again 18 = .ok (.iconst 0, 1) := by decide +kernel
theorem dL_again_19 : decode cL_again 19 = .ok (.ireturn, 1) := by decide +kernel
theorem dL_pitch_0 : decode cL_pitch 0 = .ok (.aload 4, 2) := by decide +kernel
theorem dL_pitch_2 : decode cL_pitch 2 = .ok (.iconst 0, 1) := by decide +kernel
theorem dL_pitch_3 : decode cL_pitch 3 = .ok (.aload_n 0, 1) := by decide +kernel
theorem dL_pitch_4 : decode cL_pitch 4 = .ok (.iload_n 1, 1) := by decide +kernel
theorem dL_pitch_5 : decode cL_pitch 5 = .ok (.iload_n 2, 1) := by decide +kernel
theorem dL_pitch_6 : decode cL_pitch 6 = .ok (.iload_n 3, 1) := by decide +kernel
theorem dL_pitch_7 : decode cL_pitch 7 = .ok (.invokevirtual 34, 3) := by decide +kernel
theorem dL_pitch_10 : decode cL_pitch 10 = .ok (.i2l, 1) := by decide +kernel
theorem dL_pitch_11 : decode cL_pitch 11 = .ok (.lastore, 1) := by decide +kernel
theorem dL_pitch_12 : decode cL_pitch 12 = .ok (.goto 15, 3) := by decide +kernel
theorem dL_pitch_15 : decode cL_pitch 15 = .ok (.astore 5, 2) := by decide +kernel
theorem dL_pitch_17 : decode cL_pitch 17 = .ok (.iconst 1, 1) := by decide +kernel
theorem dL_pitch_18 : decode cL_pitch 18 = .ok (.ireturn, 1) := by decide +kernel
theorem dL_pitch_19 : decode cL_pitch 19 = .ok (.astore 5, 2) := by decide +kernel
theorem dL_pitch_21 : decode cL_pitch 21 = .ok (.iconst 2, 1) := by decide +kernel
theorem dL_pitch_22 : decode cL_pitch 22 = .ok (.ireturn, 1) := by decide +kernel
theorem dL_pitch_23 : decode cL_pitch 23 = .ok (.astore 5, 2) := by decide +kernel
theorem dL_pitch_25 : decode cL_pitch 25 = .ok (.iconst 3, 1) := by decide +kernel
theorem dL_pitch_26 : decode cL_pitch 26 = .ok (.ireturn, 1) := by decide +kernel
theorem dL_pitch_27 : decode cL_pitch 27 = .ok (.iconst 0, 1) := by decide +kernel
theorem dL_pitch_28 : decode cL_pitch 28 = .ok (.ireturn, 1) := by decide +kernel
theorem dL_raise_0 : decode cL_raise 0 = .ok (.aload_n 2, 1) := by decide +kernel
theorem dL_raise_1 : decode cL_raise 1 = .ok (.iconst 0, 1) := by decide +kernel
theorem dL_raise_2 : decode cL_raise 2 = .ok (.aload_n 0, 1) := by decide +kernel
theorem dL_raise_3 : decode cL_raise 3 = .ok (.iload_n 1, 1) := by decide +kernel
theorem dL_raise_4 : decode cL_raise 4 = .ok (.invokevirtual 38, 3) := by decide +kernel
theorem dL_raise_7 : decode cL_raise 7 = .ok (.i2l, 1) := by decide +kernel
theorem dL_raise_8 : decode cL_raise 8 = .ok (.lastore, 1) := by decide +kernel
theorem dL_raise_9 : decode cL_raise 9 = .ok (.goto 9, 3) := by decide +kernel
theorem dL_raise_12 : decode cL_raise 12 = .ok (.astore_n 3, 1) := by decide +kernel
theorem dL_raise_13 : decode cL_raise 13 = .ok (.iconst 1, 1) := by decide +kernel
theorem dL_raise_14 : decode cL_raise 14 = .ok (.ireturn, 1) := by decide +kernel
theorem dL_raise_15 : decode cL_raise 15 = .ok (.astore_n 3, 1) := by decide +kernel
theorem dL_raise_16 : decode cL_raise 16 = .ok (.iconst 2, 1) := by decide +kernel
theorem dL_raise_17 : decode cL_raise 17 = .ok (.ireturn, 1) := by decide +kernel
theorem dL_raise_18 : decode cL_raise 18 = .ok (.iconst 0, 1) := by decide +kernel
theorem dL_raise_19 : decode cL_raise 19 = .ok (.ireturn, 1) := by decide +kernel
theorem dL_tie_0 : decode cL_tie 0 = .ok (.aload_n 3, 1) := by decide +kernel
theorem dL_tie_1 : decode cL_tie 1 = .ok (.iconst 0, 1) := by decide +kernel
theorem dL_tie_2 : decode cL_tie 2 = .ok (.aload_n 0, 1) := by decide +kernel
theorem dL_tie_3 : decode cL_tie 3 = .ok (.iload_n 1, 1) := by decide +kernel
theorem dL_tie_4 : decode cL_tie 4 = .ok (.iload_n 2, 1) := by decide +kernel
theorem dL_tie_5 : decode cL_tie 5 = .ok (.invokevirtual 41, 3) := by decide +kernel
theorem dL_tie_8 : decode cL_tie 8 = .ok (.i2l, 1) := by decide +kernel
theorem dL_tie_9 : decode cL_tie 9 = .ok (.lastore, 1) := by decide +kernel
theorem dL_tie_10 : decode cL_tie 10 = .ok (.goto 11, 3) := by decide +kernel
theorem dL_tie_13 : decode cL_tie 13 = .ok (.astore 4, 2) := by decide +kernel
theorem dL_tie_15 : decode cL_tie 15 = .ok (.iconst 1, 1) := by decide +kernel
theorem dL_tie_16 : decode cL_tie 16 = .ok (.ireturn, 1) := by decide +kernel
theorem dL_tie_17 : decode cL_tie 17 = .ok (.astore 4, 2) := by decide +kernel
theorem dL_tie_19 : decode cL_tie 19 = .ok (.iconst 2, 1) := by decide +kernel
theorem dL_tie_20 : decode cL_tie 20 = .ok (.ireturn, 1) := by decide +kernel
theorem dL_tie_21 : decode cL_tie 21 = .ok (.iconst 0, 1) := by decide +kernel
theorem dL_tie_22 : decode cL_tie 22 = .ok (.ireturn, 1) := by decide +kernel
theorem dL_ground_0 : decode cL_ground 0 = .ok (.aload 4, 2) := by decide +kernel
theorem dL_ground_2 : decode cL_ground 2 = .ok (.iconst 0, 1) := by decide +kernel
theorem dL_ground_3 : decode cL_ground 3 = .ok (.aload_n 0, 1) := by decide +kernel
theorem dL_ground_4 : decode cL_ground 4 = .ok (.iload_n 1, 1) := by decide +kernel
theorem dL_ground_5 : decode cL_ground 5 = .ok (.iload_n 2, 1) := by decide +kernel
theorem dL_ground_6 : decode cL_ground 6 = .ok (.iload_n 3, 1) := by decide +kernel
theorem dL_ground_7 : decode cL_ground 7 = .ok (.invokevirtual 44, 3) := by decide +kernel
theorem dL_ground_10 : decode cL_ground 10 = .ok (.i2l, 1) := by decide +kernel
theorem dL_ground_11 : decode cL_ground 11 = .ok (.lastore, 1) := by decide +kernel
theorem dL_ground_12 : decode cL_ground 12 = .ok (.goto 7, 3) := by decide +kernel
theorem dL_ground_15 : decode cL_ground 15 = .ok (.astore 5, 2) := by decide +kernel
theorem dL_ground_17 : decode cL_ground 17 = .ok (.iconst 1, 1) := by decide +kernel
theorem dL_ground_18 : decode cL_ground 18 = .ok (.ireturn, 1) := by decide +kernel
theorem dL_ground_19 : decode cL_ground 19 = .ok (.iconst 0, 1) := by decide +kernel
theorem dL_ground_20 : decode cL_ground 20 = .ok (.ireturn, 1) := by decide +kernel
theorem dL_peg_0 : decode cL_peg 0 = .ok (.aload_n 3, 1) := by decide +kernel
theorem dL_peg_1 : decode cL_peg 1 = .ok (.iconst 0, 1) := by decide +kernel
theorem dL_peg_2 : decode cL_peg 2 = .ok (.aload_n 0, 1) := by decide +kernel
theorem dL_peg_3 : decode cL_peg 3 = .ok (.iload_n 1, 1) := by decide +kernel
theorem dL_peg_4 : decode cL_peg 4 = .ok (.iload_n 2, 1) := by decide +kernel
theorem dL_peg_5 : decode cL_peg 5 = .ok (.invokevirtual 47, 3) := by decide +kernel
theorem dL_peg_8 : decode cL_peg 8 = .ok (.i2l, 1) := by decide +kernel
theorem dL_peg_9 : decode cL_peg 9 = .ok (.lastore, 1) := by decide +kernel
theorem dL_peg_10 : decode cL_peg 10 = .ok (.goto 7, 3) := by decide +kernel
theorem dL_peg_13 : decode cL_peg 13 = .ok (.astore 4, 2) := by decide +kernel
theorem dL_peg_15 : decode cL_peg 15 = .ok (.iconst 1, 1) := by decide +kernel
theorem dL_peg_16 : decode cL_peg 16 = .ok (.ireturn, 1) := by decide +kernel
theorem dL_peg_17 : decode cL_peg 17 = .ok (.iconst 0, 1) := by decide +kernel
theorem dL_peg_18 : decode cL_peg 18 = .ok (.ireturn, 1) := by decide +kernel
theorem dL_tent_0 : decode cL_tent 0 = .ok (.aload_n 3, 1) := by decide +kernel
theorem dL_tent_1 : decode cL_tent 1 = .ok (.iconst 0, 1) := by decide +kernel
theorem dL_tent_2 : decode cL_tent 2 = .ok (.aload_n 0, 1) := by decide +kernel
theorem dL_tent_3 : decode cL_tent 3 = .ok (.iload_n 1, 1) := by decide +kernel
theorem dL_tent_4 : decode cL_tent 4 = .ok (.iload_n 2, 1) := by decide +kernel
theorem dL_tent_5 : decode cL_tent 5 = .ok (.invokevirtual 50, 3) := by decide +kernel
theorem dL_tent_8 : decode cL_tent 8 = .ok (.i2l, 1) := by decide +kernel
theorem dL_tent_9 : decode cL_tent 9 = .ok (.lastore, 1) := by decide +kernel
theorem dL_tent_10 : decode cL_tent 10 = .ok (.goto 7, 3) := by decide +kernel
theorem dL_tent_13 : decode cL_tent 13 = .ok (.astore 4, 2) := by decide +kernel
theorem dL_tent_15 : decode cL_tent 15 = .ok (.iconst 1, 1) := by decide +kernel
theorem dL_tent_16 : decode cL_tent 16 = .ok (.ireturn, 1) := by decide +kernel
theorem dL_tent_17 : decode cL_tent 17 = .ok (.iconst 0, 1) := by decide +kernel
theorem dL_tent_18 : decode cL_tent 18 = .ok (.ireturn, 1) := by decide +kernel
theorem dL_count_0 : decode cL_count 0 = .ok (.aload_n 2, 1) := by decide +kernel
theorem dL_count_1 : decode cL_count 1 = .ok (.iconst 0, 1) := by decide +kernel
theorem dL_count_2 : decode cL_count 2 = .ok (.aload_n 0, 1) := by decide +kernel
theorem dL_count_3 : decode cL_count 3 = .ok (.iload_n 1, 1) := by decide +kernel
theorem dL_count_4 : decode cL_count 4 = .ok (.invokevirtual 53, 3) := by decide +kernel
theorem dL_count_7 : decode cL_count 7 = .ok (.i2l, 1) := by decide +kernel
theorem dL_count_8 : decode cL_count 8 = .ok (.lastore, 1) := by decide +kernel
theorem dL_count_9 : decode cL_count 9 = .ok (.goto 6, 3) := by decide +kernel
theorem dL_count_12 : decode cL_count 12 = .ok (.astore_n 3, 1) := by decide +kernel
theorem dL_count_13 : decode cL_count 13 = .ok (.iconst 1, 1) := by decide +kernel
theorem dL_count_14 : decode cL_count 14 = .ok (.ireturn, 1) := by decide +kernel
theorem dL_count_15 : decode cL_count 15 = .ok (.iconst 0, 1) := by decide +kernel
theorem dL_count_16 : decode cL_count 16 = .ok (.ireturn, 1) := by decide +kernel
theorem dL_holds_0 : decode cL_holds 0 = .ok (.aload 4, 2) := by decide +kernel
theorem dL_holds_2 : decode cL_holds 2 = .ok (.iconst 0, 1) := by decide +kernel
theorem dL_holds_3 : decode cL_holds 3 = .ok (.aload_n 0, 1) := by decide +kernel
theorem dL_holds_4 : decode cL_holds 4 = .ok (.iload_n 1, 1) := by decide +kernel
theorem dL_holds_5 : decode cL_holds 5 = .ok (.iload_n 2, 1) := by decide +kernel
theorem dL_holds_6 : decode cL_holds 6 = .ok (.iload_n 3, 1) := by decide +kernel
theorem dL_holds_7 : decode cL_holds 7 = .ok (.invokevirtual 56, 3) := by decide +kernel
theorem dL_holds_10 : decode cL_holds 10 = .ok (.i2l, 1) := by decide +kernel
theorem dL_holds_11 : decode cL_holds 11 = .ok (.lastore, 1) := by decide +kernel
theorem dL_holds_12 : decode cL_holds 12 = .ok (.goto 11, 3) := by decide +kernel
theorem dL_holds_15 : decode cL_holds 15 = .ok (.astore 5, 2) := by decide +kernel
theorem dL_holds_17 : decode cL_holds 17 = .ok (.iconst 1, 1) := by decide +kernel
theorem dL_holds_18 : decode cL_holds 18 = .ok (.ireturn, 1) := by decide +kernel
theorem dL_holds_19 : decode cL_holds 19 = .ok (.astore 5, 2) := by decide +kernel
theorem dL_holds_21 : decode cL_holds 21 = .ok (.iconst 2, 1) := by decide +kernel
theorem dL_holds_22 : decode cL_holds 22 = .ok (.ireturn, 1) := by decide +kernel
theorem dL_holds_23 : decode cL_holds 23 = .ok (.iconst 0, 1) := by decide +kernel
theorem dL_holds_24 : decode cL_holds 24 = .ok (.ireturn, 1) := by decide +kernel
theorem dL_storm_0 : decode cL_storm 0 = .ok (.aload 4, 2) := by decide +kernel
theorem dL_storm_2 : decode cL_storm 2 = .ok (.iconst 0, 1) := by decide +kernel
theorem dL_storm_3 : decode cL_storm 3 = .ok (.aload_n 0, 1) := by decide +kernel
theorem dL_storm_4 : decode cL_storm 4 = .ok (.iload_n 1, 1) := by decide +kernel
theorem dL_storm_5 : decode cL_storm 5 = .ok (.iload_n 2, 1) := by decide +kernel
theorem dL_storm_6 : decode cL_storm 6 = .ok (.iload_n 3, 1) := by decide +kernel
theorem dL_storm_7 : decode cL_storm 7 = .ok (.invokevirtual 59, 3) := by decide +kernel
theorem dL_storm_10 : decode cL_storm 10 = .ok (.i2l, 1) := by decide +kernel
theorem dL_storm_11 : decode cL_storm 11 = .ok (.lastore, 1) := by decide +kernel
theorem dL_storm_12 : decode cL_storm 12 = .ok (.goto 11, 3) := by decide +kernel
theorem dL_storm_15 : decode cL_storm 15 = .ok (.astore 5, 2) := by decide +kernel
theorem dL_storm_17 : decode cL_storm 17 = .ok (.iconst 1, 1) := by decide +kernel
theorem dL_storm_18 : decode cL_storm 18 = .ok (.ireturn, 1) := by decide +kernel
theorem dL_storm_19 : decode cL_storm 19 = .ok (.astore 5, 2) := by decide +kernel
theorem dL_storm_21 : decode cL_storm 21 = .ok (.iconst 2, 1) := by decide +kernel
theorem dL_storm_22 : decode cL_storm 22 = .ok (.ireturn, 1) := by decide +kernel
theorem dL_storm_23 : decode cL_storm 23 = .ok (.iconst 0, 1) := by decide +kernel
theorem dL_storm_24 : decode cL_storm 24 = .ok (.ireturn, 1) := by decide +kernel
theorem dL_bears_0 : decode cL_bears 0 = .ok (.aload_n 2, 1) := by decide +kernel
theorem dL_bears_1 : decode cL_bears 1 = .ok (.iconst 0, 1) := by decide +kernel
theorem dL_bears_2 : decode cL_bears 2 = .ok (.aload_n 0, 1) := by decide +kernel
theorem dL_bears_3 : decode cL_bears 3 = .ok (.iload_n 1, 1) := by decide +kernel
theorem dL_bears_4 : decode cL_bears 4 = .ok (.invokevirtual 62, 3) := by decide +kernel
theorem dL_bears_7 : decode cL_bears 7 = .ok (.i2l, 1) := by decide +kernel
theorem dL_bears_8 : decode cL_bears 8 = .ok (.lastore, 1) := by decide +kernel
theorem dL_bears_9 : decode cL_bears 9 = .ok (.goto 6, 3) := by decide +kernel
theorem dL_bears_12 : decode cL_bears 12 = .ok (.astore_n 3, 1) := by decide +kernel
theorem dL_bears_13 : decode cL_bears 13 = .ok (.iconst 1, 1) := by decide +kernel
theorem dL_bears_14 : decode cL_bears 14 = .ok (.ireturn, 1) := by decide +kernel
theorem dL_bears_15 : decode cL_bears 15 = .ok (.iconst 0, 1) := by decide +kernel
theorem dL_bears_16 : decode cL_bears 16 = .ok (.ireturn, 1) := by decide +kernel
theorem dL_flood_0 : decode cL_flood 0 = .ok (.aload 4, 2) := by decide +kernel
theorem dL_flood_2 : decode cL_flood 2 = .ok (.iconst 0, 1) := by decide +kernel
theorem dL_flood_3 : decode cL_flood 3 = .ok (.aload_n 0, 1) := by decide +kernel
theorem dL_flood_4 : decode cL_flood 4 = .ok (.iload_n 1, 1) := by decide +kernel
theorem dL_flood_5 : decode cL_flood 5 = .ok (.iload_n 2, 1) := by decide +kernel
theorem dL_flood_6 : decode cL_flood 6 = .ok (.iload_n 3, 1) := by decide +kernel
theorem dL_flood_7 : decode cL_flood 7 = .ok (.invokevirtual 65, 3) := by decide +kernel
theorem dL_flood_10 : decode cL_flood 10 = .ok (.i2l, 1) := by decide +kernel
theorem dL_flood_11 : decode cL_flood 11 = .ok (.lastore, 1) := by decide +kernel
theorem dL_flood_12 : decode cL_flood 12 = .ok (.goto 11, 3) := by decide +kernel
theorem dL_flood_15 : decode cL_flood 15 = .ok (.astore 5, 2) := by decide +kernel
theorem dL_flood_17 : decode cL_flood 17 = .ok (.iconst 1, 1) := by decide +kernel
theorem dL_flood_18 : decode cL_flood 18 = .ok (.ireturn, 1) := by decide +kernel
theorem dL_flood_19 : decode cL_flood 19 = .ok (.astore 5, 2) := by decide +kernel
theorem dL_flood_21 : decode cL_flood 21 = .ok (.iconst 2, 1) := by decide +kernel
theorem dL_flood_22 : decode cL_flood 22 = .ok (.ireturn, 1) := by decide +kernel
theorem dL_flood_23 : decode cL_flood 23 = .ok (.iconst 0, 1) := by decide +kernel
theorem dL_flood_24 : decode cL_flood 24 = .ok (.ireturn, 1) := by decide +kernel
theorem dL_advise_0 : decode cL_advise 0 = .ok (.aload_n 3, 1) := by decide +kernel
theorem dL_advise_1 : decode cL_advise 1 = .ok (.iconst 0, 1) := by decide +kernel
theorem dL_advise_2 : decode cL_advise 2 = .ok (.aload_n 0, 1) := by decide +kernel
theorem dL_advise_3 : decode cL_advise 3 = .ok (.iload_n 1, 1) := by decide +kernel
theorem dL_advise_4 : decode cL_advise 4 = .ok (.iload_n 2, 1) := by decide +kernel
theorem dL_advise_5 : decode cL_advise 5 = .ok (.invokevirtual 68, 3) := by decide +kernel
theorem dL_advise_8 : decode cL_advise 8 = .ok (.i2l, 1) := by decide +kernel
theorem dL_advise_9 : decode cL_advise 9 = .ok (.lastore, 1) := by decide +kernel
theorem dL_advise_10 : decode cL_advise 10 = .ok (.goto 11, 3) := by decide +kernel
theorem dL_advise_13 : decode cL_advise 13 = .ok (.astore 4, 2) := by decide +kernel
theorem dL_advise_15 : decode cL_advise 15 = .ok (.iconst 1, 1) := by decide +kernel
theorem dL_advise_16 : decode cL_advise 16 = .ok (.ireturn, 1) := by decide +kernel
theorem dL_advise_17 : decode cL_advise 17 = .ok (.astore 4, 2) := by decide +kernel
theorem dL_advise_19 : decode cL_advise 19 = .ok (.iconst 2, 1) := by decide +kernel
theorem dL_advise_20 : decode cL_advise 20 = .ok (.ireturn, 1) := by decide +kernel
theorem dL_advise_21 : decode cL_advise 21 = .ok (.iconst 0, 1) := by decide +kernel
theorem dL_advise_22 : decode cL_advise 22 = .ok (.ireturn, 1) := by decide +kernel
theorem dL_pass_0 : decode cL_pass 0 = .ok (.aload_n 2, 1) := by decide +kernel
theorem dL_pass_1 : decode cL_pass 1 = .ok (.iconst 0, 1) := by decide +kernel
theorem dL_pass_2 : decode cL_pass 2 = .ok (.aload_n 0, 1) := by decide +kernel
theorem dL_pass_3 : decode cL_pass 3 = .ok (.iload_n 1, 1) := by decide +kernel
theorem dL_pass_4 : decode cL_pass 4 = .ok (.invokevirtual 71, 3) := by decide +kernel
theorem dL_pass_7 : decode cL_pass 7 = .ok (.i2l, 1) := by decide +kernel
theorem dL_pass_8 : decode cL_pass 8 = .ok (.lastore, 1) := by decide +kernel
theorem dL_pass_9 : decode cL_pass 9 = .ok (.goto 6, 3) := by decide +kernel
theorem dL_pass_12 : decode cL_pass 12 = .ok (.astore_n 3, 1) := by decide +kernel
theorem dL_pass_13 : decode cL_pass 13 = .ok (.iconst 1, 1) := by decide +kernel
theorem dL_pass_14 : decode cL_pass 14 = .ok (.ireturn, 1) := by decide +kernel
theorem dL_pass_15 : decode cL_pass 15 = .ok (.iconst 0, 1) := by decide +kernel
theorem dL_pass_16 : decode cL_pass 16 = .ok (.ireturn, 1) := by decide +kernel
theorem dL_foresee_0 : decode cL_foresee 0 = .ok (.aload_n 3, 1) := by decide +kernel
theorem dL_foresee_1 : decode cL_foresee 1 = .ok (.iconst 0, 1) := by decide +kernel
theorem dL_foresee_2 : decode cL_foresee 2 = .ok (.aload_n 0, 1) := by decide +kernel
theorem dL_foresee_3 : decode cL_foresee 3 = .ok (.iload_n 1, 1) := by decide +kernel
theorem dL_foresee_4 : decode cL_foresee 4 = .ok (.iload_n 2, 1) := by decide +kernel
theorem dL_foresee_5 : decode cL_foresee 5 = .ok (.invokevirtual 74, 3) := by decide +kernel
theorem dL_foresee_8 : decode cL_foresee 8 = .ok (.i2l, 1) := by decide +kernel
theorem dL_foresee_9 : decode cL_foresee 9 = .ok (.lastore, 1) := by decide +kernel
theorem dL_foresee_10 : decode cL_foresee 10 = .ok (.goto 11, 3) := by decide +kernel
theorem dL_foresee_13 : decode cL_foresee 13 = .ok (.astore 4, 2) := by decide +kernel
theorem dL_foresee_15 : decode cL_foresee 15 = .ok (.iconst 1, 1) := by decide +kernel
theorem dL_foresee_16 : decode cL_foresee 16 = .ok (.ireturn, 1) := by decide +kernel
theorem dL_foresee_17 : decode cL_foresee 17 = .ok (.astore 4, 2) := by decide +kernel
theorem dL_foresee_19 : decode cL_foresee 19 = .ok (.iconst 2, 1) := by decide +kernel
theorem dL_foresee_20 : decode cL_foresee 20 = .ok (.ireturn, 1) := by decide +kernel
theorem dL_foresee_21 : decode cL_foresee 21 = .ok (.iconst 0, 1) := by decide +kernel
theorem dL_foresee_22 : decode cL_foresee 22 = .ok (.ireturn, 1) := by decide +kernel
theorem dL_law_0 : decode cL_law 0 = .ok (.new 8, 3) := by decide +kernel
theorem dL_law_3 : decode cL_law 3 = .ok (.dup, 1) := by decide +kernel
theorem dL_law_4 : decode cL_law 4 = .ok (.invokespecial 77, 3) := by decide +kernel
theorem dL_law_7 : decode cL_law 7 = .ok (.astore_n 1, 1) := by decide +kernel
theorem dL_law_8 : decode cL_law 8 = .ok (.new 78, 3) := by decide +kernel
theorem dL_law_11 : decode cL_law 11 = .ok (.dup, 1) := by decide +kernel
theorem dL_law_12 : decode cL_law 12 = .ok (.invokespecial 80, 3) := by decide +kernel
theorem dL_law_15 : decode cL_law 15 = .ok (.astore_n 2, 1) := by decide +kernel
theorem dL_law_16 : decode cL_law 16 = .ok (.iconst 1, 1) := by decide +kernel
theorem dL_law_17 : decode cL_law 17 = .ok (.newarray .long, 2) := by decide +kernel
theorem dL_law_19 : decode cL_law 19 = .ok (.astore_n 3, 1) := by decide +kernel
theorem dL_law_20 : decode cL_law 20 = .ok (.iconst 0, 1) := by decide +kernel
theorem dL_law_21 : decode cL_law 21 = .ok (.istore 4, 2) := by decide +kernel
theorem dL_law_23 : decode cL_law 23 = .ok (.iload 4, 2) := by decide +kernel
theorem dL_law_25 : decode cL_law 25 = .ok (.aload_n 0, 1) := by decide +kernel
theorem dL_law_26 : decode cL_law 26 = .ok (.arraylength, 1) := by decide +kernel
theorem dL_law_27 : decode cL_law 27 = .ok (.iconst 5, 1) := by decide +kernel
theorem dL_law_28 : decode cL_law 28 = .ok (.isub, 1) := by decide +kernel
theorem dL_law_29 : decode cL_law 29 = .ok (.if_icmp .gt 1515, 3) := by decide +kernel
theorem dL_law_32 : decode cL_law 32 = .ok (.aload_n 0, 1) := by decide +kernel
theorem dL_law_33 : decode cL_law 33 = .ok (.iload 4, 2) := by decide +kernel
theorem dL_law_35 : decode cL_law 35 = .ok (.iaload, 1) := by decide +kernel
theorem dL_law_36 : decode cL_law 36 = .ok (.bipush 31, 2) := by decide +kernel
theorem dL_law_38 : decode cL_law 38 = .ok (.iand, 1) := by decide +kernel
theorem dL_law_39 : decode cL_law 39 = .ok (.tableswitch 1499 0 20 #[97, 189, 264, 356, 424, 480, 560, 616, 684, 764, 832, 900, 956, 1036, 1116, 1172, 1252, 1320, 1376, 1444, 1485], 97) := by decide +kernel
theorem dL_law_136 : decode cL_law 136 = .ok (.aload_n 1, 1) := by decide +kernel
theorem dL_law_137 : decode cL_law 137 = .ok (.aload_n 0, 1) := by decide +kernel
theorem dL_law_138 : decode cL_law 138 = .ok (.iload 4, 2) := by decide +kernel
theorem dL_law_140 : decode cL_law 140 = .ok (.iconst 1, 1) := by decide +kernel
theorem dL_law_141 : decode cL_law 141 = .ok (.iadd, 1) := by decide +kernel
theorem dL_law_142 : decode cL_law 142 = .ok (.iaload, 1) := by decide +kernel
theorem dL_law_143 : decode cL_law 143 = .ok (.aload_n 0, 1) := by decide +kernel
theorem dL_law_144 : decode cL_law 144 = .ok (.iload 4, 2) := by decide +kernel
theorem dL_law_146 : decode cL_law 146 = .ok (.iconst 2, 1) := by decide +kernel
theorem dL_law_147 : decode cL_law 147 = .ok (.iadd, 1) := by decide +kernel
theorem dL_law_148 : decode cL_law 148 = .ok (.iaload, 1) := by decide +kernel
theorem dL_law_149 : decode cL_law 149 = .ok (.aload_n 0, 1) := by decide +kernel
theorem dL_law_150 : decode cL_law 150 = .ok (.iload 4, 2) := by decide +kernel
theorem dL_law_152 : decode cL_law 152 = .ok (.iconst 3, 1) := by decide +kernel
theorem dL_law_153 : decode cL_law 153 = .ok (.iadd, 1) := by decide +kernel
theorem dL_law_154 : decode cL_law 154 = .ok (.iaload, 1) := by decide +kernel
theorem dL_law_155 : decode cL_law 155 = .ok (.aload_n 0, 1) := by decide +kernel
theorem dL_law_156 : decode cL_law 156 = .ok (.iload 4, 2) := by decide +kernel
theorem dL_law_158 : decode cL_law 158 = .ok (.iconst 4, 1) := by decide +kernel
theorem dL_law_159 : decode cL_law 159 = .ok (.iadd, 1) := by decide +kernel
theorem dL_law_160 : decode cL_law 160 = .ok (.iaload, 1) := by decide +kernel
theorem dL_law_161 : decode cL_law 161 = .ok (.aload_n 3, 1) := by decide +kernel
theorem dL_law_162 : decode cL_law 162 = .ok (.invokestatic 81, 3) := by decide +kernel
theorem dL_law_165 : decode cL_law 165 = .ok (.istore 5, 2) := by decide +kernel
theorem dL_law_167 : decode cL_law 167 = .ok (.aload_n 2, 1) := by decide +kernel
theorem dL_law_168 : decode cL_law 168 = .ok (.aload_n 0, 1) := by decide +kernel
theorem dL_law_169 : decode cL_law 169 = .ok (.iload 4, 2) := by decide +kernel
theorem dL_law_171 : decode cL_law 171 = .ok (.iconst 1, 1) := by decide +kernel
theorem dL_law_172 : decode cL_law 172 = .ok (.iadd, 1) := by decide +kernel
theorem dL_law_173 : decode cL_law 173 = .ok (.iaload, 1) := by decide +kernel
theorem dL_law_174 : decode cL_law 174 = .ok (.aload_n 0, 1) := by decide +kernel
theorem dL_law_175 : decode cL_law 175 = .ok (.iload 4, 2) := by decide +kernel
theorem dL_law_177 : decode cL_law 177 = .ok (.iconst 2, 1) := by decide +kernel
theorem dL_law_178 : decode cL_law 178 = .ok (.iadd, 1) := by decide +kernel
theorem dL_law_179 : decode cL_law 179 = .ok (.iaload, 1) := by decide +kernel
theorem dL_law_180 : decode cL_law 180 = .ok (.aload_n 0, 1) := by decide +kernel
theorem dL_law_181 : decode cL_law 181 = .ok (.iload 4, 2) := by decide +kernel
theorem dL_law_183 : decode cL_law 183 = .ok (.iconst 3, 1) := by decide +kernel
theorem dL_law_184 : decode cL_law 184 = .ok (.iadd, 1) := by decide +kernel
theorem dL_law_185 : decode cL_law 185 = .ok (.iaload, 1) := by decide +kernel
theorem dL_law_186 : decode cL_law 186 = .ok (.aload_n 0, 1) := by decide +kernel
theorem dL_law_187 : decode cL_law 187 = .ok (.iload 4, 2) := by decide +kernel
theorem dL_law_189 : decode cL_law 189 = .ok (.iconst 4, 1) := by decide +kernel
theorem dL_law_190 : decode cL_law 190 = .ok (.iadd, 1) := by decide +kernel
theorem dL_law_191 : decode cL_law 191 = .ok (.iaload, 1) := by decide +kernel
theorem dL_law_192 : decode cL_law 192 = .ok (.invokevirtual 86, 3) := by decide +kernel
theorem dL_law_195 : decode cL_law 195 = .ok (.istore 6, 2) := by decide +kernel
theorem dL_law_197 : decode cL_law 197 = .ok (.aload_n 2, 1) := by decide +kernel
theorem dL_law_198 : decode cL_law 198 = .ok (.invokevirtual 87, 3) := by decide +kernel
theorem dL_law_201 : decode cL_law 201 = .ok (.iload 5, 2) := by decide +kernel
theorem dL_law_203 : decode cL_law 203 = .ok (.if_icmp .eq 5, 3) := by decide +kernel
theorem dL_law_206 : decode cL_law 206 = .ok (.iconst 0, 1) := by decide +kernel
theorem dL_law_207 : decode cL_law 207 = .ok (.ireturn, 1) := by decide +kernel
theorem dL_law_208 : decode cL_law 208 = .ok (.iload 5, 2) := by decide +kernel
theorem dL_law_210 : decode cL_law 210 = .ok (.ifCond .ne 15, 3) := by decide +kernel
theorem dL_law_213 : decode cL_law 213 = .ok (.aload_n 3, 1) := by decide +kernel
theorem dL_law_214 : decode cL_law 214 = .ok (.iconst 0, 1) := by decide +kernel
theorem dL_law_215 : decode cL_law 215 = .ok (.laload, 1) := by decide +kernel
theorem dL_law_216 : decode cL_law 216 = .ok (.iload 6, 2) := by decide +kernel
theorem dL_law_218 : decode cL_law 218 = .ok (.i2l, 1) := by decide +kernel
theorem dL_law_219 : decode cL_law 219 = .ok (.lcmp, 1) := by decide +kernel
theorem dL_law_220 : decode cL_law 220 = .ok (.ifCond .eq 5, 3) := by decide +kernel
theorem dL_law_223 : decode cL_law 223 = .ok (.iconst 0, 1) := by decide +kernel
theorem dL_law_224 : decode cL_law 224 = .ok (.ireturn, 1) := by decide +kernel
theorem dL_law_225 : decode cL_law 225 = .ok (.goto 1313, 3) := by decide +kernel
theorem dL_law_228 : decode cL_law 228 = .ok (.aload_n 1, 1) := by decide +kernel
theorem dL_law_229 : decode cL_law 229 = .ok (.aload_n 0, 1) := by decide +kernel
theorem dL_law_230 : decode cL_law 230 = .ok (.iload 4, 2) := by decide +kernel
theorem dL_law_232 : decode cL_law 232 = .ok (.iconst 1, 1) := by decide +kernel
theorem dL_law_233 : decode cL_law 233 = .ok (.iadd, 1) := by decide +kernel
theorem dL_law_234 : decode cL_law 234 = .ok (.iaload, 1) := by decide +kernel
theorem dL_law_235 : decode cL_law 235 = .ok (.aload_n 0, 1) := by decide +kernel
theorem dL_law_236 : decode cL_law 236 = .ok (.iload 4, 2) := by decide +kernel
theorem dL_law_238 : decode cL_law 238 = .ok (.iconst 2, 1) := by decide +kernel
theorem dL_law_239 : decode cL_law 239 = .ok (.iadd, 1) := by decide +kernel
theorem dL_law_240 : decode cL_law 240 = .ok (.iaload, 1) := by decide +kernel
theorem dL_law_241 : decode cL_law 241 = .ok (.aload_n 3, 1) := by decide +kernel
theorem dL_law_242 : decode cL_law 242 = .ok (.invokestatic 91, 3) := by decide +kernel
theorem dL_law_245 : decode cL_law 245 = .ok (.istore 5, 2) := by decide +kernel
theorem dL_law_247 : decode cL_law 247 = .ok (.aload_n 2, 1) := by decide +kernel
theorem dL_law_248 : decode cL_law 248 = .ok (.aload_n 0, 1) := by decide +kernel
theorem dL_law_249 : decode cL_law 249 = .ok (.iload 4, 2) := by decide +kernel
theorem dL_law_251 : decode cL_law 251 = .ok (.iconst 1, 1) := by decide +kernel
theorem dL_law_252 : decode cL_law 252 = .ok (.iadd, 1) := by decide +kernel
theorem dL_law_253 : decode cL_law 253 = .ok (.iaload, 1) := by decide +kernel
theorem dL_law_254 : decode cL_law 254 = .ok (.aload_n 0, 1) := by decide +kernel
theorem dL_law_255 : decode cL_law 255 = .ok (.iload 4, 2) := by decide +kernel
theorem dL_law_257 : decode cL_law 257 = .ok (.iconst 2, 1) := by decide +kernel
theorem dL_law_258 : decode cL_law 258 = .ok (.iadd, 1) := by decide +kernel
theorem dL_law_259 : decode cL_law 259 = .ok (.iaload, 1) := by decide +kernel
theorem dL_law_260 : decode cL_law 260 = .ok (.invokevirtual 94, 3) := by decide +kernel
theorem dL_law_263 : decode cL_law 263 = .ok (.istore 6, 2) := by decide +kernel
theorem dL_law_265 : decode cL_law 265 = .ok (.aload_n 2, 1) := by decide +kernel
theorem dL_law_266 : decode cL_law 266 = .ok (.invokevirtual 87, 3) := by decide +kernel
theorem dL_law_269 : decode cL_law 269 = .ok (.iload 5, 2) := by decide +kernel
theorem dL_law_271 : decode cL_law 271 = .ok (.if_icmp .eq 5, 3) := by decide +kernel
theorem dL_law_274 : decode cL_law 274 = .ok (.iconst 0, 1) := by decide +kernel
theorem dL_law_275 : decode cL_law 275 = .ok (.ireturn, 1) := by decide +kernel
theorem dL_law_276 : decode cL_law 276 = .ok (.iload 5, 2) := by decide +kernel
theorem dL_law_278 : decode cL_law 278 = .ok (.ifCond .ne 22, 3) := by decide +kernel
theorem dL_law_281 : decode cL_law 281 = .ok (.aload_n 3, 1) := by decide +kernel
theorem dL_law_282 : decode cL_law 282 = .ok (.iconst 0, 1) := by decide +kernel
theorem dL_law_283 : decode cL_law 283 = .ok (.laload, 1) := by decide +kernel
theorem dL_law_284 : decode cL_law 284 = .ok (.iload 6, 2) := by decide +kernel
theorem dL_law_286 : decode cL_law 286 = .ok (.ifCond .eq 7, 3) := by decide +kernel
theorem dL_law_289 : decode cL_law 289 = .ok (.lconst 1, 1) := by decide +kernel
theorem dL_law_290 : decode cL_law 290 = .ok (.goto 4, 3) := by decide +kernel
theorem dL_law_293 : decode cL_law 293 = .ok (.lconst 0, 1) := by decide +kernel
theorem dL_law_294 : decode cL_law 294 = .ok (.lcmp, 1) := by decide +kernel
theorem dL_law_295 : decode cL_law 295 = .ok (.ifCond .eq 5, 3) := by decide +kernel
theorem dL_law_298 : decode cL_law 298 = .ok (.iconst 0, 1) := by decide +kernel
theorem dL_law_299 : decode cL_law 299 = .ok (.ireturn, 1) := by decide +kernel
theorem dL_law_300 : decode cL_law 300 = .ok (.goto 1238, 3) := by decide +kernel
theorem dL_law_303 : decode cL_law 303 = .ok (.aload_n 1, 1) := by decide +kernel
theorem dL_law_304 : decode cL_law 304 = .ok (.aload_n 0, 1) := by decide +kernel
theorem dL_law_305 : decode cL_law 305 = .ok (.iload 4, 2) := by decide +kernel
theorem dL_law_307 : decode cL_law 307 = .ok (.iconst 1, 1) := by decide +kernel
theorem dL_law_308 : decode cL_law 308 = .ok (.iadd, 1) := by decide +kernel
theorem dL_law_309 : decode cL_law 309 = .ok (.iaload, 1) := by decide +kernel
theorem dL_law_310 : decode cL_law 310 = .ok (.aload_n 0, 1) := by decide +kernel
theorem dL_law_311 : decode cL_law 311 = .ok (.iload 4, 2) := by decide +kernel
theorem dL_law_313 : decode cL_law 313 = .ok (.iconst 2, 1) := by decide +kernel
theorem dL_law_314 : decode cL_law 314 = .ok (.iadd, 1) := by decide +kernel
theorem dL_law_315 : decode cL_law 315 = .ok (.iaload, 1) := by decide +kernel
theorem dL_law_316 : decode cL_law 316 = .ok (.aload_n 0, 1) := by decide +kernel
theorem dL_law_317 : decode cL_law 317 = .ok (.iload 4, 2) := by decide +kernel
theorem dL_law_319 : decode cL_law 319 = .ok (.iconst 3, 1) := by decide +kernel
theorem dL_law_320 : decode cL_law 320 = .ok (.iadd, 1) := by decide +kernel
theorem dL_law_321 : decode cL_law 321 = .ok (.iaload, 1) := by decide +kernel
theorem dL_law_322 : decode cL_law 322 = .ok (.aload_n 0, 1) := by decide +kernel
theorem dL_law_323 : decode cL_law 323 = .ok (.iload 4, 2) := by decide +kernel
theorem dL_law_325 : decode cL_law 325 = .ok (.iconst 4, 1) := by decide +kernel
theorem dL_law_326 : decode cL_law 326 = .ok (.iadd, 1) := by decide +kernel
theorem dL_law_327 : decode cL_law 327 = .ok (.iaload, 1) := by decide +kernel
theorem dL_law_328 : decode cL_law 328 = .ok (.aload_n 3, 1) := by decide +kernel
theorem dL_law_329 : decode cL_law 329 = .ok (.invokestatic 95, 3) := by decide +kernel
theorem dL_law_332 : decode cL_law 332 = .ok (.istore 5, 2) := by decide +kernel
theorem dL_law_334 : decode cL_law 334 = .ok (.aload_n 2, 1) := by decide +kernel
theorem dL_law_335 : decode cL_law 335 = .ok (.aload_n 0, 1) := by decide +kernel
theorem dL_law_336 : decode cL_law 336 = .ok (.iload 4, 2) := by decide +kernel
theorem dL_law_338 : decode cL_law 338 = .ok (.iconst 1, 1) := by decide +kernel
theorem dL_law_339 : decode cL_law 339 = .ok (.iadd, 1) := by decide +kernel
theorem dL_law_340 : decode cL_law 340 = .ok (.iaload, 1) := by decide +kernel
theorem dL_law_341 : decode cL_law 341 = .ok (.aload_n 0, 1) := by decide +kernel
theorem dL_law_342 : decode cL_law 342 = .ok (.iload 4, 2) := by decide +kernel
theorem dL_law_344 : decode cL_law 344 = .ok (.iconst 2, 1) := by decide +kernel
theorem dL_law_345 : decode cL_law 345 = .ok (.iadd, 1) := by decide +kernel
theorem dL_law_346 : decode cL_law 346 = .ok (.iaload, 1) := by decide +kernel
theorem dL_law_347 : decode cL_law 347 = .ok (.aload_n 0, 1) := by decide +kernel
theorem dL_law_348 : decode cL_law 348 = .ok (.iload 4, 2) := by decide +kernel
theorem dL_law_350 : decode cL_law 350 = .ok (.iconst 3, 1) := by decide +kernel
theorem dL_law_351 : decode cL_law 351 = .ok (.iadd, 1) := by decide +kernel
theorem dL_law_352 : decode cL_law 352 = .ok (.iaload, 1) := by decide +kernel
theorem dL_law_353 : decode cL_law 353 = .ok (.aload_n 0, 1) := by decide +kernel
theorem dL_law_354 : decode cL_law 354 = .ok (.iload 4, 2) := by decide +kernel
theorem dL_law_356 : decode cL_law 356 = .ok (.iconst 4, 1) := by decide +kernel
theorem dL_law_357 : decode cL_law 357 = .ok (.iadd, 1) := by decide +kernel
theorem dL_law_358 : decode cL_law 358 = .ok (.iaload, 1) := by decide +kernel
theorem dL_law_359 : decode cL_law 359 = .ok (.invokevirtual 97, 3) := by decide +kernel
theorem dL_law_362 : decode cL_law 362 = .ok (.istore 6, 2) := by decide +kernel
theorem dL_law_364 : decode cL_law 364 = .ok (.aload_n 2, 1) := by decide +kernel
theorem dL_law_365 : decode cL_law 365 = .ok (.invokevirtual 87, 3) := by decide +kernel
theorem dL_law_368 : decode cL_law 368 = .ok (.iload 5, 2) := by decide +kernel
theorem dL_law_370 : decode cL_law 370 = .ok (.if_icmp .eq 5, 3) := by decide +kernel
theorem dL_law_373 : decode cL_law 373 = .ok (.iconst 0, 1) := by decide +kernel
theorem dL_law_374 : decode cL_law 374 = .ok (.ireturn, 1) := by decide +kernel
theorem dL_law_375 : decode cL_law 375 = .ok (.iload 5, 2) := by decide +kernel
theorem dL_law_377 : decode cL_law 377 = .ok (.ifCond .ne 15, 3) := by decide +kernel
theorem dL_law_380 : decode cL_law 380 = .ok (.aload_n 3, 1) := by decide +kernel
theorem dL_law_381 : decode cL_law 381 = .ok (.iconst 0, 1) := by decide +kernel
theorem dL_law_382 : decode cL_law 382 = .ok (.laload, 1) := by decide +kernel
theorem dL_law_383 : decode cL_law 383 = .ok (.iload 6, 2) := by decide +kernel
theorem dL_law_385 : decode cL_law 385 = .ok (.i2l, 1) := by decide +kernel
theorem dL_law_386 : decode cL_law 386 = .ok (.lcmp, 1) := by decide +kernel
theorem dL_law_387 : decode cL_law 387 = .ok (.ifCond .eq 5, 3) := by decide +kernel
theorem dL_law_390 : decode cL_law 390 = .ok (.iconst 0, 1) := by decide +kernel
theorem dL_law_391 : decode cL_law 391 = .ok (.ireturn, 1) := by decide +kernel
theorem dL_law_392 : decode cL_law 392 = .ok (.goto 1146, 3) := by decide +kernel
theorem dL_law_395 : decode cL_law 395 = .ok (.aload_n 1, 1) := by decide +kernel
theorem dL_law_396 : decode cL_law 396 = .ok (.aload_n 0, 1) := by decide +kernel
theorem dL_law_397 : decode cL_law 397 = .ok (.iload 4, 2) := by decide +kernel
theorem dL_law_399 : decode cL_law 399 = .ok (.iconst 1, 1) := by decide +kernel
theorem dL_law_400 : decode cL_law 400 = .ok (.iadd, 1) := by decide +kernel
theorem dL_law_401 : decode cL_law 401 = .ok (.iaload, 1) := by decide +kernel
theorem dL_law_402 : decode cL_law 402 = .ok (.aload_n 0, 1) := by decide +kernel
theorem dL_law_403 : decode cL_law 403 = .ok (.iload 4, 2) := by decide +kernel
theorem dL_law_405 : decode cL_law 405 = .ok (.iconst 2, 1) := by decide +kernel
theorem dL_law_406 : decode cL_law 406 = .ok (.iadd, 1) := by decide +kernel
theorem dL_law_407 : decode cL_law 407 = .ok (.iaload, 1) := by decide +kernel
theorem dL_law_408 : decode cL_law 408 = .ok (.aload_n 3, 1) := by decide +kernel
theorem dL_law_409 : decode cL_law 409 = .ok (.invokestatic 98, 3) := by decide +kernel
theorem dL_law_412 : decode cL_law 412 = .ok (.istore 5, 2) := by decide +kernel
theorem dL_law_414 : decode cL_law 414 = .ok (.aload_n 2, 1) := by decide +kernel
theorem dL_law_415 : decode cL_law 415 = .ok (.aload_n 0, 1) := by decide +kernel
theorem dL_law_416 : decode cL_law 416 = .ok (.iload 4, 2) := by decide +kernel
theorem dL_law_418 : decode cL_law 418 = .ok (.iconst 1, 1) := by decide +kernel
theorem dL_law_419 : decode cL_law 419 = .ok (.iadd, 1) := by decide +kernel
theorem dL_law_420 : decode cL_law 420 = .ok (.iaload, 1) := by decide +kernel
theorem dL_law_421 : decode cL_law 421 = .ok (.aload_n 0, 1) := by decide +kernel
theorem dL_law_422 : decode cL_law 422 = .ok (.iload 4, 2) := by decide +kernel
theorem dL_law_424 : decode cL_law 424 = .ok (.iconst 2, 1) := by decide +kernel
theorem dL_law_425 : decode cL_law 425 = .ok (.iadd, 1) := by decide +kernel
theorem dL_law_426 : decode cL_law 426 = .ok (.iaload, 1) := by decide +kernel
theorem dL_law_427 : decode cL_law 427 = .ok (.invokevirtual 100, 3) := by decide +kernel
theorem dL_law_430 : decode cL_law 430 = .ok (.istore 6, 2) := by decide +kernel
theorem dL_law_432 : decode cL_law 432 = .ok (.aload_n 2, 1) := by decide +kernel
theorem dL_law_433 : decode cL_law 433 = .ok (.invokevirtual 87, 3) := by decide +kernel
theorem dL_law_436 : decode cL_law 436 = .ok (.iload 5, 2) := by decide +kernel
theorem dL_law_438 : decode cL_law 438 = .ok (.if_icmp .eq 5, 3) := by decide +kernel
theorem dL_law_441 : decode cL_law 441 = .ok (.iconst 0, 1) := by decide +kernel
theorem dL_law_442 : decode cL_law 442 = .ok (.ireturn, 1) := by decide +kernel
theorem dL_law_443 : decode cL_law 443 = .ok (.iload 5, 2) := by decide +kernel
theorem dL_law_445 : decode cL_law 445 = .ok (.ifCond .ne 15, 3) := by decide +kernel
theorem dL_law_448 : decode cL_law 448 = .ok (.aload_n 3, 1) := by decide +kernel
theorem dL_law_449 : decode cL_law 449 = .ok (.iconst 0, 1) := by decide +kernel
theorem dL_law_450 : decode cL_law 450 = .ok (.laload, 1) := by decide +kernel
theorem dL_law_451 : decode cL_law 451 = .ok (.iload 6, 2) := by decide +kernel
theorem dL_law_453 : decode cL_law 453 = .ok (.i2l, 1) := by decide +kernel
theorem dL_law_454 : decode cL_law 454 = .ok (.lcmp, 1) := by decide +kernel
theorem dL_law_455 : decode cL_law 455 = .ok (.ifCond .eq 5, 3) := by decide +kernel
theorem dL_law_458 : decode cL_law 458 = .ok (.iconst 0, 1) := by decide +kernel
theorem dL_law_459 : decode cL_law 459 = .ok (.ireturn, 1) := by decide +kernel
theorem dL_law_460 : decode cL_law 460 = .ok (.goto 1078, 3) := by decide +kernel
theorem dL_law_463 : decode cL_law 463 = .ok (.aload_n 1, 1) := by decide +kernel
theorem dL_law_464 : decode cL_law 464 = .ok (.aload_n 0, 1) := by decide +kernel
theorem dL_law_465 : decode cL_law 465 = .ok (.iload 4, 2) := by decide +kernel
theorem dL_law_467 : decode cL_law 467 = .ok (.iconst 1, 1) := by decide +kernel
theorem dL_law_468 : decode cL_law 468 = .ok (.iadd, 1) := by decide +kernel
theorem dL_law_469 : decode cL_law 469 = .ok (.iaload, 1) := by decide +kernel
theorem dL_law_470 : decode cL_law 470 = .ok (.aload_n 3, 1) := by decide +kernel
theorem dL_law_471 : decode cL_law 471 = .ok (.invokestatic 101, 3) := by decide +kernel
theorem dL_law_474 : decode cL_law 474 = .ok (.istore 5, 2) := by decide +kernel
theorem dL_law_476 : decode cL_law 476 = .ok (.aload_n 2, 1) := by decide +kernel
theorem dL_law_477 : decode cL_law 477 = .ok (.aload_n 0, 1) := by decide +kernel
theorem dL_law_478 : decode cL_law 478 = .ok (.iload 4, 2) := by decide +kernel
theorem dL_law_480 : decode cL_law 480 = .ok (.iconst 1, 1) := by decide +kernel
theorem dL_law_481 : decode cL_law 481 = .ok (.iadd, 1) := by decide +kernel
theorem dL_law_482 : decode cL_law 482 = .ok (.iaload, 1) := by decide +kernel
theorem dL_law_483 : decode cL_law 483 = .ok (.invokevirtual 104, 3) := by decide +kernel
theorem dL_law_486 : decode cL_law 486 = .ok (.istore 6, 2) := by decide +kernel
theorem dL_law_488 : decode cL_law 488 = .ok (.aload_n 2, 1) := by decide +kernel
theorem dL_law_489 : decode cL_law 489 = .ok (.invokevirtual 87, 3) := by decide +kernel
theorem dL_law_492 : decode cL_law 492 = .ok (.iload 5, 2) := by decide +kernel
theorem dL_law_494 : decode cL_law 494 = .ok (.if_icmp .eq 5, 3) := by decide +kernel
theorem dL_law_497 : decode cL_law 497 = .ok (.iconst 0, 1) := by decide +kernel
theorem dL_law_498 : decode cL_law 498 = .ok (.ireturn, 1) := by decide +kernel
theorem dL_law_499 : decode cL_law 499 = .ok (.iload 5, 2) := by decide +kernel
theorem dL_law_501 : decode cL_law 501 = .ok (.ifCond .ne 15, 3) := by decide +kernel
theorem dL_law_504 : decode cL_law 504 = .ok (.aload_n 3, 1) := by decide +kernel
theorem dL_law_505 : decode cL_law 505 = .ok (.iconst 0, 1) := by decide +kernel
theorem dL_law_506 : decode cL_law 506 = .ok (.laload, 1) := by decide +kernel
theorem dL_law_507 : decode cL_law 507 = .ok (.iload 6, 2) := by decide +kernel
theorem dL_law_509 : decode cL_law 509 = .ok (.i2l, 1) := by decide +kernel
theorem dL_law_510 : decode cL_law 510 = .ok (.lcmp, 1) := by decide +kernel
theorem dL_law_511 : decode cL_law 511 = .ok (.ifCond .eq 5, 3) := by decide +kernel
theorem dL_law_514 : decode cL_law 514 = .ok (.iconst 0, 1) := by decide +kernel
theorem dL_law_515 : decode cL_law 515 = .ok (.ireturn, 1) := by decide +kernel
theorem dL_law_516 : decode cL_law 516 = .ok (.goto 1022, 3) := by decide +kernel
theorem dL_law_519 : decode cL_law 519 = .ok (.aload_n 1, 1) := by decide +kernel
theorem dL_law_520 : decode cL_law 520 = .ok (.aload_n 0, 1) := by decide +kernel
theorem dL_law_521 : decode cL_law 521 = .ok (.iload 4, 2) := by decide +kernel
theorem dL_law_523 : decode cL_law 523 = .ok (.iconst 1, 1) := by decide +kernel
theorem dL_law_524 : decode cL_law 524 = .ok (.iadd, 1) := by decide +kernel
theorem dL_law_525 : decode cL_law 525 = .ok (.iaload, 1) := by decide +kernel
theorem dL_law_526 : decode cL_law 526 = .ok (.aload_n 0, 1) := by decide +kernel
theorem dL_law_527 : decode cL_law 527 = .ok (.iload 4, 2) := by decide +kernel
theorem dL_law_529 : decode cL_law 529 = .ok (.iconst 2, 1) := by decide +kernel
theorem dL_law_530 : decode cL_law 530 = .ok (.iadd, 1) := by decide +kernel
theorem dL_law_531 : decode cL_law 531 = .ok (.iaload, 1) := by decide +kernel
theorem dL_law_532 : decode cL_law 532 = .ok (.aload_n 0, 1) := by decide +kernel
theorem dL_law_533 : decode cL_law 533 = .ok (.iload 4, 2) := by decide +kernel
theorem dL_law_535 : decode cL_law 535 = .ok (.iconst 3, 1) := by decide +kernel
theorem dL_law_536 : decode cL_law 536 = .ok (.iadd, 1) := by decide +kernel
theorem dL_law_537 : decode cL_law 537 = .ok (.iaload, 1) := by decide +kernel
theorem dL_law_538 : decode cL_law 538 = .ok (.aload_n 3, 1) := by decide +kernel
theorem dL_law_539 : decode cL_law 539 = .ok (.invokestatic 105, 3) := by decide +kernel
theorem dL_law_542 : decode cL_law 542 = .ok (.istore 5, 2) := by decide +kernel
theorem dL_law_544 : decode cL_law 544 = .ok (.aload_n 2, 1) := by decide +kernel
theorem dL_law_545 : decode cL_law 545 = .ok (.aload_n 0, 1) := by decide +kernel
theorem dL_law_546 : decode cL_law 546 = .ok (.iload 4, 2) := by decide +kernel
theorem dL_law_548 : decode cL_law 548 = .ok (.iconst 1, 1) := by decide +kernel
theorem dL_law_549 : decode cL_law 549 = .ok (.iadd, 1) := by decide +kernel
theorem dL_law_550 : decode cL_law 550 = .ok (.iaload, 1) := by decide +kernel
theorem dL_law_551 : decode cL_law 551 = .ok (.aload_n 0, 1) := by decide +kernel
theorem dL_law_552 : decode cL_law 552 = .ok (.iload 4, 2) := by decide +kernel
theorem dL_law_554 : decode cL_law 554 = .ok (.iconst 2, 1) := by decide +kernel
theorem dL_law_555 : decode cL_law 555 = .ok (.iadd, 1) := by decide +kernel
theorem dL_law_556 : decode cL_law 556 = .ok (.iaload, 1) := by decide +kernel
theorem dL_law_557 : decode cL_law 557 = .ok (.aload_n 0, 1) := by decide +kernel
theorem dL_law_558 : decode cL_law 558 = .ok (.iload 4, 2) := by decide +kernel
theorem dL_law_560 : decode cL_law 560 = .ok (.iconst 3, 1) := by decide +kernel
theorem dL_law_561 : decode cL_law 561 = .ok (.iadd, 1) := by decide +kernel
theorem dL_law_562 : decode cL_law 562 = .ok (.iaload, 1) := by decide +kernel
theorem dL_law_563 : decode cL_law 563 = .ok (.invokevirtual 108, 3) := by decide +kernel
theorem dL_law_566 : decode cL_law 566 = .ok (.istore 6, 2) := by decide +kernel
theorem dL_law_568 : decode cL_law 568 = .ok (.aload_n 2, 1) := by decide +kernel
theorem dL_law_569 : decode cL_law 569 = .ok (.invokevirtual 87, 3) := by decide +kernel
theorem dL_law_572 : decode cL_law 572 = .ok (.iload 5, 2) := by decide +kernel
theorem dL_law_574 : decode cL_law 574 = .ok (.if_icmp .eq 5, 3) := by decide +kernel
theorem dL_law_577 : decode cL_law 577 = .ok (.iconst 0, 1) := by decide +kernel
theorem dL_law_578 : decode cL_law 578 = .ok (.ireturn, 1) := by decide +kernel
theorem dL_law_579 : decode cL_law 579 = .ok (.iload 5, 2) := by decide +kernel
theorem dL_law_581 : decode cL_law 581 = .ok (.ifCond .ne 15, 3) := by decide +kernel
theorem dL_law_584 : decode cL_law 584 = .ok (.aload_n 3, 1) := by decide +kernel
theorem dL_law_585 : decode cL_law 585 = .ok (.iconst 0, 1) := by decide +kernel
theorem dL_law_586 : decode cL_law 586 = .ok (.laload, 1) := by decide +kernel
theorem dL_law_587 : decode cL_law 587 = .ok (.iload 6, 2) := by decide +kernel
theorem dL_law_589 : decode cL_law 589 = .ok (.i2l, 1) := by decide +kernel
theorem dL_law_590 : decode cL_law 590 = .ok (.lcmp, 1) := by decide +kernel
theorem dL_law_591 : decode cL_law 591 = .ok (.ifCond .eq 5, 3) := by decide +kernel
theorem dL_law_594 : decode cL_law 594 = .ok (.iconst 0, 1) := by decide +kernel
theorem dL_law_595 : decode cL_law 595 = .ok (.ireturn, 1) := by decide +kernel
theorem dL_law_596 : decode cL_law 596 = .ok (.goto 942, 3) := by decide +kernel
theorem dL_law_599 : decode cL_law 599 = .ok (.aload_n 1, 1) := by decide +kernel
theorem dL_law_600 : decode cL_law 600 = .ok (.aload_n 0, 1) := by decide +kernel
theorem dL_law_601 : decode cL_law 601 = .ok (.iload 4, 2) := by decide +kernel
theorem dL_law_603 : decode cL_law 603 = .ok (.iconst 1, 1) := by decide +kernel
theorem dL_law_604 : decode cL_law 604 = .ok (.iadd, 1) := by decide +kernel
theorem dL_law_605 : decode cL_law 605 = .ok (.iaload, 1) := by decide +kernel
theorem dL_law_606 : decode cL_law 606 = .ok (.aload_n 3, 1) := by decide +kernel
theorem dL_law_607 : decode cL_law 607 = .ok (.invokestatic 109, 3) := by decide +kernel
theorem dL_law_610 : decode cL_law 610 = .ok (.istore 5, 2) := by decide +kernel
theorem dL_law_612 : decode cL_law 612 = .ok (.aload_n 2, 1) := by decide +kernel
theorem dL_law_613 : decode cL_law 613 = .ok (.aload_n 0, 1) := by decide +kernel
theorem dL_law_614 : decode cL_law 614 = .ok (.iload 4, 2) := by decide +kernel
theorem dL_law_616 : decode cL_law 616 = .ok (.iconst 1, 1) := by decide +kernel
theorem dL_law_617 : decode cL_law 617 = .ok (.iadd, 1) := by decide +kernel
theorem dL_law_618 : decode cL_law 618 = .ok (.iaload, 1) := by decide +kernel
theorem dL_law_619 : decode cL_law 619 = .ok (.invokevirtual 111, 3) := by decide +kernel
theorem dL_law_622 : decode cL_law 622 = .ok (.istore 6, 2) := by decide +kernel
theorem dL_law_624 : decode cL_law 624 = .ok (.aload_n 2, 1) := by decide +kernel
theorem dL_law_625 : decode cL_law 625 = .ok (.invokevirtual 87, 3) := by decide +kernel
theorem dL_law_628 : decode cL_law 628 = .ok (.iload 5, 2) := by decide +kernel
theorem dL_law_630 : decode cL_law 630 = .ok (.if_icmp .eq 5, 3) := by decide +kernel
theorem dL_law_633 : decode cL_law 633 = .ok (.iconst 0, 1) := by decide +kernel
theorem dL_law_634 : decode cL_law 634 = .ok (.ireturn, 1) := by decide +kernel
theorem dL_law_635 : decode cL_law 635 = .ok (.iload 5, 2) := by decide +kernel
theorem dL_law_637 : decode cL_law 637 = .ok (.ifCond .ne 15, 3) := by decide +kernel
theorem dL_law_640 : decode cL_law 640 = .ok (.aload_n 3, 1) := by decide +kernel
theorem dL_law_641 : decode cL_law 641 = .ok (.iconst 0, 1) := by decide +kernel
theorem dL_law_642 : decode cL_law 642 = .ok (.laload, 1) := by decide +kernel
theorem dL_law_643 : decode cL_law 643 = .ok (.iload 6, 2) := by decide +kernel
theorem dL_law_645 : decode cL_law 645 = .ok (.i2l, 1) := by decide +kernel
theorem dL_law_646 : decode cL_law 646 = .ok (.lcmp, 1) := by decide +kernel
theorem dL_law_647 : decode cL_law 647 = .ok (.ifCond .eq 5, 3) := by decide +kernel
theorem dL_law_650 : decode cL_law 650 = .ok (.iconst 0, 1) := by decide +kernel
theorem dL_law_651 : decode cL_law 651 = .ok (.ireturn, 1) := by decide +kernel
theorem dL_law_652 : decode cL_law 652 = .ok (.goto 886, 3) := by decide +kernel
theorem dL_law_655 : decode cL_law 655 = .ok (.aload_n 1, 1) := by decide +kernel
theorem dL_law_656 : decode cL_law 656 = .ok (.aload_n 0, 1) := by decide +kernel
theorem dL_law_657 : decode cL_law 657 = .ok (.iload 4, 2) := by decide +kernel
theorem dL_law_659 : decode cL_law 659 = .ok (.iconst 1, 1) := by decide +kernel
theorem dL_law_660 : decode cL_law 660 = .ok (.iadd, 1) := by decide +kernel
theorem dL_law_661 : decode cL_law 661 = .ok (.iaload, 1) := by decide +kernel
theorem dL_law_662 : decode cL_law 662 = .ok (.aload_n 0, 1) := by decide +kernel
theorem dL_law_663 : decode cL_law 663 = .ok (.iload 4, 2) := by decide +kernel
theorem dL_law_665 : decode cL_law 665 = .ok (.iconst 2, 1) := by decide +kernel
theorem dL_law_666 : decode cL_law 666 = .ok (.iadd, 1) := by decide +kernel
theorem dL_law_667 : decode cL_law 667 = .ok (.iaload, 1) := by decide +kernel
theorem dL_law_668 : decode cL_law 668 = .ok (.aload_n 3, 1) := by decide +kernel
theorem dL_law_669 : decode cL_law 669 = .ok (.invokestatic 112, 3) := by decide +kernel
theorem dL_law_672 : decode cL_law 672 = .ok (.istore 5, 2) := by decide +kernel
theorem dL_law_674 : decode cL_law 674 = .ok (.aload_n 2, 1) := by decide +kernel
theorem dL_law_675 : decode cL_law 675 = .ok (.aload_n 0, 1) := by decide +kernel
theorem dL_law_676 : decode cL_law 676 = .ok (.iload 4, 2) := by decide +kernel
theorem dL_law_678 : decode cL_law 678 = .ok (.iconst 1, 1) := by decide +kernel
theorem dL_law_679 : decode cL_law 679 = .ok (.iadd, 1) := by decide +kernel
theorem dL_law_680 : decode cL_law 680 = .ok (.iaload, 1) := by decide +kernel
theorem dL_law_681 : decode cL_law 681 = .ok (.aload_n 0, 1) := by decide +kernel
theorem dL_law_682 : decode cL_law 682 = .ok (.iload 4, 2) := by decide +kernel
theorem dL_law_684 : decode cL_law 684 = .ok (.iconst 2, 1) := by decide +kernel
theorem dL_law_685 : decode cL_law 685 = .ok (.iadd, 1) := by decide +kernel
theorem dL_law_686 : decode cL_law 686 = .ok (.iaload, 1) := by decide +kernel
theorem dL_law_687 : decode cL_law 687 = .ok (.invokevirtual 114, 3) := by decide +kernel
theorem dL_law_690 : decode cL_law 690 = .ok (.istore 6, 2) := by decide +kernel
theorem dL_law_692 : decode cL_law 692 = .ok (.aload_n 2, 1) := by decide +kernel
theorem dL_law_693 : decode cL_law 693 = .ok (.invokevirtual 87, 3) := by decide +kernel
theorem dL_law_696 : decode cL_law 696 = .ok (.iload 5, 2) := by decide +kernel
theorem dL_law_698 : decode cL_law 698 = .ok (.if_icmp .eq 5, 3) := by decide +kernel
theorem dL_law_701 : decode cL_law 701 = .ok (.iconst 0, 1) := by decide +kernel
theorem dL_law_702 : decode cL_law 702 = .ok (.ireturn, 1) := by decide +kernel
theorem dL_law_703 : decode cL_law 703 = .ok (.iload 5, 2) := by decide +kernel
theorem dL_law_705 : decode cL_law 705 = .ok (.ifCond .ne 15, 3) := by decide +kernel
theorem dL_law_708 : decode cL_law 708 = .ok (.aload_n 3, 1) := by decide +kernel
theorem dL_law_709 : decode cL_law 709 = .ok (.iconst 0, 1) := by decide +kernel
theorem dL_law_710 : decode cL_law 710 = .ok (.laload, 1) := by decide +kernel
theorem dL_law_711 : decode cL_law 711 = .ok (.iload 6, 2) := by decide +kernel
theorem dL_law_713 : decode cL_law 713 = .ok (.i2l, 1) := by decide +kernel
theorem dL_law_714 : decode cL_law 714 = .ok (.lcmp, 1) := by decide +kernel
theorem dL_law_715 : decode cL_law 715 = .ok (.ifCond .eq 5, 3) := by decide +kernel
theorem dL_law_718 : decode cL_law 718 = .ok (.iconst 0, 1) := by decide +kernel
theorem dL_law_719 : decode cL_law 719 = .ok (.ireturn, 1) := by decide +kernel
theorem dL_law_720 : decode cL_law 720 = .ok (.goto 818, 3) := by decide +kernel
theorem dL_law_723 : decode cL_law 723 = .ok (.aload_n 1, 1) := by decide +kernel
theorem dL_law_724 : decode cL_law 724 = .ok (.aload_n 0, 1) := by decide +kernel
theorem dL_law_725 : decode cL_law 725 = .ok (.iload 4, 2) := by decide +kernel
theorem dL_law_727 : decode cL_law 727 = .ok (.iconst 1, 1) := by decide +kernel
theorem dL_law_728 : decode cL_law 728 = .ok (.iadd, 1) := by decide +kernel
theorem dL_law_729 : decode cL_law 729 = .ok (.iaload, 1) := by decide +kernel
theorem dL_law_730 : decode cL_law 730 = .ok (.aload_n 0, 1) := by decide +kernel
theorem dL_law_731 : decode cL_law 731 = .ok (.iload 4, 2) := by decide +kernel
theorem dL_law_733 : decode cL_law 733 = .ok (.iconst 2, 1) := by decide +kernel
theorem dL_law_734 : decode cL_law 734 = .ok (.iadd, 1) := by decide +kernel
theorem dL_law_735 : decode cL_law 735 = .ok (.iaload, 1) := by decide +kernel
theorem dL_law_736 : decode cL_law 736 = .ok (.aload_n 0, 1) := by decide +kernel
theorem dL_law_737 : decode cL_law 737 = .ok (.iload 4, 2) := by decide +kernel
theorem dL_law_739 : decode cL_law 739 = .ok (.iconst 3, 1) := by decide +kernel
theorem dL_law_740 : decode cL_law 740 = .ok (.iadd, 1) := by decide +kernel
theorem dL_law_741 : decode cL_law 741 = .ok (.iaload, 1) := by decide +kernel
theorem dL_law_742 : decode cL_law 742 = .ok (.aload_n 3, 1) := by decide +kernel
theorem dL_law_743 : decode cL_law 743 = .ok (.invokestatic 115, 3) := by decide +kernel
theorem dL_law_746 : decode cL_law 746 = .ok (.istore 5, 2) := by decide +kernel
theorem dL_law_748 : decode cL_law 748 = .ok (.aload_n 2, 1) := by decide +kernel
theorem dL_law_749 : decode cL_law 749 = .ok (.aload_n 0, 1) := by decide +kernel
theorem dL_law_750 : decode cL_law 750 = .ok (.iload 4, 2) := by decide +kernel
theorem dL_law_752 : decode cL_law 752 = .ok (.iconst 1, 1) := by decide +kernel
theorem dL_law_753 : decode cL_law 753 = .ok (.iadd, 1) := by decide +kernel
theorem dL_law_754 : decode cL_law 754 = .ok (.iaload, 1) := by decide +kernel
theorem dL_law_755 : decode cL_law 755 = .ok (.aload_n 0, 1) := by decide +kernel
theorem dL_law_756 : decode cL_law 756 = .ok (.iload 4, 2) := by decide +kernel
theorem dL_law_758 : decode cL_law 758 = .ok (.iconst 2, 1) := by decide +kernel
theorem dL_law_759 : decode cL_law 759 = .ok (.iadd, 1) := by decide +kernel
theorem dL_law_760 : decode cL_law 760 = .ok (.iaload, 1) := by decide +kernel
theorem dL_law_761 : decode cL_law 761 = .ok (.aload_n 0, 1) := by decide +kernel
theorem dL_law_762 : decode cL_law 762 = .ok (.iload 4, 2) := by decide +kernel
theorem dL_law_764 : decode cL_law 764 = .ok (.iconst 3, 1) := by decide +kernel
theorem dL_law_765 : decode cL_law 765 = .ok (.iadd, 1) := by decide +kernel
theorem dL_law_766 : decode cL_law 766 = .ok (.iaload, 1) := by decide +kernel
theorem dL_law_767 : decode cL_law 767 = .ok (.invokevirtual 117, 3) := by decide +kernel
theorem dL_law_770 : decode cL_law 770 = .ok (.istore 6, 2) := by decide +kernel
theorem dL_law_772 : decode cL_law 772 = .ok (.aload_n 2, 1) := by decide +kernel
theorem dL_law_773 : decode cL_law 773 = .ok (.invokevirtual 87, 3) := by decide +kernel
theorem dL_law_776 : decode cL_law 776 = .ok (.iload 5, 2) := by decide +kernel
theorem dL_law_778 : decode cL_law 778 = .ok (.if_icmp .eq 5, 3) := by decide +kernel
theorem dL_law_781 : decode cL_law 781 = .ok (.iconst 0, 1) := by decide +kernel
theorem dL_law_782 : decode cL_law 782 = .ok (.ireturn, 1) := by decide +kernel
theorem dL_law_783 : decode cL_law 783 = .ok (.iload 5, 2) := by decide +kernel
theorem dL_law_785 : decode cL_law 785 = .ok (.ifCond .ne 15, 3) := by decide +kernel
theorem dL_law_788 : decode cL_law 788 = .ok (.aload_n 3, 1) := by decide +kernel
theorem dL_law_789 : decode cL_law 789 = .ok (.iconst 0, 1) := by decide +kernel
theorem dL_law_790 : decode cL_law 790 = .ok (.laload, 1) := by decide +kernel
theorem dL_law_791 : decode cL_law 791 = .ok (.iload 6, 2) := by decide +kernel
theorem dL_law_793 : decode cL_law 793 = .ok (.i2l, 1) := by decide +kernel
theorem dL_law_794 : decode cL_law 794 = .ok (.lcmp, 1) := by decide +kernel
theorem dL_law_795 : decode cL_law 795 = .ok (.ifCond .eq 5, 3) := by decide +kernel
theorem dL_law_798 : decode cL_law 798 = .ok (.iconst 0, 1) := by decide +kernel
theorem dL_law_799 : decode cL_law 799 = .ok (.ireturn, 1) := by decide +kernel
theorem dL_law_800 : decode cL_law 800 = .ok (.goto 738, 3) := by decide +kernel
theorem dL_law_803 : decode cL_law 803 = .ok (.aload_n 1, 1) := by decide +kernel
theorem dL_law_804 : decode cL_law 804 = .ok (.aload_n 0, 1) := by decide +kernel
theorem dL_law_805 : decode cL_law 805 = .ok (.iload 4, 2) := by decide +kernel
theorem dL_law_807 : decode cL_law 807 = .ok (.iconst 1, 1) := by decide +kernel
theorem dL_law_808 : decode cL_law 808 = .ok (.iadd, 1) := by decide +kernel
theorem dL_law_809 : decode cL_law 809 = .ok (.iaload, 1) := by decide +kernel
theorem dL_law_810 : decode cL_law 810 = .ok (.aload_n 0, 1) := by decide +kernel
theorem dL_law_811 : decode cL_law 811 = .ok (.iload 4, 2) := by decide +kernel
theorem dL_law_813 : decode cL_law 813 = .ok (.iconst 2, 1) := by decide +kernel
theorem dL_law_814 : decode cL_law 814 = .ok (.iadd, 1) := by decide +kernel
theorem dL_law_815 : decode cL_law 815 = .ok (.iaload, 1) := by decide +kernel
theorem dL_law_816 : decode cL_law 816 = .ok (.aload_n 3, 1) := by decide +kernel
theorem dL_law_817 : decode cL_law 817 = .ok (.invokestatic 118, 3) := by decide +kernel
theorem dL_law_820 : decode cL_law 820 = .ok (.istore 5, 2) := by decide +kernel
theorem dL_law_822 : decode cL_law 822 = .ok (.aload_n 2, 1) := by decide +kernel
theorem dL_law_823 : decode cL_law 823 = .ok (.aload_n 0, 1) := by decide +kernel
theorem dL_law_824 : decode cL_law 824 = .ok (.iload 4, 2) := by decide +kernel
theorem dL_law_826 : decode cL_law 826 = .ok (.iconst 1, 1) := by decide +kernel
theorem dL_law_827 : decode cL_law 827 = .ok (.iadd, 1) := by decide +kernel
theorem dL_law_828 : decode cL_law 828 = .ok (.iaload, 1) := by decide +kernel
theorem dL_law_829 : decode cL_law 829 = .ok (.aload_n 0, 1) := by decide +kernel
theorem dL_law_830 : decode cL_law 830 = .ok (.iload 4, 2) := by decide +kernel
theorem dL_law_832 : decode cL_law 832 = .ok (.iconst 2, 1) := by decide +kernel
theorem dL_law_833 : decode cL_law 833 = .ok (.iadd, 1) := by decide +kernel
theorem dL_law_834 : decode cL_law 834 = .ok (.iaload, 1) := by decide +kernel
theorem dL_law_835 : decode cL_law 835 = .ok (.invokevirtual 120, 3) := by decide +kernel
theorem dL_law_838 : decode cL_law 838 = .ok (.istore 6, 2) := by decide +kernel
theorem dL_law_840 : decode cL_law 840 = .ok (.aload_n 2, 1) := by decide +kernel
theorem dL_law_841 : decode cL_law 841 = .ok (.invokevirtual 87, 3) := by decide +kernel
theorem dL_law_844 : decode cL_law 844 = .ok (.iload 5, 2) := by decide +kernel
theorem dL_law_846 : decode cL_law 846 = .ok (.if_icmp .eq 5, 3) := by decide +kernel
theorem dL_law_849 : decode cL_law 849 = .ok (.iconst 0, 1) := by decide +kernel
theorem dL_law_850 : decode cL_law 850 = .ok (.ireturn, 1) := by decide +kernel
theorem dL_law_851 : decode cL_law 851 = .ok (.iload 5, 2) := by decide +kernel
theorem dL_law_853 : decode cL_law 853 = .ok (.ifCond .ne 15, 3) := by decide +kernel
theorem dL_law_856 : decode cL_law 856 = .ok (.aload_n 3, 1) := by decide +kernel
theorem dL_law_857 : decode cL_law 857 = .ok (.iconst 0, 1) := by decide +kernel
theorem dL_law_858 : decode cL_law 858 = .ok (.laload, 1) := by decide +kernel
theorem dL_law_859 : decode cL_law 859 = .ok (.iload 6, 2) := by decide +kernel
theorem dL_law_861 : decode cL_law 861 = .ok (.i2l, 1) := by decide +kernel
theorem dL_law_862 : decode cL_law 862 = .ok (.lcmp, 1) := by decide +kernel
theorem dL_law_863 : decode cL_law 863 = .ok (.ifCond .eq 5, 3) := by decide +kernel
theorem dL_law_866 : decode cL_law 866 = .ok (.iconst 0, 1) := by decide +kernel
theorem dL_law_867 : decode cL_law 867 = .ok (.ireturn, 1) := by decide +kernel
theorem dL_law_868 : decode cL_law 868 = .ok (.goto 670, 3) := by decide +kernel
theorem dL_law_871 : decode cL_law 871 = .ok (.aload_n 1, 1) := by decide +kernel
theorem dL_law_872 : decode cL_law 872 = .ok (.aload_n 0, 1) := by decide +kernel
theorem dL_law_873 : decode cL_law 873 = .ok (.iload 4, 2) := by decide +kernel
theorem dL_law_875 : decode cL_law 875 = .ok (.iconst 1, 1) := by decide +kernel
theorem dL_law_876 : decode cL_law 876 = .ok (.iadd, 1) := by decide +kernel
theorem dL_law_877 : decode cL_law 877 = .ok (.iaload, 1) := by decide +kernel
theorem dL_law_878 : decode cL_law 878 = .ok (.aload_n 0, 1) := by decide +kernel
theorem dL_law_879 : decode cL_law 879 = .ok (.iload 4, 2) := by decide +kernel
theorem dL_law_881 : decode cL_law 881 = .ok (.iconst 2, 1) := by decide +kernel
theorem dL_law_882 : decode cL_law 882 = .ok (.iadd, 1) := by decide +kernel
theorem dL_law_883 : decode cL_law 883 = .ok (.iaload, 1) := by decide +kernel
theorem dL_law_884 : decode cL_law 884 = .ok (.aload_n 3, 1) := by decide +kernel
theorem dL_law_885 : decode cL_law 885 = .ok (.invokestatic 121, 3) := by decide +kernel
theorem dL_law_888 : decode cL_law 888 = .ok (.istore 5, 2) := by decide +kernel
theorem dL_law_890 : decode cL_law 890 = .ok (.aload_n 2, 1) := by decide +kernel
theorem dL_law_891 : decode cL_law 891 = .ok (.aload_n 0, 1) := by decide +kernel
theorem dL_law_892 : decode cL_law 892 = .ok (.iload 4, 2) := by decide +kernel
theorem dL_law_894 : decode cL_law 894 = .ok (.iconst 1, 1) := by decide +kernel
theorem dL_law_895 : decode cL_law 895 = .ok (.iadd, 1) := by decide +kernel
theorem dL_law_896 : decode cL_law 896 = .ok (.iaload, 1) := by decide +kernel
theorem dL_law_897 : decode cL_law 897 = .ok (.aload_n 0, 1) := by decide +kernel
theorem dL_law_898 : decode cL_law 898 = .ok (.iload 4, 2) := by decide +kernel
theorem dL_law_900 : decode cL_law 900 = .ok (.iconst 2, 1) := by decide +kernel
theorem dL_law_901 : decode cL_law 901 = .ok (.iadd, 1) := by decide +kernel
theorem dL_law_902 : decode cL_law 902 = .ok (.iaload, 1) := by decide +kernel
theorem dL_law_903 : decode cL_law 903 = .ok (.invokevirtual 123, 3) := by decide +kernel
theorem dL_law_906 : decode cL_law 906 = .ok (.istore 6, 2) := by decide +kernel
theorem dL_law_908 : decode cL_law 908 = .ok (.aload_n 2, 1) := by decide +kernel
theorem dL_law_909 : decode cL_law 909 = .ok (.invokevirtual 87, 3) := by decide +kernel
theorem dL_law_912 : decode cL_law 912 = .ok (.iload 5, 2) := by decide +kernel
theorem dL_law_914 : decode cL_law 914 = .ok (.if_icmp .eq 5, 3) := by decide +kernel
theorem dL_law_917 : decode cL_law 917 = .ok (.iconst 0, 1) := by decide +kernel
theorem dL_law_918 : decode cL_law 918 = .ok (.ireturn, 1) := by decide +kernel
theorem dL_law_919 : decode cL_law 919 = .ok (.iload 5, 2) := by decide +kernel
theorem dL_law_921 : decode cL_law 921 = .ok (.ifCond .ne 15, 3) := by decide +kernel
theorem dL_law_924 : decode cL_law 924 = .ok (.aload_n 3, 1) := by decide +kernel
theorem dL_law_925 : decode cL_law 925 = .ok (.iconst 0, 1) := by decide +kernel
theorem dL_law_926 : decode cL_law 926 = .ok (.laload, 1) := by decide +kernel
theorem dL_law_927 : decode cL_law 927 = .ok (.iload 6, 2) := by decide +kernel
theorem dL_law_929 : decode cL_law 929 = .ok (.i2l, 1) := by decide +kernel
theorem dL_law_930 : decode cL_law 930 = .ok (.lcmp, 1) := by decide +kernel
theorem dL_law_931 : decode cL_law 931 = .ok (.ifCond .eq 5, 3) := by decide +kernel
theorem dL_law_934 : decode cL_law 934 = .ok (.iconst 0, 1) := by decide +kernel
theorem dL_law_935 : decode cL_law 935 = .ok (.ireturn, 1) := by decide +kernel
theorem dL_law_936 : decode cL_law 936 = .ok (.goto 602, 3) := by decide +kernel
theorem dL_law_939 : decode cL_law 939 = .ok (.aload_n 1, 1) := by decide +kernel
theorem dL_law_940 : decode cL_law 940 = .ok (.aload_n 0, 1) := by decide +kernel
theorem dL_law_941 : decode cL_law 941 = .ok (.iload 4, 2) := by decide +kernel
theorem dL_law_943 : decode cL_law 943 = .ok (.iconst 1, 1) := by decide +kernel
theorem dL_law_944 : decode cL_law 944 = .ok (.iadd, 1) := by decide +kernel
theorem dL_law_945 : decode cL_law 945 = .ok (.iaload, 1) := by decide +kernel
theorem dL_law_946 : decode cL_law 946 = .ok (.aload_n 3, 1) := by decide +kernel
theorem dL_law_947 : decode cL_law 947 = .ok (.invokestatic 124, 3) := by decide +kernel
theorem dL_law_950 : decode cL_law 950 = .ok (.istore 5, 2) := by decide +kernel
theorem dL_law_952 : decode cL_law 952 = .ok (.aload_n 2, 1) := by decide +kernel
theorem dL_law_953 : decode cL_law 953 = .ok (.aload_n 0, 1) := by decide +kernel
theorem dL_law_954 : decode cL_law 954 = .ok (.iload 4, 2) := by decide +kernel
theorem dL_law_956 : decode cL_law 956 = .ok (.iconst 1, 1) := by decide +kernel
theorem dL_law_957 : decode cL_law 957 = .ok (.iadd, 1) := by decide +kernel
theorem dL_law_958 : decode cL_law 958 = .ok (.iaload, 1) := by decide +kernel
theorem dL_law_959 : decode cL_law 959 = .ok (.invokevirtual 126, 3) := by decide +kernel
theorem dL_law_962 : decode cL_law 962 = .ok (.istore 6, 2) := by decide +kernel
theorem dL_law_964 : decode cL_law 964 = .ok (.aload_n 2, 1) := by decide +kernel
theorem dL_law_965 : decode cL_law 965 = .ok (.invokevirtual 87, 3) := by decide +kernel
theorem dL_law_968 : decode cL_law 968 = .ok (.iload 5, 2) := by decide +kernel
theorem dL_law_970 : decode cL_law 970 = .ok (.if_icmp .eq 5, 3) := by decide +kernel
theorem dL_law_973 : decode cL_law 973 = .ok (.iconst 0, 1) := by decide +kernel
theorem dL_law_974 : decode cL_law 974 = .ok (.ireturn, 1) := by decide +kernel
theorem dL_law_975 : decode cL_law 975 = .ok (.iload 5, 2) := by decide +kernel
theorem dL_law_977 : decode cL_law 977 = .ok (.ifCond .ne 15, 3) := by decide +kernel
theorem dL_law_980 : decode cL_law 980 = .ok (.aload_n 3, 1) := by decide +kernel
theorem dL_law_981 : decode cL_law 981 = .ok (.iconst 0, 1) := by decide +kernel
theorem dL_law_982 : decode cL_law 982 = .ok (.laload, 1) := by decide +kernel
theorem dL_law_983 : decode cL_law 983 = .ok (.iload 6, 2) := by decide +kernel
theorem dL_law_985 : decode cL_law 985 = .ok (.i2l, 1) := by decide +kernel
theorem dL_law_986 : decode cL_law 986 = .ok (.lcmp, 1) := by decide +kernel
theorem dL_law_987 : decode cL_law 987 = .ok (.ifCond .eq 5, 3) := by decide +kernel
theorem dL_law_990 : decode cL_law 990 = .ok (.iconst 0, 1) := by decide +kernel
theorem dL_law_991 : decode cL_law 991 = .ok (.ireturn, 1) := by decide +kernel
theorem dL_law_992 : decode cL_law 992 = .ok (.goto 546, 3) := by decide +kernel
theorem dL_law_995 : decode cL_law 995 = .ok (.aload_n 1, 1) := by decide +kernel
theorem dL_law_996 : decode cL_law 996 = .ok (.aload_n 0, 1) := by decide +kernel
theorem dL_law_997 : decode cL_law 997 = .ok (.iload 4, 2) := by decide +kernel
theorem dL_law_999 : decode cL_law 999 = .ok (.iconst 1, 1) := by decide +kernel
theorem dL_law_1000 : decode cL_law 1000 = .ok (.iadd, 1) := by decide +kernel
theorem dL_law_1001 : decode cL_law 1001 = .ok (.iaload, 1) := by decide +kernel
theorem dL_law_1002 : decode cL_law 1002 = .ok (.aload_n 0, 1) := by decide +kernel
theorem dL_law_1003 : decode cL_law 1003 = .ok (.iload 4, 2) := by decide +kernel
theorem dL_law_1005 : decode cL_law 1005 = .ok (.iconst 2, 1) := by decide +kernel
theorem dL_law_1006 : decode cL_law 1006 = .ok (.iadd, 1) := by decide +kernel
theorem dL_law_1007 : decode cL_law 1007 = .ok (.iaload, 1) := by decide +kernel
theorem dL_law_1008 : decode cL_law 1008 = .ok (.aload_n 0, 1) := by decide +kernel
theorem dL_law_1009 : decode cL_law 1009 = .ok (.iload 4, 2) := by decide +kernel
theorem dL_law_1011 : decode cL_law 1011 = .ok (.iconst 3, 1) := by decide +kernel
theorem dL_law_1012 : decode cL_law 1012 = .ok (.iadd, 1) := by decide +kernel
theorem dL_law_1013 : decode cL_law 1013 = .ok (.iaload, 1) := by decide +kernel
theorem dL_law_1014 : decode cL_law 1014 = .ok (.aload_n 3, 1) := by decide +kernel
theorem dL_law_1015 : decode cL_law 1015 = .ok (.invokestatic 127, 3) := by decide +kernel
theorem dL_law_1018 : decode cL_law 1018 = .ok (.istore 5, 2) := by decide +kernel
theorem dL_law_1020 : decode cL_law 1020 = .ok (.aload_n 2, 1) := by decide +kernel
theorem dL_law_1021 : decode cL_law 1021 = .ok (.aload_n 0, 1) := by decide +kernel
theorem dL_law_1022 : decode cL_law 1022 = .ok (.iload 4, 2) := by decide +kernel
theorem dL_law_1024 : decode cL_law 1024 = .ok (.iconst 1, 1) := by decide +kernel
theorem dL_law_1025 : decode cL_law 1025 = .ok (.iadd, 1) := by decide +kernel
theorem dL_law_1026 : decode cL_law 1026 = .ok (.iaload, 1) := by decide +kernel
theorem dL_law_1027 : decode cL_law 1027 = .ok (.aload_n 0, 1) := by decide +kernel
theorem dL_law_1028 : decode cL_law 1028 = .ok (.iload 4, 2) := by decide +kernel
theorem dL_law_1030 : decode cL_law 1030 = .ok (.iconst 2, 1) := by decide +kernel
theorem dL_law_1031 : decode cL_law 1031 = .ok (.iadd, 1) := by decide +kernel
theorem dL_law_1032 : decode cL_law 1032 = .ok (.iaload, 1) := by decide +kernel
theorem dL_law_1033 : decode cL_law 1033 = .ok (.aload_n 0, 1) := by decide +kernel
theorem dL_law_1034 : decode cL_law 1034 = .ok (.iload 4, 2) := by decide +kernel
theorem dL_law_1036 : decode cL_law 1036 = .ok (.iconst 3, 1) := by decide +kernel
theorem dL_law_1037 : decode cL_law 1037 = .ok (.iadd, 1) := by decide +kernel
theorem dL_law_1038 : decode cL_law 1038 = .ok (.iaload, 1) := by decide +kernel
theorem dL_law_1039 : decode cL_law 1039 = .ok (.invokevirtual 129, 3) := by decide +kernel
theorem dL_law_1042 : decode cL_law 1042 = .ok (.istore 6, 2) := by decide +kernel
theorem dL_law_1044 : decode cL_law 1044 = .ok (.aload_n 2, 1) := by decide +kernel
theorem dL_law_1045 : decode cL_law 1045 = .ok (.invokevirtual 87, 3) := by decide +kernel
theorem dL_law_1048 : decode cL_law 1048 = .ok (.iload 5, 2) := by decide +kernel
theorem dL_law_1050 : decode cL_law 1050 = .ok (.if_icmp .eq 5, 3) := by decide +kernel
theorem dL_law_1053 : decode cL_law 1053 = .ok (.iconst 0, 1) := by decide +kernel
theorem dL_law_1054 : decode cL_law 1054 = .ok (.ireturn, 1) := by decide +kernel
theorem dL_law_1055 : decode cL_law 1055 = .ok (.iload 5, 2) := by decide +kernel
theorem dL_law_1057 : decode cL_law 1057 = .ok (.ifCond .ne 15, 3) := by decide +kernel
theorem dL_law_1060 : decode cL_law 1060 = .ok (.aload_n 3, 1) := by decide +kernel
theorem dL_law_1061 : decode cL_law 1061 = .ok (.iconst 0, 1) := by decide +kernel
theorem dL_law_1062 : decode cL_law 1062 = .ok (.laload, 1) := by decide +kernel
theorem dL_law_1063 : decode cL_law 1063 = .ok (.iload 6, 2) := by decide +kernel
theorem dL_law_1065 : decode cL_law 1065 = .ok (.i2l, 1) := by decide +kernel
theorem dL_law_1066 : decode cL_law 1066 = .ok (.lcmp, 1) := by decide +kernel
theorem dL_law_1067 : decode cL_law 1067 = .ok (.ifCond .eq 5, 3) := by decide +kernel
theorem dL_law_1070 : decode cL_law 1070 = .ok (.iconst 0, 1) := by decide +kernel
theorem dL_law_1071 : decode cL_law 1071 = .ok (.ireturn, 1) := by decide +kernel
theorem dL_law_1072 : decode cL_law 1072 = .ok (.goto 466, 3) := by decide +kernel
theorem dL_law_1075 : decode cL_law 1075 = .ok (.aload_n 1, 1) := by decide +kernel
theorem dL_law_1076 : decode cL_law 1076 = .ok (.aload_n 0, 1) := by decide +kernel
theorem dL_law_1077 : decode cL_law 1077 = .ok (.iload 4, 2) := by decide +kernel
theorem dL_law_1079 : decode cL_law 1079 = .ok (.iconst 1, 1) := by decide +kernel
theorem dL_law_1080 : decode cL_law 1080 = .ok (.iadd, 1) := by decide +kernel
theorem dL_law_1081 : decode cL_law 1081 = .ok (.iaload, 1) := by decide +kernel
theorem dL_law_1082 : decode cL_law 1082 = .ok (.aload_n 0, 1) := by decide +kernel
theorem dL_law_1083 : decode cL_law 1083 = .ok (.iload 4, 2) := by decide +kernel
theorem dL_law_1085 : decode cL_law 1085 = .ok (.iconst 2, 1) := by decide +kernel
theorem dL_law_1086 : decode cL_law 1086 = .ok (.iadd, 1) := by decide +kernel
theorem dL_law_1087 : decode cL_law 1087 = .ok (.iaload, 1) := by decide +kernel
theorem dL_law_1088 : decode cL_law 1088 = .ok (.aload_n 0, 1) := by decide +kernel
theorem dL_law_1089 : decode cL_law 1089 = .ok (.iload 4, 2) := by decide +kernel
theorem dL_law_1091 : decode cL_law 1091 = .ok (.iconst 3, 1) := by decide +kernel
theorem dL_law_1092 : decode cL_law 1092 = .ok (.iadd, 1) := by decide +kernel
theorem dL_law_1093 : decode cL_law 1093 = .ok (.iaload, 1) := by decide +kernel
theorem dL_law_1094 : decode cL_law 1094 = .ok (.aload_n 3, 1) := by decide +kernel
theorem dL_law_1095 : decode cL_law 1095 = .ok (.invokestatic 130, 3) := by decide +kernel
theorem dL_law_1098 : decode cL_law 1098 = .ok (.istore 5, 2) := by decide +kernel
theorem dL_law_1100 : decode cL_law 1100 = .ok (.aload_n 2, 1) := by decide +kernel
theorem dL_law_1101 : decode cL_law 1101 = .ok (.aload_n 0, 1) := by decide +kernel
theorem dL_law_1102 : decode cL_law 1102 = .ok (.iload 4, 2) := by decide +kernel
theorem dL_law_1104 : decode cL_law 1104 = .ok (.iconst 1, 1) := by decide +kernel
theorem dL_law_1105 : decode cL_law 1105 = .ok (.iadd, 1) := by decide +kernel
theorem dL_law_1106 : decode cL_law 1106 = .ok (.iaload, 1) := by decide +kernel
theorem dL_law_1107 : decode cL_law 1107 = .ok (.aload_n 0, 1) := by decide +kernel
theorem dL_law_1108 : decode cL_law 1108 = .ok (.iload 4, 2) := by decide +kernel
theorem dL_law_1110 : decode cL_law 1110 = .ok (.iconst 2, 1) := by decide +kernel
theorem dL_law_1111 : decode cL_law 1111 = .ok (.iadd, 1) := by decide +kernel
theorem dL_law_1112 : decode cL_law 1112 = .ok (.iaload, 1) := by decide +kernel
theorem dL_law_1113 : decode cL_law 1113 = .ok (.aload_n 0, 1) := by decide +kernel
theorem dL_law_1114 : decode cL_law 1114 = .ok (.iload 4, 2) := by decide +kernel
theorem dL_law_1116 : decode cL_law 1116 = .ok (.iconst 3, 1) := by decide +kernel
theorem dL_law_1117 : decode cL_law 1117 = .ok (.iadd, 1) := by decide +kernel
theorem dL_law_1118 : decode cL_law 1118 = .ok (.iaload, 1) := by decide +kernel
theorem dL_law_1119 : decode cL_law 1119 = .ok (.invokevirtual 132, 3) := by decide +kernel
theorem dL_law_1122 : decode cL_law 1122 = .ok (.istore 6, 2) := by decide +kernel
theorem dL_law_1124 : decode cL_law 1124 = .ok (.aload_n 2, 1) := by decide +kernel
theorem dL_law_1125 : decode cL_law 1125 = .ok (.invokevirtual 87, 3) := by decide +kernel
theorem dL_law_1128 : decode cL_law 1128 = .ok (.iload 5, 2) := by decide +kernel
theorem dL_law_1130 : decode cL_law 1130 = .ok (.if_icmp .eq 5, 3) := by decide +kernel
theorem dL_law_1133 : decode cL_law 1133 = .ok (.iconst 0, 1) := by decide +kernel
theorem dL_law_1134 : decode cL_law 1134 = .ok (.ireturn, 1) := by decide +kernel
theorem dL_law_1135 : decode cL_law 1135 = .ok (.iload 5, 2) := by decide +kernel
theorem dL_law_1137 : decode cL_law 1137 = .ok (.ifCond .ne 15, 3) := by decide +kernel
theorem dL_law_1140 : decode cL_law 1140 = .ok (.aload_n 3, 1) := by decide +kernel
theorem dL_law_1141 : decode cL_law 1141 = .ok (.iconst 0, 1) := by decide +kernel
theorem dL_law_1142 : decode cL_law 1142 = .ok (.laload, 1) := by decide +kernel
theorem dL_law_1143 : decode cL_law 1143 = .ok (.iload 6, 2) := by decide +kernel
theorem dL_law_1145 : decode cL_law 1145 = .ok (.i2l, 1) := by decide +kernel
theorem dL_law_1146 : decode cL_law 1146 = .ok (.lcmp, 1) := by decide +kernel
theorem dL_law_1147 : decode cL_law 1147 = .ok (.ifCond .eq 5, 3) := by decide +kernel
theorem dL_law_1150 : decode cL_law 1150 = .ok (.iconst 0, 1) := by decide +kernel
theorem dL_law_1151 : decode cL_law 1151 = .ok (.ireturn, 1) := by decide +kernel
theorem dL_law_1152 : decode cL_law 1152 = .ok (.goto 386, 3) := by decide +kernel
theorem dL_law_1155 : decode cL_law 1155 = .ok (.aload_n 1, 1) := by decide +kernel
theorem dL_law_1156 : decode cL_law 1156 = .ok (.aload_n 0, 1) := by decide +kernel
theorem dL_law_1157 : decode cL_law 1157 = .ok (.iload 4, 2) := by decide +kernel
theorem dL_law_1159 : decode cL_law 1159 = .ok (.iconst 1, 1) := by decide +kernel
theorem dL_law_1160 : decode cL_law 1160 = .ok (.iadd, 1) := by decide +kernel
theorem dL_law_1161 : decode cL_law 1161 = .ok (.iaload, 1) := by decide +kernel
theorem dL_law_1162 : decode cL_law 1162 = .ok (.aload_n 3, 1) := by decide +kernel
theorem dL_law_1163 : decode cL_law 1163 = .ok (.invokestatic 133, 3) := by decide +kernel
theorem dL_law_1166 : decode cL_law 1166 = .ok (.istore 5, 2) := by decide +kernel
theorem dL_law_1168 : decode cL_law 1168 = .ok (.aload_n 2, 1) := by decide +kernel
theorem dL_law_1169 : decode cL_law 1169 = .ok (.aload_n 0, 1) := by decide +kernel
theorem dL_law_1170 : decode cL_law 1170 = .ok (.iload 4, 2) := by decide +kernel
theorem dL_law_1172 : decode cL_law 1172 = .ok (.iconst 1, 1) := by decide +kernel
theorem dL_law_1173 : decode cL_law 1173 = .ok (.iadd, 1) := by decide +kernel
theorem dL_law_1174 : decode cL_law 1174 = .ok (.iaload, 1) := by decide +kernel
theorem dL_law_1175 : decode cL_law 1175 = .ok (.invokevirtual 135, 3) := by decide +kernel
theorem dL_law_1178 : decode cL_law 1178 = .ok (.istore 6, 2) := by decide +kernel
theorem dL_law_1180 : decode cL_law 1180 = .ok (.aload_n 2, 1) := by decide +kernel
theorem dL_law_1181 : decode cL_law 1181 = .ok (.invokevirtual 87, 3) := by decide +kernel
theorem dL_law_1184 : decode cL_law 1184 = .ok (.iload 5, 2) := by decide +kernel
theorem dL_law_1186 : decode cL_law 1186 = .ok (.if_icmp .eq 5, 3) := by decide +kernel
theorem dL_law_1189 : decode cL_law 1189 = .ok (.iconst 0, 1) := by decide +kernel
theorem dL_law_1190 : decode cL_law 1190 = .ok (.ireturn, 1) := by decide +kernel
theorem dL_law_1191 : decode cL_law 1191 = .ok (.iload 5, 2) := by decide +kernel
theorem dL_law_1193 : decode cL_law 1193 = .ok (.ifCond .ne 15, 3) := by decide +kernel
theorem dL_law_1196 : decode cL_law 1196 = .ok (.aload_n 3, 1) := by decide +kernel
theorem dL_law_1197 : decode cL_law 1197 = .ok (.iconst 0, 1) := by decide +kernel
theorem dL_law_1198 : decode cL_law 1198 = .ok (.laload, 1) := by decide +kernel
theorem dL_law_1199 : decode cL_law 1199 = .ok (.iload 6, 2) := by decide +kernel
theorem dL_law_1201 : decode cL_law 1201 = .ok (.i2l, 1) := by decide +kernel
theorem dL_law_1202 : decode cL_law 1202 = .ok (.lcmp, 1) := by decide +kernel
theorem dL_law_1203 : decode cL_law 1203 = .ok (.ifCond .eq 5, 3) := by decide +kernel
theorem dL_law_1206 : decode cL_law 1206 = .ok (.iconst 0, 1) := by decide +kernel
theorem dL_law_1207 : decode cL_law 1207 = .ok (.ireturn, 1) := by decide +kernel
theorem dL_law_1208 : decode cL_law 1208 = .ok (.goto 330, 3) := by decide +kernel
theorem dL_law_1211 : decode cL_law 1211 = .ok (.aload_n 1, 1) := by decide +kernel
theorem dL_law_1212 : decode cL_law 1212 = .ok (.aload_n 0, 1) := by decide +kernel
theorem dL_law_1213 : decode cL_law 1213 = .ok (.iload 4, 2) := by decide +kernel
theorem dL_law_1215 : decode cL_law 1215 = .ok (.iconst 1, 1) := by decide +kernel
theorem dL_law_1216 : decode cL_law 1216 = .ok (.iadd, 1) := by decide +kernel
theorem dL_law_1217 : decode cL_law 1217 = .ok (.iaload, 1) := by decide +kernel
theorem dL_law_1218 : decode cL_law 1218 = .ok (.aload_n 0, 1) := by decide +kernel
theorem dL_law_1219 : decode cL_law 1219 = .ok (.iload 4, 2) := by decide +kernel
theorem dL_law_1221 : decode cL_law 1221 = .ok (.iconst 2, 1) := by decide +kernel
theorem dL_law_1222 : decode cL_law 1222 = .ok (.iadd, 1) := by decide +kernel
theorem dL_law_1223 : decode cL_law 1223 = .ok (.iaload, 1) := by decide +kernel
theorem dL_law_1224 : decode cL_law 1224 = .ok (.aload_n 0, 1) := by decide +kernel
theorem dL_law_1225 : decode cL_law 1225 = .ok (.iload 4, 2) := by decide +kernel
theorem dL_law_1227 : decode cL_law 1227 = .ok (.iconst 3, 1) := by decide +kernel
theorem dL_law_1228 : decode cL_law 1228 = .ok (.iadd, 1) := by decide +kernel
theorem dL_law_1229 : decode cL_law 1229 = .ok (.iaload, 1) := by decide +kernel
theorem dL_law_1230 : decode cL_law 1230 = .ok (.aload_n 3, 1) := by decide +kernel
theorem dL_law_1231 : decode cL_law 1231 = .ok (.invokestatic 136, 3) := by decide +kernel
theorem dL_law_1234 : decode cL_law 1234 = .ok (.istore 5, 2) := by decide +kernel
theorem dL_law_1236 : decode cL_law 1236 = .ok (.aload_n 2, 1) := by decide +kernel
theorem dL_law_1237 : decode cL_law 1237 = .ok (.aload_n 0, 1) := by decide +kernel
theorem dL_law_1238 : decode cL_law 1238 = .ok (.iload 4, 2) := by decide +kernel
theorem dL_law_1240 : decode cL_law 1240 = .ok (.iconst 1, 1) := by decide +kernel
theorem dL_law_1241 : decode cL_law 1241 = .ok (.iadd, 1) := by decide +kernel
theorem dL_law_1242 : decode cL_law 1242 = .ok (.iaload, 1) := by decide +kernel
theorem dL_law_1243 : decode cL_law 1243 = .ok (.aload_n 0, 1) := by decide +kernel
theorem dL_law_1244 : decode cL_law 1244 = .ok (.iload 4, 2) := by decide +kernel
theorem dL_law_1246 : decode cL_law 1246 = .ok (.iconst 2, 1) := by decide +kernel
theorem dL_law_1247 : decode cL_law 1247 = .ok (.iadd, 1) := by decide +kernel
theorem dL_law_1248 : decode cL_law 1248 = .ok (.iaload, 1) := by decide +kernel
theorem dL_law_1249 : decode cL_law 1249 = .ok (.aload_n 0, 1) := by decide +kernel
theorem dL_law_1250 : decode cL_law 1250 = .ok (.iload 4, 2) := by decide +kernel
theorem dL_law_1252 : decode cL_law 1252 = .ok (.iconst 3, 1) := by decide +kernel
theorem dL_law_1253 : decode cL_law 1253 = .ok (.iadd, 1) := by decide +kernel
theorem dL_law_1254 : decode cL_law 1254 = .ok (.iaload, 1) := by decide +kernel
theorem dL_law_1255 : decode cL_law 1255 = .ok (.invokevirtual 138, 3) := by decide +kernel
theorem dL_law_1258 : decode cL_law 1258 = .ok (.istore 6, 2) := by decide +kernel
theorem dL_law_1260 : decode cL_law 1260 = .ok (.aload_n 2, 1) := by decide +kernel
theorem dL_law_1261 : decode cL_law 1261 = .ok (.invokevirtual 87, 3) := by decide +kernel
theorem dL_law_1264 : decode cL_law 1264 = .ok (.iload 5, 2) := by decide +kernel
theorem dL_law_1266 : decode cL_law 1266 = .ok (.if_icmp .eq 5, 3) := by decide +kernel
theorem dL_law_1269 : decode cL_law 1269 = .ok (.iconst 0, 1) := by decide +kernel
theorem dL_law_1270 : decode cL_law 1270 = .ok (.ireturn, 1) := by decide +kernel
theorem dL_law_1271 : decode cL_law 1271 = .ok (.iload 5, 2) := by decide +kernel
theorem dL_law_1273 : decode cL_law 1273 = .ok (.ifCond .ne 15, 3) := by decide +kernel
theorem dL_law_1276 : decode cL_law 1276 = .ok (.aload_n 3, 1) := by decide +kernel
theorem dL_law_1277 : decode cL_law 1277 = .ok (.iconst 0, 1) := by decide +kernel
theorem dL_law_1278 : decode cL_law 1278 = .ok (.laload, 1) := by decide +kernel
theorem dL_law_1279 : decode cL_law 1279 = .ok (.iload 6, 2) := by decide +kernel
theorem dL_law_1281 : decode cL_law 1281 = .ok (.i2l, 1) := by decide +kernel
theorem dL_law_1282 : decode cL_law 1282 = .ok (.lcmp, 1) := by decide +kernel
theorem dL_law_1283 : decode cL_law 1283 = .ok (.ifCond .eq 5, 3) := by decide +kernel
theorem dL_law_1286 : decode cL_law 1286 = .ok (.iconst 0, 1) := by decide +kernel
theorem dL_law_1287 : decode cL_law 1287 = .ok (.ireturn, 1) := by decide +kernel
theorem dL_law_1288 : decode cL_law 1288 = .ok (.goto 250, 3) := by decide +kernel
theorem dL_law_1291 : decode cL_law 1291 = .ok (.aload_n 1, 1) := by decide +kernel
theorem dL_law_1292 : decode cL_law 1292 = .ok (.aload_n 0, 1) := by decide +kernel
theorem dL_law_1293 : decode cL_law 1293 = .ok (.iload 4, 2) := by decide +kernel
theorem dL_law_1295 : decode cL_law 1295 = .ok (.iconst 1, 1) := by decide +kernel
theorem dL_law_1296 : decode cL_law 1296 = .ok (.iadd, 1) := by decide +kernel
theorem dL_law_1297 : decode cL_law 1297 = .ok (.iaload, 1) := by decide +kernel
theorem dL_law_1298 : decode cL_law 1298 = .ok (.aload_n 0, 1) := by decide +kernel
theorem dL_law_1299 : decode cL_law 1299 = .ok (.iload 4, 2) := by decide +kernel
theorem dL_law_1301 : decode cL_law 1301 = .ok (.iconst 2, 1) := by decide +kernel
theorem dL_law_1302 : decode cL_law 1302 = .ok (.iadd, 1) := by decide +kernel
theorem dL_law_1303 : decode cL_law 1303 = .ok (.iaload, 1) := by decide +kernel
theorem dL_law_1304 : decode cL_law 1304 = .ok (.aload_n 3, 1) := by decide +kernel
theorem dL_law_1305 : decode cL_law 1305 = .ok (.invokestatic 139, 3) := by decide +kernel
theorem dL_law_1308 : decode cL_law 1308 = .ok (.istore 5, 2) := by decide +kernel
theorem dL_law_1310 : decode cL_law 1310 = .ok (.aload_n 2, 1) := by decide +kernel
theorem dL_law_1311 : decode cL_law 1311 = .ok (.aload_n 0, 1) := by decide +kernel
theorem dL_law_1312 : decode cL_law 1312 = .ok (.iload 4, 2) := by decide +kernel
theorem dL_law_1314 : decode cL_law 1314 = .ok (.iconst 1, 1) := by decide +kernel
theorem dL_law_1315 : decode cL_law 1315 = .ok (.iadd, 1) := by decide +kernel
theorem dL_law_1316 : decode cL_law 1316 = .ok (.iaload, 1) := by decide +kernel
theorem dL_law_1317 : decode cL_law 1317 = .ok (.aload_n 0, 1) := by decide +kernel
theorem dL_law_1318 : decode cL_law 1318 = .ok (.iload 4, 2) := by decide +kernel
theorem dL_law_1320 : decode cL_law 1320 = .ok (.iconst 2, 1) := by decide +kernel
theorem dL_law_1321 : decode cL_law 1321 = .ok (.iadd, 1) := by decide +kernel
theorem dL_law_1322 : decode cL_law 1322 = .ok (.iaload, 1) := by decide +kernel
theorem dL_law_1323 : decode cL_law 1323 = .ok (.invokevirtual 141, 3) := by decide +kernel
theorem dL_law_1326 : decode cL_law 1326 = .ok (.istore 6, 2) := by decide +kernel
theorem dL_law_1328 : decode cL_law 1328 = .ok (.aload_n 2, 1) := by decide +kernel
theorem dL_law_1329 : decode cL_law 1329 = .ok (.invokevirtual 87, 3) := by decide +kernel
theorem dL_law_1332 : decode cL_law 1332 = .ok (.iload 5, 2) := by decide +kernel
theorem dL_law_1334 : decode cL_law 1334 = .ok (.if_icmp .eq 5, 3) := by decide +kernel
theorem dL_law_1337 : decode cL_law 1337 = .ok (.iconst 0, 1) := by decide +kernel
theorem dL_law_1338 : decode cL_law 1338 = .ok (.ireturn, 1) := by decide +kernel
theorem dL_law_1339 : decode cL_law 1339 = .ok (.iload 5, 2) := by decide +kernel
theorem dL_law_1341 : decode cL_law 1341 = .ok (.ifCond .ne 15, 3) := by decide +kernel
theorem dL_law_1344 : decode cL_law 1344 = .ok (.aload_n 3, 1) := by decide +kernel
theorem dL_law_1345 : decode cL_law 1345 = .ok (.iconst 0, 1) := by decide +kernel
theorem dL_law_1346 : decode cL_law 1346 = .ok (.laload, 1) := by decide +kernel
theorem dL_law_1347 : decode cL_law 1347 = .ok (.iload 6, 2) := by decide +kernel
theorem dL_law_1349 : decode cL_law 1349 = .ok (.i2l, 1) := by decide +kernel
theorem dL_law_1350 : decode cL_law 1350 = .ok (.lcmp, 1) := by decide +kernel
theorem dL_law_1351 : decode cL_law 1351 = .ok (.ifCond .eq 5, 3) := by decide +kernel
theorem dL_law_1354 : decode cL_law 1354 = .ok (.iconst 0, 1) := by decide +kernel
theorem dL_law_1355 : decode cL_law 1355 = .ok (.ireturn, 1) := by decide +kernel
theorem dL_law_1356 : decode cL_law 1356 = .ok (.goto 182, 3) := by decide +kernel
theorem dL_law_1359 : decode cL_law 1359 = .ok (.aload_n 1, 1) := by decide +kernel
theorem dL_law_1360 : decode cL_law 1360 = .ok (.aload_n 0, 1) := by decide +kernel
theorem dL_law_1361 : decode cL_law 1361 = .ok (.iload 4, 2) := by decide +kernel
theorem dL_law_1363 : decode cL_law 1363 = .ok (.iconst 1, 1) := by decide +kernel
theorem dL_law_1364 : decode cL_law 1364 = .ok (.iadd, 1) := by decide +kernel
theorem dL_law_1365 : decode cL_law 1365 = .ok (.iaload, 1) := by decide +kernel
theorem dL_law_1366 : decode cL_law 1366 = .ok (.aload_n 3, 1) := by decide +kernel
theorem dL_law_1367 : decode cL_law 1367 = .ok (.invokestatic 142, 3) := by decide +kernel
theorem dL_law_1370 : decode cL_law 1370 = .ok (.istore 5, 2) := by decide +kernel
theorem dL_law_1372 : decode cL_law 1372 = .ok (.aload_n 2, 1) := by decide +kernel
theorem dL_law_1373 : decode cL_law 1373 = .ok (.aload_n 0, 1) := by decide +kernel
theorem dL_law_1374 : decode cL_law 1374 = .ok (.iload 4, 2) := by decide +kernel
theorem dL_law_1376 : decode cL_law 1376 = .ok (.iconst 1, 1) := by decide +kernel
theorem dL_law_1377 : decode cL_law 1377 = .ok (.iadd, 1) := by decide +kernel
theorem dL_law_1378 : decode cL_law 1378 = .ok (.iaload, 1) := by decide +kernel
theorem dL_law_1379 : decode cL_law 1379 = .ok (.invokevirtual 144, 3) := by decide +kernel
theorem dL_law_1382 : decode cL_law 1382 = .ok (.istore 6, 2) := by decide +kernel
theorem dL_law_1384 : decode cL_law 1384 = .ok (.aload_n 2, 1) := by decide +kernel
theorem dL_law_1385 : decode cL_law 1385 = .ok (.invokevirtual 87, 3) := by decide +kernel
theorem dL_law_1388 : decode cL_law 1388 = .ok (.iload 5, 2) := by decide +kernel
theorem dL_law_1390 : decode cL_law 1390 = .ok (.if_icmp .eq 5, 3) := by decide +kernel
theorem dL_law_1393 : decode cL_law 1393 = .ok (.iconst 0, 1) := by decide +kernel
theorem dL_law_1394 : decode cL_law 1394 = .ok (.ireturn, 1) := by decide +kernel
theorem dL_law_1395 : decode cL_law 1395 = .ok (.iload 5, 2) := by decide +kernel
theorem dL_law_1397 : decode cL_law 1397 = .ok (.ifCond .ne 15, 3) := by decide +kernel
theorem dL_law_1400 : decode cL_law 1400 = .ok (.aload_n 3, 1) := by decide +kernel
theorem dL_law_1401 : decode cL_law 1401 = .ok (.iconst 0, 1) := by decide +kernel
theorem dL_law_1402 : decode cL_law 1402 = .ok (.laload, 1) := by decide +kernel
theorem dL_law_1403 : decode cL_law 1403 = .ok (.iload 6, 2) := by decide +kernel
theorem dL_law_1405 : decode cL_law 1405 = .ok (.i2l, 1) := by decide +kernel
theorem dL_law_1406 : decode cL_law 1406 = .ok (.lcmp, 1) := by decide +kernel
theorem dL_law_1407 : decode cL_law 1407 = .ok (.ifCond .eq 5, 3) := by decide +kernel
theorem dL_law_1410 : decode cL_law 1410 = .ok (.iconst 0, 1) := by decide +kernel
theorem dL_law_1411 : decode cL_law 1411 = .ok (.ireturn, 1) := by decide +kernel
theorem dL_law_1412 : decode cL_law 1412 = .ok (.goto 126, 3) := by decide +kernel
theorem dL_law_1415 : decode cL_law 1415 = .ok (.aload_n 1, 1) := by decide +kernel
theorem dL_law_1416 : decode cL_law 1416 = .ok (.aload_n 0, 1) := by decide +kernel
theorem dL_law_1417 : decode cL_law 1417 = .ok (.iload 4, 2) := by decide +kernel
theorem dL_law_1419 : decode cL_law 1419 = .ok (.iconst 1, 1) := by decide +kernel
theorem dL_law_1420 : decode cL_law 1420 = .ok (.iadd, 1) := by decide +kernel
theorem dL_law_1421 : decode cL_law 1421 = .ok (.iaload, 1) := by decide +kernel
theorem dL_law_1422 : decode cL_law 1422 = .ok (.aload_n 0, 1) := by decide +kernel
theorem dL_law_1423 : decode cL_law 1423 = .ok (.iload 4, 2) := by decide +kernel
theorem dL_law_1425 : decode cL_law 1425 = .ok (.iconst 2, 1) := by decide +kernel
theorem dL_law_1426 : decode cL_law 1426 = .ok (.iadd, 1) := by decide +kernel
theorem dL_law_1427 : decode cL_law 1427 = .ok (.iaload, 1) := by decide +kernel
theorem dL_law_1428 : decode cL_law 1428 = .ok (.aload_n 3, 1) := by decide +kernel
theorem dL_law_1429 : decode cL_law 1429 = .ok (.invokestatic 145, 3) := by decide +kernel
theorem dL_law_1432 : decode cL_law 1432 = .ok (.istore 5, 2) := by decide +kernel
theorem dL_law_1434 : decode cL_law 1434 = .ok (.aload_n 2, 1) := by decide +kernel
theorem dL_law_1435 : decode cL_law 1435 = .ok (.aload_n 0, 1) := by decide +kernel
theorem dL_law_1436 : decode cL_law 1436 = .ok (.iload 4, 2) := by decide +kernel
theorem dL_law_1438 : decode cL_law 1438 = .ok (.iconst 1, 1) := by decide +kernel
theorem dL_law_1439 : decode cL_law 1439 = .ok (.iadd, 1) := by decide +kernel
theorem dL_law_1440 : decode cL_law 1440 = .ok (.iaload, 1) := by decide +kernel
theorem dL_law_1441 : decode cL_law 1441 = .ok (.aload_n 0, 1) := by decide +kernel
theorem dL_law_1442 : decode cL_law 1442 = .ok (.iload 4, 2) := by decide +kernel
theorem dL_law_1444 : decode cL_law 1444 = .ok (.iconst 2, 1) := by decide +kernel
theorem dL_law_1445 : decode cL_law 1445 = .ok (.iadd, 1) := by decide +kernel
theorem dL_law_1446 : decode cL_law 1446 = .ok (.iaload, 1) := by decide +kernel
theorem dL_law_1447 : decode cL_law 1447 = .ok (.invokevirtual 147, 3) := by decide +kernel
theorem dL_law_1450 : decode cL_law 1450 = .ok (.istore 6, 2) := by decide +kernel
theorem dL_law_1452 : decode cL_law 1452 = .ok (.aload_n 2, 1) := by decide +kernel
theorem dL_law_1453 : decode cL_law 1453 = .ok (.invokevirtual 87, 3) := by decide +kernel
theorem dL_law_1456 : decode cL_law 1456 = .ok (.iload 5, 2) := by decide +kernel
theorem dL_law_1458 : decode cL_law 1458 = .ok (.if_icmp .eq 5, 3) := by decide +kernel
theorem dL_law_1461 : decode cL_law 1461 = .ok (.iconst 0, 1) := by decide +kernel
theorem dL_law_1462 : decode cL_law 1462 = .ok (.ireturn, 1) := by decide +kernel
theorem dL_law_1463 : decode cL_law 1463 = .ok (.iload 5, 2) := by decide +kernel
theorem dL_law_1465 : decode cL_law 1465 = .ok (.ifCond .ne 15, 3) := by decide +kernel
theorem dL_law_1468 : decode cL_law 1468 = .ok (.aload_n 3, 1) := by decide +kernel
theorem dL_law_1469 : decode cL_law 1469 = .ok (.iconst 0, 1) := by decide +kernel
theorem dL_law_1470 : decode cL_law 1470 = .ok (.laload, 1) := by decide +kernel
theorem dL_law_1471 : decode cL_law 1471 = .ok (.iload 6, 2) := by decide +kernel
theorem dL_law_1473 : decode cL_law 1473 = .ok (.i2l, 1) := by decide +kernel
theorem dL_law_1474 : decode cL_law 1474 = .ok (.lcmp, 1) := by decide +kernel
theorem dL_law_1475 : decode cL_law 1475 = .ok (.ifCond .eq 5, 3) := by decide +kernel
theorem dL_law_1478 : decode cL_law 1478 = .ok (.iconst 0, 1) := by decide +kernel
theorem dL_law_1479 : decode cL_law 1479 = .ok (.ireturn, 1) := by decide +kernel
theorem dL_law_1480 : decode cL_law 1480 = .ok (.goto 58, 3) := by decide +kernel
theorem dL_law_1483 : decode cL_law 1483 = .ok (.aload_n 1, 1) := by decide +kernel
theorem dL_law_1484 : decode cL_law 1484 = .ok (.invokevirtual 148, 3) := by decide +kernel
theorem dL_law_1487 : decode cL_law 1487 = .ok (.dstore 5, 2) := by decide +kernel
theorem dL_law_1489 : decode cL_law 1489 = .ok (.aload_n 2, 1) := by decide +kernel
theorem dL_law_1490 : decode cL_law 1490 = .ok (.invokevirtual 152, 3) := by decide +kernel
theorem dL_law_1493 : decode cL_law 1493 = .ok (.dstore 7, 2) := by decide +kernel
theorem dL_law_1495 : decode cL_law 1495 = .ok (.dload 5, 2) := by decide +kernel
theorem dL_law_1497 : decode cL_law 1497 = .ok (.dload 7, 2) := by decide +kernel
theorem dL_law_1499 : decode cL_law 1499 = .ok (.dcmp .l, 1) := by decide +kernel
theorem dL_law_1500 : decode cL_law 1500 = .ok (.ifCond .eq 21, 3) := by decide +kernel
theorem dL_law_1503 : decode cL_law 1503 = .ok (.dload 5, 2) := by decide +kernel
theorem dL_law_1505 : decode cL_law 1505 = .ok (.dload 5, 2) := by decide +kernel
theorem dL_law_1507 : decode cL_law 1507 = .ok (.dcmp .l, 1) := by decide +kernel
theorem dL_law_1508 : decode cL_law 1508 = .ok (.ifCond .eq 11, 3) := by decide +kernel
theorem dL_law_1511 : decode cL_law 1511 = .ok (.dload 7, 2) := by decide +kernel
theorem dL_law_1513 : decode cL_law 1513 = .ok (.dload 7, 2) := by decide +kernel
theorem dL_law_1515 : decode cL_law 1515 = .ok (.dcmp .l, 1) := by decide +kernel
theorem dL_law_1516 : decode cL_law 1516 = .ok (.ifCond .ne 5, 3) := by decide +kernel
theorem dL_law_1519 : decode cL_law 1519 = .ok (.iconst 0, 1) := by decide +kernel
theorem dL_law_1520 : decode cL_law 1520 = .ok (.ireturn, 1) := by decide +kernel
theorem dL_law_1521 : decode cL_law 1521 = .ok (.goto 17, 3) := by decide +kernel
theorem dL_law_1524 : decode cL_law 1524 = .ok (.aload_n 1, 1) := by decide +kernel
theorem dL_law_1525 : decode cL_law 1525 = .ok (.invokevirtual 153, 3) := by decide +kernel
theorem dL_law_1528 : decode cL_law 1528 = .ok (.aload_n 2, 1) := by decide +kernel
theorem dL_law_1529 : decode cL_law 1529 = .ok (.invokevirtual 157, 3) := by decide +kernel
theorem dL_law_1532 : decode cL_law 1532 = .ok (.lcmp, 1) := by decide +kernel
theorem dL_law_1533 : decode cL_law 1533 = .ok (.ifCond .eq 5, 3) := by decide +kernel
theorem dL_law_1536 : decode cL_law 1536 = .ok (.iconst 0, 1) := by decide +kernel
theorem dL_law_1537 : decode cL_law 1537 = .ok (.ireturn, 1) := by decide +kernel
theorem dL_law_1538 : decode cL_law 1538 = .ok (.iinc 4 5, 3) := by decide +kernel
theorem dL_law_1541 : decode cL_law 1541 = .ok (.goto (-1518), 3) := by decide +kernel
theorem dL_law_1544 : decode cL_law 1544 = .ok (.iconst 1, 1) := by decide +kernel
theorem dL_law_1545 : decode cL_law 1545 = .ok (.ireturn, 1) := by decide +kernel
-- decode rows of X0
theorem dX0_init_0 : decode cX0_init 0 = .ok (.aload_n 0, 1) := by decide +kernel
theorem dX0_init_1 : decode cX0_init 1 = .ok (.invokespecial 3, 3) := by decide +kernel
theorem dX0_init_4 : decode cX0_init 4 = .ok (.aload_n 0, 1) := by decide +kernel
theorem dX0_init_5 : decode cX0_init 5 = .ok (.new 9, 3) := by decide +kernel
theorem dX0_init_8 : decode cX0_init 8 = .ok (.dup, 1) := by decide +kernel
theorem dX0_init_9 : decode cX0_init 9 = .ok (.invokespecial 11, 3) := by decide +kernel
theorem dX0_init_12 : decode cX0_init 12 = .ok (.putfield 12, 3) := by decide +kernel
theorem dX0_init_15 : decode cX0_init 15 = .ok (.aload_n 0, 1) := by decide +kernel
theorem dX0_init_16 : decode cX0_init 16 = .ok (.new 18, 3) := by decide +kernel
theorem dX0_init_19 : decode cX0_init 19 = .ok (.dup, 1) := by decide +kernel
theorem dX0_init_20 : decode cX0_init 20 = .ok (.invokespecial 20, 3) := by decide +kernel
theorem dX0_init_23 : decode cX0_init 23 = .ok (.putfield 21, 3) := by decide +kernel
theorem dX0_init_26 : decode cX0_init 26 = .ok (.aload_n 0, 1) := by decide +kernel
theorem dX0_init_27 : decode cX0_init 27 = .ok (.new 25, 3) := by decide +kernel
theorem dX0_init_30 : decode cX0_init 30 = .ok (.dup, 1) := by decide +kernel
theorem dX0_init_31 : decode cX0_init 31 = .ok (.invokespecial 27, 3) := by decide +kernel
theorem dX0_init_34 : decode cX0_init 34 = .ok (.putfield 28, 3) := by decide +kernel
theorem dX0_init_37 : decode cX0_init 37 = .ok (.aload_n 0, 1) := by decide +kernel
theorem dX0_init_38 : decode cX0_init 38 = .ok (.new 32, 3) := by decide +kernel
theorem dX0_init_41 : decode cX0_init 41 = .ok (.dup, 1) := by decide +kernel
theorem dX0_init_42 : decode cX0_init 42 = .ok (.invokespecial 34, 3) := by decide +kernel
theorem dX0_init_45 : decode cX0_init 45 = .ok (.putfield 35, 3) := by decide +kernel
theorem dX0_init_48 : decode cX0_init 48 = .ok (.return_, 1) := by decide +kernel
theorem dX0_holdOf_0 : decode cX0_holdOf 0 = .ok (.aload_n 0, 1) := by decide +kernel
theorem dX0_holdOf_1 : decode cX0_holdOf 1 = .ok (.getfield 21, 3) := by decide +kernel
theorem dX0_holdOf_4 : decode cX0_holdOf 4 = .ok (.getfield 39, 3) := by decide +kernel
theorem dX0_holdOf_7 : decode cX0_holdOf 7 = .ok (.iload_n 1, 1) := by decide +kernel
theorem dX0_holdOf_8 : decode cX0_holdOf 8 = .ok (.iaload, 1) := by decide +kernel
theorem dX0_holdOf_9 : decode cX0_holdOf 9 = .ok (.istore_n 2, 1) := by decide +kernel
theorem dX0_holdOf_10 : decode cX0_holdOf 10 = .ok (.iload_n 2, 1) := by decide +kernel
theorem dX0_holdOf_11 : decode cX0_holdOf 11 = .ok (.invokestatic 43, 3) := by decide +kernel
theorem dX0_holdOf_14 : decode cX0_holdOf 14 = .ok (.ifCond .eq 17, 3) := by decide +kernel
theorem dX0_holdOf_17 : decode cX0_holdOf 17 = .ok (.iconst 4, 1) := by decide +kernel
theorem dX0_holdOf_18 : decode cX0_holdOf 18 = .ok (.aload_n 0, 1) := by decide +kernel
theorem dX0_holdOf_19 : decode cX0_holdOf 19 = .ok (.getfield 12, 3) := by decide +kernel
theorem dX0_holdOf_22 : decode cX0_holdOf 22 = .ok (.getfield 47, 3) := by decide +kernel
theorem dX0_holdOf_25 : decode cX0_holdOf 25 = .ok (.iload_n 2, 1) := by decide +kernel
theorem dX0_holdOf_26 : decode cX0_holdOf 26 = .ok (.iaload, 1) := by decide +kernel
theorem dX0_holdOf_27 : decode cX0_holdOf 27 = .ok (.imul, 1) := by decide +kernel
theorem dX0_holdOf_28 : decode cX0_holdOf 28 = .ok (.goto 4, 3) := by decide +kernel
theorem dX0_holdOf_31 : decode cX0_holdOf 31 = .ok (.iconst 0, 1) := by decide +kernel
theorem dX0_holdOf_32 : decode cX0_holdOf 32 = .ok (.ireturn, 1) := by decide +kernel
theorem dX0_ropesToPegsIn_0 : decode cX0_ropesToPegsIn 0 = .ok (.aload_n 0, 1) := by decide +kernel
theorem dX0_ropesToPegsIn_1 : decode cX0_ropesToPegsIn 1 = .ok (.getfield 28, 3) := by decide +kernel
theorem dX0_ropesToPegsIn_4 : decode cX0_ropesToPegsIn 4 = .ok (.getfield 50, 3) := by decide +kernel
theorem dX0_ropesToPegsIn_7 : decode cX0_ropesToPegsIn 7 = .ok (.iload_n 1, 1) := by decide +kernel
theorem dX0_ropesToPegsIn_8 : decode cX0_ropesToPegsIn 8 = .ok (.iaload, 1) := by decide +kernel
theorem dX0_ropesToPegsIn_9 : decode cX0_ropesToPegsIn 9 = .ok (.aload_n 0, 1) := by decide +kernel
theorem dX0_ropesToPegsIn_10 : decode cX0_ropesToPegsIn 10 = .ok (.getfield 21, 3) := by decide +kernel
theorem dX0_ropesToPegsIn_13 : decode cX0_ropesToPegsIn 13 = .ok (.getfield 53, 3) := by decide +kernel
theorem dX0_ropesToPegsIn_16 : decode cX0_ropesToPegsIn 16 = .ok (.iand, 1) := by decide +kernel
theorem dX0_ropesToPegsIn_17 : decode cX0_ropesToPegsIn 17 = .ok (.invokestatic 57, 3) := by decide +kernel
theorem dX0_ropesToPegsIn_20 : decode cX0_ropesToPegsIn 20 = .ok (.ireturn, 1) := by decide +kernel
theorem dX0_ropesOnSide_0 : decode cX0_ropesOnSide 0 = .ok (.iconst 0, 1) := by decide +kernel
theorem dX0_ropesOnSide_1 : decode cX0_ropesOnSide 1 = .ok (.istore_n 3, 1) := by decide +kernel
theorem dX0_ropesOnSide_2 : decode cX0_ropesOnSide 2 = .ok (.iconst 0, 1) := by decide +kernel
theorem dX0_ropesOnSide_3 : decode cX0_ropesOnSide 3 = .ok (.istore 4, 2) := by decide +kernel
theorem dX0_ropesOnSide_5 : decode cX0_ropesOnSide 5 = .ok (.iload 4, 2) := by decide +kernel
theorem dX0_ropesOnSide_7 : decode cX0_ropesOnSide 7 = .ok (.aload_n 0, 1) := by decide +kernel
theorem dX0_ropesOnSide_8 : decode cX0_ropesOnSide 8 = .ok (.getfield 21, 3) := by decide +kernel
theorem dX0_ropesOnSide_11 : decode cX0_ropesOnSide 11 = .ok (.getfield 63, 3) := by decide +kernel
theorem dX0_ropesOnSide_14 : decode cX0_ropesOnSide 14 = .ok (.if_icmp .ge 55, 3) := by decide +kernel
theorem dX0_ropesOnSide_17 : decode cX0_ropesOnSide 17 = .ok (.aload_n 0, 1) := by decide +kernel
theorem dX0_ropesOnSide_18 : decode cX0_ropesOnSide 18 = .ok (.getfield 28, 3) := by decide +kernel
theorem dX0_ropesOnSide_21 : decode cX0_ropesOnSide 21 = .ok (.iload_n 1, 1) := by decide +kernel
theorem dX0_ropesOnSide_22 : decode cX0_ropesOnSide 22 = .ok (.iload 4, 2) := by decide +kernel
theorem dX0_ropesOnSide_24 : decode cX0_ropesOnSide 24 = .ok (.invokevirtual 66, 3) := by decide +kernel
theorem dX0_ropesOnSide_27 : decode cX0_ropesOnSide 27 = .ok (.ifCond .eq 36, 3) := by decide +kernel
theorem dX0_ropesOnSide_30 : decode cX0_ropesOnSide 30 = .ok (.aload_n 0, 1) := by decide +kernel
theorem dX0_ropesOnSide_31 : decode cX0_ropesOnSide 31 = .ok (.getfield 21, 3) := by decide +kernel
theorem dX0_ropesOnSide_34 : decode cX0_ropesOnSide 34 = .ok (.getfield 39, 3) := by decide +kernel
theorem dX0_ropesOnSide_37 : decode cX0_ropesOnSide 37 = .ok (.iload 4, 2) := by decide +kernel
theorem dX0_ropesOnSide_39 : decode cX0_ropesOnSide 39 = .ok (.iaload, 1) := by decide +kernel
theorem dX0_ropesOnSide_40 : decode cX0_ropesOnSide 40 = .ok (.aload_n 0, 1) := by decide +kernel
theorem dX0_ropesOnSide_41 : decode cX0_ropesOnSide 41 = .ok (.getfield 28, 3) := by decide +kernel
theorem dX0_ropesOnSide_44 : decode cX0_ropesOnSide 44 = .ok (.getfield 70, 3) := by decide +kernel
theorem dX0_ropesOnSide_47 : decode cX0_ropesOnSide 47 = .ok (.iload_n 1, 1) := by decide +kernel
theorem dX0_ropesOnSide_48 : decode cX0_ropesOnSide 48 = .ok (.iaload, 1) := by decide +kernel
theorem dX0_ropesOnSide_49 : decode cX0_ropesOnSide 49 = .ok (.iload_n 2, 1) := by decide +kernel
theorem dX0_ropesOnSide_50 : decode cX0_ropesOnSide 50 = .ok (.invokestatic 71, 3) := by decide +kernel
theorem dX0_ropesOnSide_53 : decode cX0_ropesOnSide 53 = .ok (.ifCond .eq 10, 3) := by decide +kernel
theorem dX0_ropesOnSide_56 : decode cX0_ropesOnSide 56 = .ok (.iload_n 3, 1) := by decide +kernel
theorem dX0_ropesOnSide_57 : decode cX0_ropesOnSide 57 = .ok (.iconst 1, 1) := by decide +kernel
theorem dX0_ropesOnSide_58 : decode cX0_ropesOnSide 58 = .ok (.iload 4, 2) := by decide +kernel
theorem dX0_ropesOnSide_60 : decode cX0_ropesOnSide 60 = .ok (.ishl, 1) := by decide +kernel
theorem dX0_ropesOnSide_61 : decode cX0_ropesOnSide 61 = .ok (.ior, 1) := by decide +kernel
theorem dX0_ropesOnSide_62 : decode cX0_ropesOnSide 62 = .ok (.istore_n 3, 1) := by decide +kernel
theorem dX0_ropesOnSide_63 : decode cX0_ropesOnSide 63 = .ok (.iinc 4 1, 3) := by decide +kernel
theorem dX0_ropesOnSide_66 : decode cX0_ropesOnSide 66 = .ok (.goto (-61), 3) := by decide +kernel
theorem dX0_ropesOnSide_69 : decode cX0_ropesOnSide 69 = .ok (.iload_n 3, 1) := by decide +kernel
theorem dX0_ropesOnSide_70 : decode cX0_ropesOnSide 70 = .ok (.ireturn, 1) := by decide +kernel
theorem dX0_isOnSide_0 : decode cX0_isOnSide 0 = .ok (.iload_n 2, 1) := by decide +kernel
theorem dX0_isOnSide_1 : decode cX0_isOnSide 1 = .ok (.tableswitch 78 0 2 #[27, 44, 61], 27) := by decide +kernel
theorem dX0_isOnSide_28 : decode cX0_isOnSide 28 = .ok (.iload_n 0, 1) := by decide +kernel
theorem dX0_isOnSide_29 : decode cX0_isOnSide 29 = .ok (.bipush 10, 2) := by decide +kernel
theorem dX0_isOnSide_31 : decode cX0_isOnSide 31 = .ok (.idiv, 1) := by decide +kernel
theorem dX0_isOnSide_32 : decode cX0_isOnSide 32 = .ok (.iload_n 1, 1) := by decide +kernel
theorem dX0_isOnSide_33 : decode cX0_isOnSide 33 = .ok (.bipush 10, 2) := by decide +kernel
theorem dX0_isOnSide_35 : decode cX0_isOnSide 35 = .ok (.idiv, 1) := by decide +kernel
theorem dX0_isOnSide_36 : decode cX0_isOnSide 36 = .ok (.if_icmp .ge 7, 3) := by decide +kernel
theorem dX0_isOnSide_39 : decode cX0_isOnSide 39 = .ok (.iconst 1, 1) := by decide +kernel
theorem dX0_isOnSide_40 : decode cX0_isOnSide 40 = .ok (.goto 4, 3) := by decide +kernel
theorem dX0_isOnSide_43 : decode cX0_isOnSide 43 = .ok (.iconst 0, 1) := by decide +kernel
theorem dX0_isOnSide_44 : decode cX0_isOnSide 44 = .ok (.ireturn, 1) := by decide +kernel
theorem dX0_isOnSide_45 : decode cX0_isOnSide 45 = .ok (.iload_n 0, 1) := by decide +kernel
theorem dX0_isOnSide_46 : decode cX0_isOnSide 46 = .ok (.bipush 10, 2) := by decide +kernel
theorem dX0_isOnSide_48 : decode cX0_isOnSide 48 = .ok (.irem, 1) := by decide +kernel
theorem dX0_isOnSide_49 : decode cX0_isOnSide 49 = .ok (.iload_n 1, 1) := by decide +kernel
theorem dX0_isOnSide_50 : decode cX0_isOnSide 50 = .ok (.bipush 10, 2) := by decide +kernel
theorem dX0_isOnSide_52 : decode cX0_isOnSide 52 = .ok (.irem, 1) := by decide +kernel
theorem dX0_isOnSide_53 : decode cX0_isOnSide 53 = .ok (.if_icmp .le 7, 3) := by decide +kernel
theorem dX0_isOnSide_56 : decode cX0_isOnSide 56 = .ok (.iconst 1, 1) := by decide +kernel
theorem dX0_isOnSide_57 : decode cX0_isOnSide 57 = .ok (.goto 4, 3) := by decide +kernel
theorem dX0_isOnSide_60 : decode cX0_isOnSide 60 = .ok (.iconst 0, 1) := by decide +kernel
theorem dX0_isOnSide_61 : decode cX0_isOnSide 61 = .ok (.ireturn, 1) := by decide +kernel
theorem dX0_isOnSide_62 : decode cX0_isOnSide 62 = .ok (.iload_n 0, 1) := by decide +kernel
theorem dX0_isOnSide_63 : decode cX0_isOnSide 63 = .ok (.bipush 10, 2) := by decide +kernel
theorem dX0_isOnSide_65 : decode cX0_isOnSide 65 = .ok (.idiv, 1) := by decide +kernel
theorem dX0_isOnSide_66 : decode cX0_isOnSide 66 = .ok (.iload_n 1, 1) := by decide +kernel
theorem dX0_isOnSide_67 : decode cX0_isOnSide 67 = .ok (.bipush 10, 2) := by decide +kernel
theorem dX0_isOnSide_69 : decode cX0_isOnSide 69 = .ok (.idiv, 1) := by decide +kernel
theorem dX0_isOnSide_70 : decode cX0_isOnSide 70 = .ok (.if_icmp .le 7, 3) := by decide +kernel
theorem dX0_isOnSide_73 : decode cX0_isOnSide 73 = .ok (.iconst 1, 1) := by decide +kernel
theorem dX0_isOnSide_74 : decode cX0_isOnSide 74 = .ok (.goto 4, 3) := by decide +kernel
theorem dX0_isOnSide_77 : decode cX0_isOnSide 77 = .ok (.iconst 0, 1) := by decide +kernel
theorem dX0_isOnSide_78 : decode cX0_isOnSide 78 = .ok (.ireturn, 1) := by decide +kernel
theorem dX0_isOnSide_79 : decode cX0_isOnSide 79 = .ok (.iload_n 0, 1) := by decide +kernel
theorem dX0_isOnSide_80 : decode cX0_isOnSide 80 = .ok (.bipush 10, 2) := by decide +kernel
theorem dX0_isOnSide_82 : decode cX0_isOnSide 82 = .ok (.irem, 1) := by decide +kernel
theorem dX0_isOnSide_83 : decode cX0_isOnSide 83 = .ok (.iload_n 1, 1) := by decide +kernel
theorem dX0_isOnSide_84 : decode cX0_isOnSide 84 = .ok (.bipush 10, 2) := by decide +kernel
theorem dX0_isOnSide_86 : decode cX0_isOnSide 86 = .ok (.irem, 1) := by decide +kernel
theorem dX0_isOnSide_87 : decode cX0_isOnSide 87 = .ok (.if_icmp .ge 7, 3) := by decide +kernel
theorem dX0_isOnSide_90 : decode cX0_isOnSide 90 = .ok (.iconst 1, 1) := by decide +kernel
theorem dX0_isOnSide_91 : decode cX0_isOnSide 91 = .ok (.goto 4, 3) := by decide +kernel
theorem dX0_isOnSide_94 : decode cX0_isOnSide 94 = .ok (.iconst 0, 1) := by decide +kernel
theorem dX0_isOnSide_95 : decode cX0_isOnSide 95 = .ok (.ireturn, 1) := by decide +kernel
theorem dX0_forceBorneBy_0 : decode cX0_forceBorneBy 0 = .ok (.bipush 9, 2) := by decide +kernel
theorem dX0_forceBorneBy_2 : decode cX0_forceBorneBy 2 = .ok (.istore_n 3, 1) := by decide +kernel
theorem dX0_forceBorneBy_3 : decode cX0_forceBorneBy 3 = .ok (.iload_n 3, 1) := by decide +kernel
theorem dX0_forceBorneBy_4 : decode cX0_forceBorneBy 4 = .ok (.ifCond .le 34, 3) := by decide +kernel
theorem dX0_forceBorneBy_7 : decode cX0_forceBorneBy 7 = .ok (.aload_n 0, 1) := by decide +kernel
theorem dX0_forceBorneBy_8 : decode cX0_forceBorneBy 8 = .ok (.getfield 35, 3) := by decide +kernel
theorem dX0_forceBorneBy_11 : decode cX0_forceBorneBy 11 = .ok (.aload_n 0, 1) := by decide +kernel
theorem dX0_forceBorneBy_12 : decode cX0_forceBorneBy 12 = .ok (.iload_n 3, 1) := by decide +kernel
theorem dX0_forceBorneBy_13 : decode cX0_forceBorneBy 13 = .ok (.iload_n 2, 1) := by decide +kernel
theorem dX0_forceBorneBy_14 : decode cX0_forceBorneBy 14 = .ok (.invokevirtual 75, 3) := by decide +kernel
theorem dX0_forceBorneBy_17 : decode cX0_forceBorneBy 17 = .ok (.aload_n 0, 1) := by decide +kernel
theorem dX0_forceBorneBy_18 : decode cX0_forceBorneBy 18 = .ok (.getfield 35, 3) := by decide +kernel
theorem dX0_forceBorneBy_21 : decode cX0_forceBorneBy 21 = .ok (.getfield 79, 3) := by decide +kernel
theorem dX0_forceBorneBy_24 : decode cX0_forceBorneBy 24 = .ok (.iload_n 1, 1) := by decide +kernel
theorem dX0_forceBorneBy_25 : decode cX0_forceBorneBy 25 = .ok (.iand, 1) := by decide +kernel
theorem dX0_forceBorneBy_26 : decode cX0_forceBorneBy 26 = .ok (.iload_n 1, 1) := by decide +kernel
theorem dX0_forceBorneBy_27 : decode cX0_forceBorneBy 27 = .ok (.if_icmp .ne 5, 3) := by decide +kernel
theorem dX0_forceBorneBy_30 : decode cX0_forceBorneBy 30 = .ok (.iload_n 3, 1) := by decide +kernel
theorem dX0_forceBorneBy_31 : decode cX0_forceBorneBy 31 = .ok (.ireturn, 1) := by decide +kernel
theorem dX0_forceBorneBy_32 : decode cX0_forceBorneBy 32 = .ok (.iinc 3 (-1), 3) := by decide +kernel
theorem dX0_forceBorneBy_35 : decode cX0_forceBorneBy 35 = .ok (.goto (-32), 3) := by decide +kernel
theorem dX0_forceBorneBy_38 : decode cX0_forceBorneBy 38 = .ok (.iconst 0, 1) := by decide +kernel
theorem dX0_forceBorneBy_39 : decode cX0_forceBorneBy 39 = .ok (.ireturn, 1) := by decide +kernel
theorem dX0_bestNewRope_0 : decode cX0_bestNewRope 0 = .ok (.iconst (-1), 1) := by decide +kernel
theorem dX0_bestNewRope_1 : decode cX0_bestNewRope 1 = .ok (.istore_n 3, 1) := by decide +kernel
theorem dX0_bestNewRope_2 : decode cX0_bestNewRope 2 = .ok (.aload_n 0, 1) := by decide +kernel
theorem dX0_bestNewRope_3 : decode cX0_bestNewRope 3 = .ok (.iconst 1, 1) := by decide +kernel
theorem dX0_bestNewRope_4 : decode cX0_bestNewRope 4 = .ok (.iload_n 1, 1) := by decide +kernel
theorem dX0_bestNewRope_5 : decode cX0_bestNewRope 5 = .ok (.ishl, 1) := by decide +kernel
theorem dX0_bestNewRope_6 : decode cX0_bestNewRope 6 = .ok (.iload_n 2, 1) := by decide +kernel
theorem dX0_bestNewRope_7 : decode cX0_bestNewRope 7 = .ok (.invokevirtual 82, 3) := by decide +kernel
theorem dX0_bestNewRope_10 : decode cX0_bestNewRope 10 = .ok (.istore 4, 2) := by decide +kernel
theorem dX0_bestNewRope_12 : decode cX0_bestNewRope 12 = .ok (.iconst 0, 1) := by decide +kernel
theorem dX0_bestNewRope_13 : decode cX0_bestNewRope 13 = .ok (.istore 5, 2) := by decide +kernel
theorem dX0_bestNewRope_15 : decode cX0_bestNewRope 15 = .ok (.iload 5, 2) := by decide +kernel
theorem dX0_bestNewRope_17 : decode cX0_bestNewRope 17 = .ok (.aload_n 0, 1) := by decide +kernel
theorem dX0_bestNewRope_18 : decode cX0_bestNewRope 18 = .ok (.getfield 21, 3) := by decide +kernel
theorem dX0_bestNewRope_21 : decode cX0_bestNewRope 21 = .ok (.getfield 63, 3) := by decide +kernel
theorem dX0_bestNewRope_24 : decode cX0_bestNewRope 24 = .ok (.if_icmp .ge 66, 3) := by decide +kernel
theorem dX0_bestNewRope_27 : decode cX0_bestNewRope 27 = .ok (.aload_n 0, 1) := by decide +kernel
theorem dX0_bestNewRope_28 : decode cX0_bestNewRope 28 = .ok (.getfield 28, 3) := by decide +kernel
theorem dX0_bestNewRope_31 : decode cX0_bestNewRope 31 = .ok (.iload_n 1, 1) := by decide +kernel
theorem dX0_bestNewRope_32 : decode cX0_bestNewRope 32 = .ok (.iload 5, 2) := by decide +kernel
theorem dX0_bestNewRope_34 : decode cX0_bestNewRope 34 = .ok (.invokevirtual 66, 3) := by decide +kernel
theorem dX0_bestNewRope_37 : decode cX0_bestNewRope 37 = .ok (.ifCond .ne 47, 3) := by decide +kernel
theorem dX0_bestNewRope_40 : decode cX0_bestNewRope 40 = .ok (.aload_n 0, 1) := by decide +kernel
theorem dX0_bestNewRope_41 : decode cX0_bestNewRope 41 = .ok (.getfield 28, 3) := by decide +kernel
theorem dX0_bestNewRope_44 : decode cX0_bestNewRope 44 = .ok (.iload_n 1, 1) := by decide +kernel
theorem dX0_bestNewRope_45 : decode cX0_bestNewRope 45 = .ok (.iload 5, 2) := by decide +kernel
theorem dX0_bestNewRope_47 : decode cX0_bestNewRope 47 = .ok (.invokevirtual 86, 3) := by decide +kernel
theorem dX0_bestNewRope_50 : decode cX0_bestNewRope 50 = .ok (.aload_n 0, 1) := by decide +kernel
theorem dX0_bestNewRope_51 : decode cX0_bestNewRope 51 = .ok (.iconst 1, 1) := by decide +kernel
theorem dX0_bestNewRope_52 : decode cX0_bestNewRope 52 = .ok (.iload_n 1, 1) := by decide +kernel
theorem dX0_bestNewRope_53 : decode cX0_bestNewRope 53 = .ok (.ishl, 1) := by decide +kernel
theorem dX0_bestNewRope_54 : decode cX0_bestNewRope 54 = .ok (.iload_n 2, 1) := by decide +kernel
theorem dX0_bestNewRope_55 : decode cX0_bestNewRope 55 = .ok (.invokevirtual 82, 3) := by decide +kernel
theorem dX0_bestNewRope_58 : decode cX0_bestNewRope 58 = .ok (.istore 6, 2) := by decide +kernel
theorem dX0_bestNewRope_60 : decode cX0_bestNewRope 60 = .ok (.aload_n 0, 1) := by decide +kernel
theorem dX0_bestNewRope_61 : decode cX0_bestNewRope 61 = .ok (.getfield 28, 3) := by decide +kernel
theorem dX0_bestNewRope_64 : decode cX0_bestNewRope 64 = .ok (.iload_n 1, 1) := by decide +kernel
theorem dX0_bestNewRope_65 : decode cX0_bestNewRope 65 = .ok (.iload 5, 2) := by decide +kernel
theorem dX0_bestNewRope_67 : decode cX0_bestNewRope 67 = .ok (.invokevirtual 86, 3) := by decide +kernel
theorem dX0_bestNewRope_70 : decode cX0_bestNewRope 70 = .ok (.iload 6, 2) := by decide +kernel
theorem dX0_bestNewRope_72 : decode cX0_bestNewRope 72 = .ok (.iload 4, 2) := by decide +kernel
theorem dX0_bestNewRope_74 : decode cX0_bestNewRope 74 = .ok (.if_icmp .le 10, 3) := by decide +kernel
theorem dX0_bestNewRope_77 : decode cX0_bestNewRope 77 = .ok (.iload 5, 2) := by decide +kernel
theorem dX0_bestNewRope_79 : decode cX0_bestNewRope 79 = .ok (.istore_n 3, 1) := by decide +kernel
theorem dX0_bestNewRope_80 : decode cX0_bestNewRope 80 = .ok (.iload 6, 2) := by decide +kernel
theorem dX0_bestNewRope_82 : decode cX0_bestNewRope 82 = .ok (.istore 4, 2) := by decide +kernel
theorem dX0_bestNewRope_84 : decode cX0_bestNewRope 84 = .ok (.iinc 5 1, 3) := by decide +kernel
theorem dX0_bestNewRope_87 : decode cX0_bestNewRope 87 = .ok (.goto (-72), 3) := by decide +kernel
theorem dX0_bestNewRope_90 : decode cX0_bestNewRope 90 = .ok (.iload_n 3, 1) := by decide +kernel
theorem dX0_bestNewRope_91 : decode cX0_bestNewRope 91 = .ok (.ireturn, 1) := by decide +kernel
theorem dX0_sleep_0 : decode cX0_sleep 0 = .ok (.iconst 0, 1) := by decide +kernel
theorem dX0_sleep_1 : decode cX0_sleep 1 = .ok (.istore_n 3, 1) := by decide +kernel
theorem dX0_sleep_2 : decode cX0_sleep 2 = .ok (.iload_n 3, 1) := by decide +kernel
theorem dX0_sleep_3 : decode cX0_sleep 3 = .ok (.iload_n 1, 1) := by decide +kernel
theorem dX0_sleep_4 : decode cX0_sleep 4 = .ok (.if_icmp .ge 14, 3) := by decide +kernel
theorem dX0_sleep_7 : decode cX0_sleep 7 = .ok (.aload_n 0, 1) := by decide +kernel
theorem dX0_sleep_8 : decode cX0_sleep 8 = .ok (.aload_n 2, 1) := by decide +kernel
theorem dX0_sleep_9 : decode cX0_sleep 9 = .ok (.invokevirtual 90, 3) := by decide +kernel
theorem dX0_sleep_12 : decode cX0_sleep 12 = .ok (.iinc 3 1, 3) := by decide +kernel
theorem dX0_sleep_15 : decode cX0_sleep 15 = .ok (.goto (-13), 3) := by decide +kernel
theorem dX0_sleep_18 : decode cX0_sleep 18 = .ok (.return_, 1) := by decide +kernel
theorem dX0_sleepOnce_0 : decode cX0_sleepOnce 0 = .ok (.aload_n 0, 1) := by decide +kernel
theorem dX0_sleepOnce_1 : decode cX0_sleepOnce 1 = .ok (.getfield 94, 3) := by decide +kernel
theorem dX0_sleepOnce_4 : decode cX0_sleepOnce 4 = .ok (.bipush 7, 2) := by decide +kernel
theorem dX0_sleepOnce_6 : decode cX0_sleepOnce 6 = .ok (.invokestatic 97, 3) := by decide +kernel
theorem dX0_sleepOnce_9 : decode cX0_sleepOnce 9 = .ok (.istore_n 2, 1) := by decide +kernel
theorem dX0_sleepOnce_10 : decode cX0_sleepOnce 10 = .ok (.aload_n 0, 1) := by decide +kernel
theorem dX0_sleepOnce_11 : decode cX0_sleepOnce 11 = .ok (.getfield 35, 3) := by decide +kernel
theorem dX0_sleepOnce_14 : decode cX0_sleepOnce 14 = .ok (.aload_n 0, 1) := by decide +kernel
theorem dX0_sleepOnce_15 : decode cX0_sleepOnce 15 = .ok (.aload_n 1, 1) := by decide +kernel
theorem dX0_sleepOnce_16 : decode cX0_sleepOnce 16 = .ok (.getfield 102, 3) := by decide +kernel
theorem dX0_sleepOnce_19 : decode cX0_sleepOnce 19 = .ok (.iload_n 2, 1) := by decide +kernel
theorem dX0_sleepOnce_20 : decode cX0_sleepOnce 20 = .ok (.iaload, 1) := by decide +kernel
theorem dX0_sleepOnce_21 : decode cX0_sleepOnce 21 = .ok (.aload_n 1, 1) := by decide +kernel
theorem dX0_sleepOnce_22 : decode cX0_sleepOnce 22 = .ok (.getfield 107, 3) := by decide +kernel
theorem dX0_sleepOnce_25 : decode cX0_sleepOnce 25 = .ok (.iload_n 2, 1) := by decide +kernel
theorem dX0_sleepOnce_26 : decode cX0_sleepOnce 26 = .ok (.iaload, 1) := by decide +kernel
theorem dX0_sleepOnce_27 : decode cX0_sleepOnce 27 = .ok (.invokevirtual 75, 3) := by decide +kernel
theorem dX0_sleepOnce_30 : decode cX0_sleepOnce 30 = .ok (.aload_n 0, 1) := by decide +kernel
theorem dX0_sleepOnce_31 : decode cX0_sleepOnce 31 = .ok (.getfield 28, 3) := by decide +kernel
theorem dX0_sleepOnce_34 : decode cX0_sleepOnce 34 = .ok (.aload_n 0, 1) := by decide +kernel
theorem dX0_sleepOnce_35 : decode cX0_sleepOnce 35 = .ok (.getfield 35, 3) := by decide +kernel
theorem dX0_sleepOnce_38 : decode cX0_sleepOnce 38 = .ok (.getfield 79, 3) := by decide +kernel
theorem dX0_sleepOnce_41 : decode cX0_sleepOnce 41 = .ok (.putfield 110, 3) := by decide +kernel
theorem dX0_sleepOnce_44 : decode cX0_sleepOnce 44 = .ok (.aload_n 0, 1) := by decide +kernel
theorem dX0_sleepOnce_45 : decode cX0_sleepOnce 45 = .ok (.getfield 21, 3) := by decide +kernel
theorem dX0_sleepOnce_48 : decode cX0_sleepOnce 48 = .ok (.aload_n 0, 1) := by decide +kernel
theorem dX0_sleepOnce_49 : decode cX0_sleepOnce 49 = .ok (.getfield 35, 3) := by decide +kernel
theorem dX0_sleepOnce_52 : decode cX0_sleepOnce 52 = .ok (.getfield 111, 3) := by decide +kernel
theorem dX0_sleepOnce_55 : decode cX0_sleepOnce 55 = .ok (.putfield 53, 3) := by decide +kernel
theorem dX0_sleepOnce_58 : decode cX0_sleepOnce 58 = .ok (.aload_n 0, 1) := by decide +kernel
theorem dX0_sleepOnce_59 : decode cX0_sleepOnce 59 = .ok (.getfield 12, 3) := by decide +kernel
theorem dX0_sleepOnce_62 : decode cX0_sleepOnce 62 = .ok (.aload_n 1, 1) := by decide +kernel
theorem dX0_sleepOnce_63 : decode cX0_sleepOnce 63 = .ok (.getfield 114, 3) := by decide +kernel
theorem dX0_sleepOnce_66 : decode cX0_sleepOnce 66 = .ok (.iload_n 2, 1) := by decide +kernel
theorem dX0_sleepOnce_67 : decode cX0_sleepOnce 67 = .ok (.iaload, 1) := by decide +kernel
theorem dX0_sleepOnce_68 : decode cX0_sleepOnce 68 = .ok (.invokevirtual 117, 3) := by decide +kernel
theorem dX0_sleepOnce_71 : decode cX0_sleepOnce 71 = .ok (.aload_n 0, 1) := by decide +kernel
theorem dX0_sleepOnce_72 : decode cX0_sleepOnce 72 = .ok (.aload_n 1, 1) := by decide +kernel
theorem dX0_sleepOnce_73 : decode cX0_sleepOnce 73 = .ok (.getfield 114, 3) := by decide +kernel
theorem dX0_sleepOnce_76 : decode cX0_sleepOnce 76 = .ok (.iload_n 2, 1) := by decide +kernel
theorem dX0_sleepOnce_77 : decode cX0_sleepOnce 77 = .ok (.iaload, 1) := by decide +kernel
theorem dX0_sleepOnce_78 : decode cX0_sleepOnce 78 = .ok (.invokevirtual 121, 3) := by decide +kernel
theorem dX0_sleepOnce_81 : decode cX0_sleepOnce 81 = .ok (.aload_n 0, 1) := by decide +kernel
theorem dX0_sleepOnce_82 : decode cX0_sleepOnce 82 = .ok (.getfield 12, 3) := by decide +kernel
theorem dX0_sleepOnce_85 : decode cX0_sleepOnce 85 = .ok (.invokevirtual 124, 3) := by decide +kernel
theorem dX0_sleepOnce_88 : decode cX0_sleepOnce 88 = .ok (.aload_n 0, 1) := by decide +kernel
theorem dX0_sleepOnce_89 : decode cX0_sleepOnce 89 = .ok (.dup, 1) := by decide +kernel
theorem dX0_sleepOnce_90 : decode cX0_sleepOnce 90 = .ok (.getfield 94, 3) := by decide +kernel
theorem dX0_sleepOnce_93 : decode cX0_sleepOnce 93 = .ok (.iconst 1, 1) := by decide +kernel
theorem dX0_sleepOnce_94 : decode cX0_sleepOnce 94 = .ok (.iadd, 1) := by decide +kernel
theorem dX0_sleepOnce_95 : decode cX0_sleepOnce 95 = .ok (.putfield 94, 3) := by decide +kernel
theorem dX0_sleepOnce_98 : decode cX0_sleepOnce 98 = .ok (.return_, 1) := by decide +kernel
theorem dX0_wetFloors_0 : decode cX0_wetFloors 0 = .ok (.iconst 0, 1) := by decide +kernel
theorem dX0_wetFloors_1 : decode cX0_wetFloors 1 = .ok (.istore_n 2, 1) := by decide +kernel
theorem dX0_wetFloors_2 : decode cX0_wetFloors 2 = .ok (.iload_n 2, 1) := by decide +kernel
theorem dX0_wetFloors_3 : decode cX0_wetFloors 3 = .ok (.aload_n 0, 1) := by decide +kernel
theorem dX0_wetFloors_4 : decode cX0_wetFloors 4 = .ok (.getfield 28, 3) := by decide +kernel
theorem dX0_wetFloors_7 : decode cX0_wetFloors 7 = .ok (.getfield 127, 3) := by decide +kernel
theorem dX0_wetFloors_10 : decode cX0_wetFloors 10 = .ok (.if_icmp .ge 73, 3) := by decide +kernel
theorem dX0_wetFloors_13 : decode cX0_wetFloors 13 = .ok (.aload_n 0, 1) := by decide +kernel
theorem dX0_wetFloors_14 : decode cX0_wetFloors 14 = .ok (.getfield 28, 3) := by decide +kernel
theorem dX0_wetFloors_17 : decode cX0_wetFloors 17 = .ok (.getfield 110, 3) := by decide +kernel
theorem dX0_wetFloors_20 : decode cX0_wetFloors 20 = .ok (.iload_n 2, 1) := by decide +kernel
theorem dX0_wetFloors_21 : decode cX0_wetFloors 21 = .ok (.invokestatic 130, 3) := by decide +kernel
theorem dX0_wetFloors_24 : decode cX0_wetFloors 24 = .ok (.ifCond .ne 11, 3) := by decide +kernel
theorem dX0_wetFloors_27 : decode cX0_wetFloors 27 = .ok (.iload_n 1, 1) := by decide +kernel
theorem dX0_wetFloors_28 : decode cX0_wetFloors 28 = .ok (.ifCond .le 7, 3) := by decide +kernel
theorem dX0_wetFloors_31 : decode cX0_wetFloors 31 = .ok (.iconst 1, 1) := by decide +kernel
theorem dX0_wetFloors_32 : decode cX0_wetFloors 32 = .ok (.goto 4, 3) := by decide +kernel
theorem dX0_wetFloors_35 : decode cX0_wetFloors 35 = .ok (.iconst 0, 1) := by decide +kernel
theorem dX0_wetFloors_36 : decode cX0_wetFloors 36 = .ok (.istore_n 3, 1) := by decide +kernel
theorem dX0_wetFloors_37 : decode cX0_wetFloors 37 = .ok (.iload_n 3, 1) := by decide +kernel
theorem dX0_wetFloors_38 : decode cX0_wetFloors 38 = .ok (.ifCond .ne 24, 3) := by decide +kernel
theorem dX0_wetFloors_41 : decode cX0_wetFloors 41 = .ok (.aload_n 0, 1) := by decide +kernel
theorem dX0_wetFloors_42 : decode cX0_wetFloors 42 = .ok (.getfield 12, 3) := by decide +kernel
theorem dX0_wetFloors_45 : decode cX0_wetFloors 45 = .ok (.aload_n 0, 1) := by decide +kernel
theorem dX0_wetFloors_46 : decode cX0_wetFloors 46 = .ok (.getfield 28, 3) := by decide +kernel
theorem dX0_wetFloors_49 : decode cX0_wetFloors 49 = .ok (.getfield 70, 3) := by decide +kernel
theorem dX0_wetFloors_52 : decode cX0_wetFloors 52 = .ok (.iload_n 2, 1) := by decide +kernel
theorem dX0_wetFloors_53 : decode cX0_wetFloors 53 = .ok (.iaload, 1) := by decide +kernel
theorem dX0_wetFloors_54 : decode cX0_wetFloors 54 = .ok (.invokevirtual 133, 3) := by decide +kernel
theorem dX0_wetFloors_57 : decode cX0_wetFloors 57 = .ok (.bipush 10, 2) := by decide +kernel
theorem dX0_wetFloors_59 : decode cX0_wetFloors 59 = .ok (.if_icmp .lt 18, 3) := by decide +kernel
theorem dX0_wetFloors_62 : decode cX0_wetFloors 62 = .ok (.aload_n 0, 1) := by decide +kernel
theorem dX0_wetFloors_63 : decode cX0_wetFloors 63 = .ok (.getfield 28, 3) := by decide +kernel
theorem dX0_wetFloors_66 : decode cX0_wetFloors 66 = .ok (.dup, 1) := by decide +kernel
theorem dX0_wetFloors_67 : decode cX0_wetFloors 67 = .ok (.getfield 136, 3) := by decide +kernel
theorem dX0_wetFloors_70 : decode cX0_wetFloors 70 = .ok (.iconst 1, 1) := by decide +kernel
theorem dX0_wetFloors_71 : decode cX0_wetFloors 71 = .ok (.iload_n 2, 1) := by decide +kernel
theorem dX0_wetFloors_72 : decode cX0_wetFloors 72 = .ok (.ishl, 1) := by decide +kernel
theorem dX0_wetFloors_73 : decode cX0_wetFloors 73 = .ok (.ior, 1) := by decide +kernel
theorem dX0_wetFloors_74 : decode cX0_wetFloors 74 = .ok (.putfield 136, 3) := by decide +kernel
theorem dX0_wetFloors_77 : decode cX0_wetFloors 77 = .ok (.iinc 2 1, 3) := by decide +kernel
theorem dX0_wetFloors_80 : decode cX0_wetFloors 80 = .ok (.goto (-78), 3) := by decide +kernel
theorem dX0_wetFloors_83 : decode cX0_wetFloors 83 = .ok (.return_, 1) := by decide +kernel
theorem dX0_copyFrom_0 : decode cX0_copyFrom 0 = .ok (.aload_n 0, 1) := by decide +kernel
theorem dX0_copyFrom_1 : decode cX0_copyFrom 1 = .ok (.getfield 12, 3) := by decide +kernel
theorem dX0_copyFrom_4 : decode cX0_copyFrom 4 = .ok (.aload_n 1, 1) := by decide +kernel
theorem dX0_copyFrom_5 : decode cX0_copyFrom 5 = .ok (.getfield 12, 3) := by decide +kernel
theorem dX0_copyFrom_8 : decode cX0_copyFrom 8 = .ok (.invokevirtual 139, 3) := by decide +kernel
theorem dX0_copyFrom_11 : decode cX0_copyFrom 11 = .ok (.aload_n 0, 1) := by decide +kernel
theorem dX0_copyFrom_12 : decode cX0_copyFrom 12 = .ok (.getfield 21, 3) := by decide +kernel
theorem dX0_copyFrom_15 : decode cX0_copyFrom 15 = .ok (.aload_n 1, 1) := by decide +kernel
theorem dX0_copyFrom_16 : decode cX0_copyFrom 16 = .ok (.getfield 21, 3) := by decide +kernel
theorem dX0_copyFrom_19 : decode cX0_copyFrom 19 = .ok (.invokevirtual 143, 3) := by decide +kernel
theorem dX0_copyFrom_22 : decode cX0_copyFrom 22 = .ok (.aload_n 0, 1) := by decide +kernel
theorem dX0_copyFrom_23 : decode cX0_copyFrom 23 = .ok (.getfield 28, 3) := by decide +kernel
theorem dX0_copyFrom_26 : decode cX0_copyFrom 26 = .ok (.aload_n 1, 1) := by decide +kernel
theorem dX0_copyFrom_27 : decode cX0_copyFrom 27 = .ok (.getfield 28, 3) := by decide +kernel
theorem dX0_copyFrom_30 : decode cX0_copyFrom 30 = .ok (.invokevirtual 146, 3) := by decide +kernel
theorem dX0_copyFrom_33 : decode cX0_copyFrom 33 = .ok (.aload_n 0, 1) := by decide +kernel
theorem dX0_copyFrom_34 : decode cX0_copyFrom 34 = .ok (.aload_n 1, 1) := by decide +kernel
theorem dX0_copyFrom_35 : decode cX0_copyFrom 35 = .ok (.getfield 94, 3) := by decide +kernel
theorem dX0_copyFrom_38 : decode cX0_copyFrom 38 = .ok (.putfield 94, 3) := by decide +kernel
theorem dX0_copyFrom_41 : decode cX0_copyFrom 41 = .ok (.return_, 1) := by decide +kernel
-- decode rows of X1
theorem dX1_init_0 : decode cX1_init 0 = .ok (.aload_n 0, 1) := by decide +kernel
theorem dX1_init_1 : decode cX1_init 1 = .ok (.invokespecial 3, 3) := by decide +kernel
theorem dX1_init_4 : decode cX1_init 4 = .ok (.aload_n 0, 1) := by decide +kernel
theorem dX1_init_5 : decode cX1_init 5 = .ok (.bipush 7, 2) := by decide +kernel
theorem dX1_init_7 : decode cX1_init 7 = .ok (.newarray .int, 2) := by decide +kernel
theorem dX1_init_9 : decode cX1_init 9 = .ok (.putfield 9, 3) := by decide +kernel
theorem dX1_init_12 : decode cX1_init 12 = .ok (.aload_n 0, 1) := by decide +kernel
theorem dX1_init_13 : decode cX1_init 13 = .ok (.bipush 7, 2) := by decide +kernel
theorem dX1_init_15 : decode cX1_init 15 = .ok (.newarray .int, 2) := by decide +kernel
theorem dX1_init_17 : decode cX1_init 17 = .ok (.putfield 15, 3) := by decide +kernel
theorem dX1_init_20 : decode cX1_init 20 = .ok (.aload_n 0, 1) := by decide +kernel
theorem dX1_init_21 : decode cX1_init 21 = .ok (.bipush 7, 2) := by decide +kernel
theorem dX1_init_23 : decode cX1_init 23 = .ok (.newarray .int, 2) := by decide +kernel
theorem dX1_init_25 : decode cX1_init 25 = .ok (.putfield 18, 3) := by decide +kernel
theorem dX1_init_28 : decode cX1_init 28 = .ok (.return_, 1) := by decide +kernel
theorem dX1_weatherOf_0 : decode cX1_weatherOf 0 = .ok (.bipush 100, 2) := by decide +kernel
theorem dX1_weatherOf_2 : decode cX1_weatherOf 2 = .ok (.aload_n 0, 1) := by decide +kernel
theorem dX1_weatherOf_3 : decode cX1_weatherOf 3 = .ok (.getfield 9, 3) := by decide +kernel
theorem dX1_weatherOf_6 : decode cX1_weatherOf 6 = .ok (.iload_n 1, 1) := by decide +kernel
theorem dX1_weatherOf_7 : decode cX1_weatherOf 7 = .ok (.iaload, 1) := by decide +kernel
theorem dX1_weatherOf_8 : decode cX1_weatherOf 8 = .ok (.imul, 1) := by decide +kernel
theorem dX1_weatherOf_9 : decode cX1_weatherOf 9 = .ok (.bipush 10, 2) := by decide +kernel
theorem dX1_weatherOf_11 : decode cX1_weatherOf 11 = .ok (.aload_n 0, 1) := by decide +kernel
theorem dX1_weatherOf_12 : decode cX1_weatherOf 12 = .ok (.getfield 15, 3) := by decide +kernel
theorem dX1_weatherOf_15 : decode cX1_weatherOf 15 = .ok (.iload_n 1, 1) := by decide +kernel
theorem dX1_weatherOf_16 : decode cX1_weatherOf 16 = .ok (.iaload, 1) := by decide +kernel
theorem dX1_weatherOf_17 : decode cX1_weatherOf 17 = .ok (.imul, 1) := by decide +kernel
theorem dX1_weatherOf_18 : decode cX1_weatherOf 18 = .ok (.iadd, 1) := by decide +kernel
theorem dX1_weatherOf_19 : decode cX1_weatherOf 19 = .ok (.aload_n 0, 1) := by decide +kernel
theorem dX1_weatherOf_20 : decode cX1_weatherOf 20 = .ok (.getfield 18, 3) := by decide +kernel
theorem dX1_weatherOf_23 : decode cX1_weatherOf 23 = .ok (.iload_n 1, 1) := by decide +kernel
theorem dX1_weatherOf_24 : decode cX1_weatherOf 24 = .ok (.iaload, 1) := by decide +kernel
theorem dX1_weatherOf_25 : decode cX1_weatherOf 25 = .ok (.iadd, 1) := by decide +kernel
theorem dX1_weatherOf_26 : decode cX1_weatherOf 26 = .ok (.ireturn, 1) := by decide +kernel
-- decode rows of X2
theorem dX2_init_0 : decode cX2_init 0 = .ok (.aload_n 0, 1) := by decide +kernel
theorem dX2_init_1 : decode cX2_init 1 = .ok (.invokespecial 3, 3) := by decide +kernel
theorem dX2_init_4 : decode cX2_init 4 = .ok (.aload_n 0, 1) := by decide +kernel
theorem dX2_init_5 : decode cX2_init 5 = .ok (.bipush 16, 2) := by decide +kernel
theorem dX2_init_7 : decode cX2_init 7 = .ok (.newarray .int, 2) := by decide +kernel
theorem dX2_init_9 : decode cX2_init 9 = .ok (.putfield 9, 3) := by decide +kernel
theorem dX2_init_12 : decode cX2_init 12 = .ok (.return_, 1) := by decide +kernel
theorem dX2_driveAt_0 : decode cX2_driveAt 0 = .ok (.aload_n 0, 1) := by decide +kernel
theorem dX2_driveAt_1 : decode cX2_driveAt 1 = .ok (.getfield 15, 3) := by decide +kernel
theorem dX2_driveAt_4 : decode cX2_driveAt 4 = .ok (.bipush 16, 2) := by decide +kernel
theorem dX2_driveAt_6 : decode cX2_driveAt 6 = .ok (.if_icmp .ge 11, 3) := by decide +kernel
theorem dX2_driveAt_9 : decode cX2_driveAt 9 = .ok (.aload_n 0, 1) := by decide +kernel
theorem dX2_driveAt_10 : decode cX2_driveAt 10 = .ok (.iload_n 1, 1) := by decide +kernel
theorem dX2_driveAt_11 : decode cX2_driveAt 11 = .ok (.invokevirtual 19, 3) := by decide +kernel
theorem dX2_driveAt_14 : decode cX2_driveAt 14 = .ok (.ifCond .lt 5, 3) := by decide +kernel
theorem dX2_driveAt_17 : decode cX2_driveAt 17 = .ok (.iconst (-1), 1) := by decide +kernel
theorem dX2_driveAt_18 : decode cX2_driveAt 18 = .ok (.ireturn, 1) := by decide +kernel
theorem dX2_driveAt_19 : decode cX2_driveAt 19 = .ok (.aload_n 0, 1) := by decide +kernel
theorem dX2_driveAt_20 : decode cX2_driveAt 20 = .ok (.getfield 15, 3) := by decide +kernel
theorem dX2_driveAt_23 : decode cX2_driveAt 23 = .ok (.istore_n 2, 1) := by decide +kernel
theorem dX2_driveAt_24 : decode cX2_driveAt 24 = .ok (.aload_n 0, 1) := by decide +kernel
theorem dX2_driveAt_25 : decode cX2_driveAt 25 = .ok (.getfield 9, 3) := by decide +kernel
theorem dX2_driveAt_28 : decode cX2_driveAt 28 = .ok (.iload_n 2, 1) := by decide +kernel
theorem dX2_driveAt_29 : decode cX2_driveAt 29 = .ok (.iload_n 1, 1) := by decide +kernel
theorem dX2_driveAt_30 : decode cX2_driveAt 30 = .ok (.iastore, 1) := by decide +kernel
theorem dX2_driveAt_31 : decode cX2_driveAt 31 = .ok (.aload_n 0, 1) := by decide +kernel
theorem dX2_driveAt_32 : decode cX2_driveAt 32 = .ok (.dup, 1) := by decide +kernel
theorem dX2_driveAt_33 : decode cX2_driveAt 33 = .ok (.getfield 23, 3) := by decide +kernel
theorem dX2_driveAt_36 : decode cX2_driveAt 36 = .ok (.iconst 1, 1) := by decide +kernel
theorem dX2_driveAt_37 : decode cX2_driveAt 37 = .ok (.iload_n 2, 1) := by decide +kernel
theorem dX2_driveAt_38 : decode cX2_driveAt 38 = .ok (.ishl, 1) := by decide +kernel
theorem dX2_driveAt_39 : decode cX2_driveAt 39 = .ok (.ior, 1) := by decide +kernel
theorem dX2_driveAt_40 : decode cX2_driveAt 40 = .ok (.putfield 23, 3) := by decide +kernel
theorem dX2_driveAt_43 : decode cX2_driveAt 43 = .ok (.aload_n 0, 1) := by decide +kernel
theorem dX2_driveAt_44 : decode cX2_driveAt 44 = .ok (.dup, 1) := by decide +kernel
theorem dX2_driveAt_45 : decode cX2_driveAt 45 = .ok (.getfield 15, 3) := by decide +kernel
theorem dX2_driveAt_48 : decode cX2_driveAt 48 = .ok (.iconst 1, 1) := by decide +kernel
theorem dX2_driveAt_49 : decode cX2_driveAt 49 = .ok (.iadd, 1) := by decide +kernel
theorem dX2_driveAt_50 : decode cX2_driveAt 50 = .ok (.putfield 15, 3) := by decide +kernel
theorem dX2_driveAt_53 : decode cX2_driveAt 53 = .ok (.iload_n 2, 1) := by decide +kernel
theorem dX2_driveAt_54 : decode cX2_driveAt 54 = .ok (.ireturn, 1) := by decide +kernel
theorem dX2_findAt_0 : decode cX2_findAt 0 = .ok (.iconst 0, 1) := by decide +kernel
theorem dX2_findAt_1 : decode cX2_findAt 1 = .ok (.istore_n 2, 1) := by decide +kernel
theorem dX2_findAt_2 : decode cX2_findAt 2 = .ok (.iload_n 2, 1) := by decide +kernel
theorem dX2_findAt_3 : decode cX2_findAt 3 = .ok (.aload_n 0, 1) := by decide +kernel
theorem dX2_findAt_4 : decode cX2_findAt 4 = .ok (.getfield 15, 3) := by decide +kernel
theorem dX2_findAt_7 : decode cX2_findAt 7 = .ok (.if_icmp .ge 21, 3) := by decide +kernel
theorem dX2_findAt_10 : decode cX2_findAt 10 = .ok (.aload_n 0, 1) := by decide +kernel
theorem dX2_findAt_11 : decode cX2_findAt 11 = .ok (.getfield 9, 3) := by decide +kernel
theorem dX2_findAt_14 : decode cX2_findAt 14 = .ok (.iload_n 2, 1) := by decide +kernel
theorem dX2_findAt_15 : decode cX2_findAt 15 = .ok (.iaload, 1) := by decide +kernel
theorem dX2_findAt_16 : decode cX2_findAt 16 = .ok (.iload_n 1, 1) := by decide +kernel
theorem dX2_findAt_17 : decode cX2_findAt 17 = .ok (.if_icmp .ne 5, 3) := by decide +kernel
theorem dX2_findAt_20 : decode cX2_findAt 20 = .ok (.iload_n 2, 1) := by decide +kernel
theorem dX2_findAt_21 : decode cX2_findAt 21 = .ok (.ireturn, 1) := by decide +kernel
theorem dX2_findAt_22 : decode cX2_findAt 22 = .ok (.iinc 2 1, 3) := by decide +kernel
theorem dX2_findAt_25 : decode cX2_findAt 25 = .ok (.goto (-23), 3) := by decide +kernel
theorem dX2_findAt_28 : decode cX2_findAt 28 = .ok (.iconst (-1), 1) := by decide +kernel
theorem dX2_findAt_29 : decode cX2_findAt 29 = .ok (.ireturn, 1) := by decide +kernel
theorem dX2_copyFrom_0 : decode cX2_copyFrom 0 = .ok (.aload_n 0, 1) := by decide +kernel
theorem dX2_copyFrom_1 : decode cX2_copyFrom 1 = .ok (.aload_n 1, 1) := by decide +kernel
theorem dX2_copyFrom_2 : decode cX2_copyFrom 2 = .ok (.getfield 15, 3) := by decide +kernel
theorem dX2_copyFrom_5 : decode cX2_copyFrom 5 = .ok (.putfield 15, 3) := by decide +kernel
theorem dX2_copyFrom_8 : decode cX2_copyFrom 8 = .ok (.aload_n 0, 1) := by decide +kernel
theorem dX2_copyFrom_9 : decode cX2_copyFrom 9 = .ok (.aload_n 1, 1) := by decide +kernel
theorem dX2_copyFrom_10 : decode cX2_copyFrom 10 = .ok (.getfield 23, 3) := by decide +kernel
theorem dX2_copyFrom_13 : decode cX2_copyFrom 13 = .ok (.putfield 23, 3) := by decide +kernel
theorem dX2_copyFrom_16 : decode cX2_copyFrom 16 = .ok (.iconst 0, 1) := by decide +kernel
theorem dX2_copyFrom_17 : decode cX2_copyFrom 17 = .ok (.istore_n 2, 1) := by decide +kernel
theorem dX2_copyFrom_18 : decode cX2_copyFrom 18 = .ok (.iload_n 2, 1) := by decide +kernel
theorem dX2_copyFrom_19 : decode cX2_copyFrom 19 = .ok (.bipush 16, 2) := by decide +kernel
theorem dX2_copyFrom_21 : decode cX2_copyFrom 21 = .ok (.if_icmp .ge 21, 3) := by decide +kernel
theorem dX2_copyFrom_24 : decode cX2_copyFrom 24 = .ok (.aload_n 0, 1) := by decide +kernel
theorem dX2_copyFrom_25 : decode cX2_copyFrom 25 = .ok (.getfield 9, 3) := by decide +kernel
theorem dX2_copyFrom_28 : decode cX2_copyFrom 28 = .ok (.iload_n 2, 1) := by decide +kernel
theorem dX2_copyFrom_29 : decode cX2_copyFrom 29 = .ok (.aload_n 1, 1) := by decide +kernel
theorem dX2_copyFrom_30 : decode cX2_copyFrom 30 = .ok (.getfield 9, 3) := by decide +kernel
theorem dX2_copyFrom_33 : decode cX2_copyFrom 33 = .ok (.iload_n 2, 1) := by decide +kernel
theorem dX2_copyFrom_34 : decode cX2_copyFrom 34 = .ok (.iaload, 1) := by decide +kernel
theorem dX2_copyFrom_35 : decode cX2_copyFrom 35 = .ok (.iastore, 1) := by decide +kernel
theorem dX2_copyFrom_36 : decode cX2_copyFrom 36 = .ok (.iinc 2 1, 3) := by decide +kernel
theorem dX2_copyFrom_39 : decode cX2_copyFrom 39 = .ok (.goto (-21), 3) := by decide +kernel
theorem dX2_copyFrom_42 : decode cX2_copyFrom 42 = .ok (.return_, 1) := by decide +kernel
-- decode rows of X3
theorem dX3_init_0 : decode cX3_init 0 = .ok (.aload_n 0, 1) := by decide +kernel
theorem dX3_init_1 : decode cX3_init 1 = .ok (.invokespecial 3, 3) := by decide +kernel
theorem dX3_init_4 : decode cX3_init 4 = .ok (.aload_n 0, 1) := by decide +kernel
theorem dX3_init_5 : decode cX3_init 5 = .ok (.bipush 100, 2) := by decide +kernel
theorem dX3_init_7 : decode cX3_init 7 = .ok (.newarray .int, 2) := by decide +kernel
theorem dX3_init_9 : decode cX3_init 9 = .ok (.putfield 9, 3) := by decide +kernel
theorem dX3_init_12 : decode cX3_init 12 = .ok (.aload_n 0, 1) := by decide +kernel
theorem dX3_init_13 : decode cX3_init 13 = .ok (.bipush 100, 2) := by decide +kernel
theorem dX3_init_15 : decode cX3_init 15 = .ok (.newarray .int, 2) := by decide +kernel
theorem dX3_init_17 : decode cX3_init 17 = .ok (.putfield 15, 3) := by decide +kernel
theorem dX3_init_20 : decode cX3_init 20 = .ok (.aload_n 0, 1) := by decide +kernel
theorem dX3_init_21 : decode cX3_init 21 = .ok (.bipush 100, 2) := by decide +kernel
theorem dX3_init_23 : decode cX3_init 23 = .ok (.newarray .boolean, 2) := by decide +kernel
theorem dX3_init_25 : decode cX3_init 25 = .ok (.putfield 18, 3) := by decide +kernel
theorem dX3_init_28 : decode cX3_init 28 = .ok (.aload_n 0, 1) := by decide +kernel
theorem dX3_init_29 : decode cX3_init 29 = .ok (.bipush 100, 2) := by decide +kernel
theorem dX3_init_31 : decode cX3_init 31 = .ok (.newarray .int, 2) := by decide +kernel
theorem dX3_init_33 : decode cX3_init 33 = .ok (.putfield 22, 3) := by decide +kernel
theorem dX3_init_36 : decode cX3_init 36 = .ok (.aload_n 0, 1) := by decide +kernel
theorem dX3_init_37 : decode cX3_init 37 = .ok (.bipush 100, 2) := by decide +kernel
theorem dX3_init_39 : decode cX3_init 39 = .ok (.newarray .int, 2) := by decide +kernel
theorem dX3_init_41 : decode cX3_init 41 = .ok (.putfield 25, 3) := by decide +kernel
theorem dX3_init_44 : decode cX3_init 44 = .ok (.iconst 0, 1) := by decide +kernel
theorem dX3_init_45 : decode cX3_init 45 = .ok (.istore_n 1, 1) := by decide +kernel
theorem dX3_init_46 : decode cX3_init 46 = .ok (.iload_n 1, 1) := by decide +kernel
theorem dX3_init_47 : decode cX3_init 47 = .ok (.bipush 100, 2) := by decide +kernel
theorem dX3_init_49 : decode cX3_init 49 = .ok (.if_icmp .ge 29, 3) := by decide +kernel
theorem dX3_init_52 : decode cX3_init 52 = .ok (.aload_n 0, 1) := by decide +kernel
theorem dX3_init_53 : decode cX3_init 53 = .ok (.getfield 9, 3) := by decide +kernel
theorem dX3_init_56 : decode cX3_init 56 = .ok (.iload_n 1, 1) := by decide +kernel
theorem dX3_init_57 : decode cX3_init 57 = .ok (.bipush 9, 2) := by decide +kernel
theorem dX3_init_59 : decode cX3_init 59 = .ok (.iload_n 1, 1) := by decide +kernel
theorem dX3_init_60 : decode cX3_init 60 = .ok (.bipush 10, 2) := by decide +kernel
theorem dX3_init_62 : decode cX3_init 62 = .ok (.idiv, 1) := by decide +kernel
theorem dX3_init_63 : decode cX3_init 63 = .ok (.isub, 1) := by decide +kernel
theorem dX3_init_64 : decode cX3_init 64 = .ok (.iastore, 1) := by decide +kernel
theorem dX3_init_65 : decode cX3_init 65 = .ok (.aload_n 0, 1) := by decide +kernel
theorem dX3_init_66 : decode cX3_init 66 = .ok (.getfield 15, 3) := by decide +kernel
theorem dX3_init_69 : decode cX3_init 69 = .ok (.iload_n 1, 1) := by decide +kernel
theorem dX3_init_70 : decode cX3_init 70 = .ok (.iconst 5, 1) := by decide +kernel
theorem dX3_init_71 : decode cX3_init 71 = .ok (.iastore, 1) := by decide +kernel
theorem dX3_init_72 : decode cX3_init 72 = .ok (.iinc 1 1, 3) := by decide +kernel
theorem dX3_init_75 : decode cX3_init 75 = .ok (.goto (-29), 3) := by decide +kernel
theorem dX3_init_78 : decode cX3_init 78 = .ok (.aload_n 0, 1) := by decide +kernel
theorem dX3_init_79 : decode cX3_init 79 = .ok (.invokevirtual 28, 3) := by decide +kernel
theorem dX3_init_82 : decode cX3_init 82 = .ok (.return_, 1) := by decide +kernel
theorem dX3_shape_0 : decode cX3_shape 0 = .ok (.bipush 10, 2) := by decide +kernel
theorem dX3_shape_2 : decode cX3_shape 2 = .ok (.aload_n 0, 1) := by decide +kernel
theorem dX3_shape_3 : decode cX3_shape 3 = .ok (.getfield 9, 3) := by decide +kernel
theorem dX3_shape_6 : decode cX3_shape 6 = .ok (.iload_n 1, 1) := by decide +kernel
theorem dX3_shape_7 : decode cX3_shape 7 = .ok (.iaload, 1) := by decide +kernel
theorem dX3_shape_8 : decode cX3_shape 8 = .ok (.imul, 1) := by decide +kernel
theorem dX3_shape_9 : decode cX3_shape 9 = .ok (.aload_n 0, 1) := by decide +kernel
theorem dX3_shape_10 : decode cX3_shape 10 = .ok (.getfield 15, 3) := by decide +kernel
theorem dX3_shape_13 : decode cX3_shape 13 = .ok (.iload_n 1, 1) := by decide +kernel
theorem dX3_shape_14 : decode cX3_shape 14 = .ok (.iaload, 1) := by decide +kernel
theorem dX3_shape_15 : decode cX3_shape 15 = .ok (.iadd, 1) := by decide +kernel
theorem dX3_shape_16 : decode cX3_shape 16 = .ok (.istore 4, 2) := by decide +kernel
theorem dX3_shape_18 : decode cX3_shape 18 = .ok (.aload_n 0, 1) := by decide +kernel
theorem dX3_shape_19 : decode cX3_shape 19 = .ok (.getfield 9, 3) := by decide +kernel
theorem dX3_shape_22 : decode cX3_shape 22 = .ok (.iload_n 1, 1) := by decide +kernel
theorem dX3_shape_23 : decode cX3_shape 23 = .ok (.iload_n 2, 1) := by decide +kernel
theorem dX3_shape_24 : decode cX3_shape 24 = .ok (.iastore, 1) := by decide +kernel
theorem dX3_shape_25 : decode cX3_shape 25 = .ok (.aload_n 0, 1) := by decide +kernel
theorem dX3_shape_26 : decode cX3_shape 26 = .ok (.getfield 15, 3) := by decide +kernel
theorem dX3_shape_29 : decode cX3_shape 29 = .ok (.iload_n 1, 1) := by decide +kernel
theorem dX3_shape_30 : decode cX3_shape 30 = .ok (.iload_n 3, 1) := by decide +kernel
theorem dX3_shape_31 : decode cX3_shape 31 = .ok (.iastore, 1) := by decide +kernel
theorem dX3_shape_32 : decode cX3_shape 32 = .ok (.aload_n 0, 1) := by decide +kernel
theorem dX3_shape_33 : decode cX3_shape 33 = .ok (.invokevirtual 28, 3) := by decide +kernel
theorem dX3_shape_36 : decode cX3_shape 36 = .ok (.iload 4, 2) := by decide +kernel
theorem dX3_shape_38 : decode cX3_shape 38 = .ok (.ireturn, 1) := by decide +kernel
theorem dX3_sortFromTheTop_0 : decode cX3_sortFromTheTop 0 = .ok (.iconst 0, 1) := by decide +kernel
theorem dX3_sortFromTheTop_1 : decode cX3_sortFromTheTop 1 = .ok (.istore_n 1, 1) := by decide +kernel
theorem dX3_sortFromTheTop_2 : decode cX3_sortFromTheTop 2 = .ok (.bipush 30, 2) := by decide +kernel
theorem dX3_sortFromTheTop_4 : decode cX3_sortFromTheTop 4 = .ok (.istore_n 2, 1) := by decide +kernel
theorem dX3_sortFromTheTop_5 : decode cX3_sortFromTheTop 5 = .ok (.iload_n 2, 1) := by decide +kernel
theorem dX3_sortFromTheTop_6 : decode cX3_sortFromTheTop 6 = .ok (.ifCond .lt 49, 3) := by decide +kernel
theorem dX3_sortFromTheTop_9 : decode cX3_sortFromTheTop 9 = .ok (.iconst 0, 1) := by decide +kernel
theorem dX3_sortFromTheTop_10 : decode cX3_sortFromTheTop 10 = .ok (.istore_n 3, 1) := by decide +kernel
theorem dX3_sortFromTheTop_11 : decode cX3_sortFromTheTop 11 = .ok (.iload_n 3, 1) := by decide +kernel
theorem dX3_sortFromTheTop_12 : decode cX3_sortFromTheTop 12 = .ok (.bipush 100, 2) := by decide +kernel
theorem dX3_sortFromTheTop_14 : decode cX3_sortFromTheTop 14 = .ok (.if_icmp .ge 35, 3) := by decide +kernel
theorem dX3_sortFromTheTop_17 : decode cX3_sortFromTheTop 17 = .ok (.aload_n 0, 1) := by decide +kernel
theorem dX3_sortFromTheTop_18 : decode cX3_sortFromTheTop 18 = .ok (.getfield 9, 3) := by decide +kernel
theorem dX3_sortFromTheTop_21 : decode cX3_sortFromTheTop 21 = .ok (.iload_n 3, 1) := by decide +kernel
theorem dX3_sortFromTheTop_22 : decode cX3_sortFromTheTop 22 = .ok (.iaload, 1) := by decide +kernel
theorem dX3_sortFromTheTop_23 : decode cX3_sortFromTheTop 23 = .ok (.iload_n 2, 1) := by decide +kernel
theorem dX3_sortFromTheTop_24 : decode cX3_sortFromTheTop 24 = .ok (.if_icmp .ne 19, 3) := by decide +kernel
theorem dX3_sortFromTheTop_27 : decode cX3_sortFromTheTop 27 = .ok (.iload_n 1, 1) := by decide +kernel
theorem dX3_sortFromTheTop_28 : decode cX3_sortFromTheTop 28 = .ok (.bipush 100, 2) := by decide +kernel
theorem dX3_sortFromTheTop_30 : decode cX3_sortFromTheTop 30 = .ok (.if_icmp .ge 13, 3) := by decide +kernel
theorem dX3_sortFromTheTop_33 : decode cX3_sortFromTheTop 33 = .ok (.aload_n 0, 1) := by decide +kernel
theorem dX3_sortFromTheTop_34 : decode cX3_sortFromTheTop 34 = .ok (.getfield 22, 3) := by decide +kernel
theorem dX3_sortFromTheTop_37 : decode cX3_sortFromTheTop 37 = .ok (.iload_n 1, 1) := by decide +kernel
theorem dX3_sortFromTheTop_38 : decode cX3_sortFromTheTop 38 = .ok (.iload_n 3, 1) := by decide +kernel
theorem dX3_sortFromTheTop_39 : decode cX3_sortFromTheTop 39 = .ok (.iastore, 1) := by decide +kernel
theorem dX3_sortFromTheTop_40 : decode cX3_sortFromTheTop 40 = .ok (.iinc 1 1, 3) := by decide +kernel
theorem dX3_sortFromTheTop_43 : decode cX3_sortFromTheTop 43 = .ok (.iinc 3 1, 3) := by decide +kernel
theorem dX3_sortFromTheTop_46 : decode cX3_sortFromTheTop 46 = .ok (.goto (-35), 3) := by decide +kernel
theorem dX3_sortFromTheTop_49 : decode cX3_sortFromTheTop 49 = .ok (.iinc 2 (-1), 3) := by decide +kernel
theorem dX3_sortFromTheTop_52 : decode cX3_sortFromTheTop 52 = .ok (.goto (-47), 3) := by decide +kernel
theorem dX3_sortFromTheTop_55 : decode cX3_sortFromTheTop 55 = .ok (.return_, 1) := by decide +kernel
theorem dX3_letRunOff_0 : decode cX3_letRunOff 0 = .ok (.iconst 0, 1) := by decide +kernel
theorem dX3_letRunOff_1 : decode cX3_letRunOff 1 = .ok (.istore_n 2, 1) := by decide +kernel
theorem dX3_letRunOff_2 : decode cX3_letRunOff 2 = .ok (.iload_n 2, 1) := by decide +kernel
theorem dX3_letRunOff_3 : decode cX3_letRunOff 3 = .ok (.bipush 100, 2) := by decide +kernel
theorem dX3_letRunOff_5 : decode cX3_letRunOff 5 = .ok (.if_icmp .ge 16, 3) := by decide +kernel
theorem dX3_letRunOff_8 : decode cX3_letRunOff 8 = .ok (.aload_n 0, 1) := by decide +kernel
theorem dX3_letRunOff_9 : decode cX3_letRunOff 9 = .ok (.getfield 25, 3) := by decide +kernel
theorem dX3_letRunOff_12 : decode cX3_letRunOff 12 = .ok (.iload_n 2, 1) := by decide +kernel
theorem dX3_letRunOff_13 : decode cX3_letRunOff 13 = .ok (.iload_n 1, 1) := by decide +kernel
theorem dX3_letRunOff_14 : decode cX3_letRunOff 14 = .ok (.iastore, 1) := by decide +kernel
theorem dX3_letRunOff_15 : decode cX3_letRunOff 15 = .ok (.iinc 2 1, 3) := by decide +kernel
theorem dX3_letRunOff_18 : decode cX3_letRunOff 18 = .ok (.goto (-16), 3) := by decide +kernel
theorem dX3_letRunOff_21 : decode cX3_letRunOff 21 = .ok (.iconst 0, 1) := by decide +kernel
theorem dX3_letRunOff_22 : decode cX3_letRunOff 22 = .ok (.istore_n 2, 1) := by decide +kernel
theorem dX3_letRunOff_23 : decode cX3_letRunOff 23 = .ok (.iload_n 2, 1) := by decide +kernel
theorem dX3_letRunOff_24 : decode cX3_letRunOff 24 = .ok (.bipush 100, 2) := by decide +kernel
theorem dX3_letRunOff_26 : decode cX3_letRunOff 26 = .ok (.if_icmp .ge 19, 3) := by decide +kernel
theorem dX3_letRunOff_29 : decode cX3_letRunOff 29 = .ok (.aload_n 0, 1) := by decide +kernel
theorem dX3_letRunOff_30 : decode cX3_letRunOff 30 = .ok (.aload_n 0, 1) := by decide +kernel
theorem dX3_letRunOff_31 : decode cX3_letRunOff 31 = .ok (.getfield 22, 3) := by decide +kernel
theorem dX3_letRunOff_34 : decode cX3_letRunOff 34 = .ok (.iload_n 2, 1) := by decide +kernel
theorem dX3_letRunOff_35 : decode cX3_letRunOff 35 = .ok (.iaload, 1) := by decide +kernel
theorem dX3_letRunOff_36 : decode cX3_letRunOff 36 = .ok (.invokevirtual 31, 3) := by decide +kernel
theorem dX3_letRunOff_39 : decode cX3_letRunOff 39 = .ok (.iinc 2 1, 3) := by decide +kernel
theorem dX3_letRunOff_42 : decode cX3_letRunOff 42 = .ok (.goto (-19), 3) := by decide +kernel
theorem dX3_letRunOff_45 : decode cX3_letRunOff 45 = .ok (.return_, 1) := by decide +kernel
theorem dX3_runOn_0 : decode cX3_runOn 0 = .ok (.iload_n 1, 1) := by decide +kernel
theorem dX3_runOn_1 : decode cX3_runOn 1 = .ok (.invokestatic 35, 3) := by decide +kernel
theorem dX3_runOn_4 : decode cX3_runOn 4 = .ok (.ifCond .eq 12, 3) := by decide +kernel
theorem dX3_runOn_7 : decode cX3_runOn 7 = .ok (.aload_n 0, 1) := by decide +kernel
theorem dX3_runOn_8 : decode cX3_runOn 8 = .ok (.getfield 18, 3) := by decide +kernel
theorem dX3_runOn_11 : decode cX3_runOn 11 = .ok (.iload_n 1, 1) := by decide +kernel
theorem dX3_runOn_12 : decode cX3_runOn 12 = .ok (.baload, 1) := by decide +kernel
theorem dX3_runOn_13 : decode cX3_runOn 13 = .ok (.ifCond .eq 4, 3) := by decide +kernel
theorem dX3_runOn_16 : decode cX3_runOn 16 = .ok (.return_, 1) := by decide +kernel
theorem dX3_runOn_17 : decode cX3_runOn 17 = .ok (.aload_n 0, 1) := by decide +kernel
theorem dX3_runOn_18 : decode cX3_runOn 18 = .ok (.iload_n 1, 1) := by decide +kernel
theorem dX3_runOn_19 : decode cX3_runOn 19 = .ok (.invokevirtual 39, 3) := by decide +kernel
theorem dX3_runOn_22 : decode cX3_runOn 22 = .ok (.istore_n 2, 1) := by decide +kernel
theorem dX3_runOn_23 : decode cX3_runOn 23 = .ok (.iload_n 2, 1) := by decide +kernel
theorem dX3_runOn_24 : decode cX3_runOn 24 = .ok (.invokestatic 35, 3) := by decide +kernel
theorem dX3_runOn_27 : decode cX3_runOn 27 = .ok (.ifCond .eq 18, 3) := by decide +kernel
theorem dX3_runOn_30 : decode cX3_runOn 30 = .ok (.aload_n 0, 1) := by decide +kernel
theorem dX3_runOn_31 : decode cX3_runOn 31 = .ok (.getfield 25, 3) := by decide +kernel
theorem dX3_runOn_34 : decode cX3_runOn 34 = .ok (.iload_n 2, 1) := by decide +kernel
theorem dX3_runOn_35 : decode cX3_runOn 35 = .ok (.dup2, 1) := by decide +kernel
theorem dX3_runOn_36 : decode cX3_runOn 36 = .ok (.iaload, 1) := by decide +kernel
theorem dX3_runOn_37 : decode cX3_runOn 37 = .ok (.aload_n 0, 1) := by decide +kernel
theorem dX3_runOn_38 : decode cX3_runOn 38 = .ok (.getfield 25, 3) := by decide +kernel
theorem dX3_runOn_41 : decode cX3_runOn 41 = .ok (.iload_n 1, 1) := by decide +kernel
theorem dX3_runOn_42 : decode cX3_runOn 42 = .ok (.iaload, 1) := by decide +kernel
theorem dX3_runOn_43 : decode cX3_runOn 43 = .ok (.iadd, 1) := by decide +kernel
theorem dX3_runOn_44 : decode cX3_runOn 44 = .ok (.iastore, 1) := by decide +kernel
theorem dX3_runOn_45 : decode cX3_runOn 45 = .ok (.return_, 1) := by decide +kernel
theorem dX3_lowerNeighbour_0 : decode cX3_lowerNeighbour 0 = .ok (.iconst (-1), 1) := by decide +kernel
theorem dX3_lowerNeighbour_1 : decode cX3_lowerNeighbour 1 = .ok (.istore_n 2, 1) := by decide +kernel
theorem dX3_lowerNeighbour_2 : decode cX3_lowerNeighbour 2 = .ok (.aload_n 0, 1) := by decide +kernel
theorem dX3_lowerNeighbour_3 : decode cX3_lowerNeighbour 3 = .ok (.getfield 9, 3) := by decide +kernel
theorem dX3_lowerNeighbour_6 : decode cX3_lowerNeighbour 6 = .ok (.iload_n 1, 1) := by decide +kernel
theorem dX3_lowerNeighbour_7 : decode cX3_lowerNeighbour 7 = .ok (.iaload, 1) := by decide +kernel
theorem dX3_lowerNeighbour_8 : decode cX3_lowerNeighbour 8 = .ok (.istore_n 3, 1) := by decide +kernel
theorem dX3_lowerNeighbour_9 : decode cX3_lowerNeighbour 9 = .ok (.iconst 0, 1) := by decide +kernel
theorem dX3_lowerNeighbour_10 : decode cX3_lowerNeighbour 10 = .ok (.istore 4, 2) := by decide +kernel
theorem dX3_lowerNeighbour_12 : decode cX3_lowerNeighbour 12 = .ok (.iload 4, 2) := by decide +kernel
theorem dX3_lowerNeighbour_14 : decode cX3_lowerNeighbour 14 = .ok (.iconst 4, 1) := by decide +kernel
theorem dX3_lowerNeighbour_15 : decode cX3_lowerNeighbour 15 = .ok (.if_icmp .ge 78, 3) := by decide +kernel
theorem dX3_lowerNeighbour_18 : decode cX3_lowerNeighbour 18 = .ok (.iload_n 1, 1) := by decide +kernel
theorem dX3_lowerNeighbour_19 : decode cX3_lowerNeighbour 19 = .ok (.bipush 10, 2) := by decide +kernel
theorem dX3_lowerNeighbour_21 : decode cX3_lowerNeighbour 21 = .ok (.irem, 1) := by decide +kernel
theorem dX3_lowerNeighbour_22 : decode cX3_lowerNeighbour 22 = .ok (.getstatic 43, 3) := by decide +kernel
theorem dX3_lowerNeighbour_25 : decode cX3_lowerNeighbour 25 = .ok (.iload 4, 2) := by decide +kernel
theorem dX3_lowerNeighbour_27 : decode cX3_lowerNeighbour 27 = .ok (.iaload, 1) := by decide +kernel
theorem dX3_lowerNeighbour_28 : decode cX3_lowerNeighbour 28 = .ok (.iadd, 1) := by decide +kernel
theorem dX3_lowerNeighbour_29 : decode cX3_lowerNeighbour 29 = .ok (.istore 5, 2) := by decide +kernel
theorem dX3_lowerNeighbour_31 : decode cX3_lowerNeighbour 31 = .ok (.iload_n 1, 1) := by decide +kernel
theorem dX3_lowerNeighbour_32 : decode cX3_lowerNeighbour 32 = .ok (.bipush 10, 2) := by decide +kernel
theorem dX3_lowerNeighbour_34 : decode cX3_lowerNeighbour 34 = .ok (.idiv, 1) := by decide +kernel
theorem dX3_lowerNeighbour_35 : decode cX3_lowerNeighbour 35 = .ok (.getstatic 46, 3) := by decide +kernel
theorem dX3_lowerNeighbour_38 : decode cX3_lowerNeighbour 38 = .ok (.iload 4, 2) := by decide +kernel
theorem dX3_lowerNeighbour_40 : decode cX3_lowerNeighbour 40 = .ok (.iaload, 1) := by decide +kernel
theorem dX3_lowerNeighbour_41 : decode cX3_lowerNeighbour 41 = .ok (.iadd, 1) := by decide +kernel
theorem dX3_lowerNeighbour_42 : decode cX3_lowerNeighbour 42 = .ok (.istore 6, 2) := by decide +kernel
theorem dX3_lowerNeighbour_44 : decode cX3_lowerNeighbour 44 = .ok (.iload 5, 2) := by decide +kernel
theorem dX3_lowerNeighbour_46 : decode cX3_lowerNeighbour 46 = .ok (.iload 6, 2) := by decide +kernel
theorem dX3_lowerNeighbour_48 : decode cX3_lowerNeighbour 48 = .ok (.invokestatic 49, 3) := by decide +kernel
theorem dX3_lowerNeighbour_51 : decode cX3_lowerNeighbour 51 = .ok (.ifCond .eq 36, 3) := by decide +kernel
theorem dX3_lowerNeighbour_54 : decode cX3_lowerNeighbour 54 = .ok (.aload_n 0, 1) := by decide +kernel
theorem dX3_lowerNeighbour_55 : decode cX3_lowerNeighbour 55 = .ok (.getfield 9, 3) := by decide +kernel
theorem dX3_lowerNeighbour_58 : decode cX3_lowerNeighbour 58 = .ok (.bipush 10, 2) := by decide +kernel
theorem dX3_lowerNeighbour_60 : decode cX3_lowerNeighbour 60 = .ok (.iload 6, 2) := by decide +kernel
theorem dX3_lowerNeighbour_62 : decode cX3_lowerNeighbour 62 = .ok (.imul, 1) := by decide +kernel
theorem dX3_lowerNeighbour_63 : decode cX3_lowerNeighbour 63 = .ok (.iload 5, 2) := by decide +kernel
theorem dX3_lowerNeighbour_65 : decode cX3_lowerNeighbour 65 = .ok (.iadd, 1) := by decide +kernel
theorem dX3_lowerNeighbour_66 : decode cX3_lowerNeighbour 66 = .ok (.iaload, 1) := by decide +kernel
theorem dX3_lowerNeighbour_67 : decode cX3_lowerNeighbour 67 = .ok (.iload_n 3, 1) := by decide +kernel
theorem dX3_lowerNeighbour_68 : decode cX3_lowerNeighbour 68 = .ok (.if_icmp .ge 19, 3) := by decide +kernel
theorem dX3_lowerNeighbour_71 : decode cX3_lowerNeighbour 71 = .ok (.bipush 10, 2) := by decide +kernel
theorem dX3_lowerNeighbour_73 : decode cX3_lowerNeighbour 73 = .ok (.iload 6, 2) := by decide +kernel
theorem dX3_lowerNeighbour_75 : decode cX3_lowerNeighbour 75 = .ok (.imul, 1) := by decide +kernel
theorem dX3_lowerNeighbour_76 : decode cX3_lowerNeighbour 76 = .ok (.iload 5, 2) := by decide +kernel
theorem dX3_lowerNeighbour_78 : decode cX3_lowerNeighbour 78 = .ok (.iadd, 1) := by decide +kernel
theorem dX3_lowerNeighbour_79 : decode cX3_lowerNeighbour 79 = .ok (.istore_n 2, 1) := by decide +kernel
theorem dX3_lowerNeighbour_80 : decode cX3_lowerNeighbour 80 = .ok (.aload_n 0, 1) := by decide +kernel
theorem dX3_lowerNeighbour_81 : decode cX3_lowerNeighbour 81 = .ok (.getfield 9, 3) := by decide +kernel
theorem dX3_lowerNeighbour_84 : decode cX3_lowerNeighbour 84 = .ok (.iload_n 2, 1) := by decide +kernel
theorem dX3_lowerNeighbour_85 : decode cX3_lowerNeighbour 85 = .ok (.iaload, 1) := by decide +kernel
theorem dX3_lowerNeighbour_86 : decode cX3_lowerNeighbour 86 = .ok (.istore_n 3, 1) := by decide +kernel
theorem dX3_lowerNeighbour_87 : decode cX3_lowerNeighbour 87 = .ok (.iinc 4 1, 3) := by decide +kernel
theorem dX3_lowerNeighbour_90 : decode cX3_lowerNeighbour 90 = .ok (.goto (-78), 3) := by decide +kernel
theorem dX3_lowerNeighbour_93 : decode cX3_lowerNeighbour 93 = .ok (.iload_n 2, 1) := by decide +kernel
theorem dX3_lowerNeighbour_94 : decode cX3_lowerNeighbour 94 = .ok (.ireturn, 1) := by decide +kernel
theorem dX3_floodOf_0 : decode cX3_floodOf 0 = .ok (.iload_n 1, 1) := by decide +kernel
theorem dX3_floodOf_1 : decode cX3_floodOf 1 = .ok (.invokestatic 35, 3) := by decide +kernel
theorem dX3_floodOf_4 : decode cX3_floodOf 4 = .ok (.ifCond .eq 12, 3) := by decide +kernel
theorem dX3_floodOf_7 : decode cX3_floodOf 7 = .ok (.aload_n 0, 1) := by decide +kernel
theorem dX3_floodOf_8 : decode cX3_floodOf 8 = .ok (.getfield 25, 3) := by decide +kernel
theorem dX3_floodOf_11 : decode cX3_floodOf 11 = .ok (.iload_n 1, 1) := by decide +kernel
theorem dX3_floodOf_12 : decode cX3_floodOf 12 = .ok (.iaload, 1) := by decide +kernel
theorem dX3_floodOf_13 : decode cX3_floodOf 13 = .ok (.goto 4, 3) := by decide +kernel
theorem dX3_floodOf_16 : decode cX3_floodOf 16 = .ok (.iconst 0, 1) := by decide +kernel
theorem dX3_floodOf_17 : decode cX3_floodOf 17 = .ok (.ireturn, 1) := by decide +kernel
theorem dX3_soften_0 : decode cX3_soften 0 = .ok (.iconst 0, 1) := by decide +kernel
theorem dX3_soften_1 : decode cX3_soften 1 = .ok (.istore_n 1, 1) := by decide +kernel
theorem dX3_soften_2 : decode cX3_soften 2 = .ok (.iload_n 1, 1) := by decide +kernel
theorem dX3_soften_3 : decode cX3_soften 3 = .ok (.bipush 100, 2) := by decide +kernel
theorem dX3_soften_5 : decode cX3_soften 5 = .ok (.if_icmp .ge 40, 3) := by decide +kernel
theorem dX3_soften_8 : decode cX3_soften 8 = .ok (.aload_n 0, 1) := by decide +kernel
theorem dX3_soften_9 : decode cX3_soften 9 = .ok (.getfield 25, 3) := by decide +kernel
theorem dX3_soften_12 : decode cX3_soften 12 = .ok (.iload_n 1, 1) := by decide +kernel
theorem dX3_soften_13 : decode cX3_soften 13 = .ok (.iaload, 1) := by decide +kernel
theorem dX3_soften_14 : decode cX3_soften 14 = .ok (.bipush 20, 2) := by decide +kernel
theorem dX3_soften_16 : decode cX3_soften 16 = .ok (.if_icmp .lt 23, 3) := by decide +kernel
theorem dX3_soften_19 : decode cX3_soften 19 = .ok (.aload_n 0, 1) := by decide +kernel
theorem dX3_soften_20 : decode cX3_soften 20 = .ok (.getfield 15, 3) := by decide +kernel
theorem dX3_soften_23 : decode cX3_soften 23 = .ok (.iload_n 1, 1) := by decide +kernel
theorem dX3_soften_24 : decode cX3_soften 24 = .ok (.iaload, 1) := by decide +kernel
theorem dX3_soften_25 : decode cX3_soften 25 = .ok (.iconst 1, 1) := by decide +kernel
theorem dX3_soften_26 : decode cX3_soften 26 = .ok (.if_icmp .le 13, 3) := by decide +kernel
theorem dX3_soften_29 : decode cX3_soften 29 = .ok (.aload_n 0, 1) := by decide +kernel
theorem dX3_soften_30 : decode cX3_soften 30 = .ok (.getfield 15, 3) := by decide +kernel
theorem dX3_soften_33 : decode cX3_soften 33 = .ok (.iload_n 1, 1) := by decide +kernel
theorem dX3_soften_34 : decode cX3_soften 34 = .ok (.dup2, 1) := by decide +kernel
theorem dX3_soften_35 : decode cX3_soften 35 = .ok (.iaload, 1) := by decide +kernel
theorem dX3_soften_36 : decode cX3_soften 36 = .ok (.iconst 1, 1) := by decide +kernel
theorem dX3_soften_37 : decode cX3_soften 37 = .ok (.isub, 1) := by decide +kernel
theorem dX3_soften_38 : decode cX3_soften 38 = .ok (.iastore, 1) := by decide +kernel
theorem dX3_soften_39 : decode cX3_soften 39 = .ok (.iinc 1 1, 3) := by decide +kernel
theorem dX3_soften_42 : decode cX3_soften 42 = .ok (.goto (-40), 3) := by decide +kernel
theorem dX3_soften_45 : decode cX3_soften 45 = .ok (.return_, 1) := by decide +kernel
theorem dX3_ditches_0 : decode cX3_ditches 0 = .ok (.iconst 0, 1) := by decide +kernel
theorem dX3_ditches_1 : decode cX3_ditches 1 = .ok (.istore_n 1, 1) := by decide +kernel
theorem dX3_ditches_2 : decode cX3_ditches 2 = .ok (.iconst 0, 1) := by decide +kernel
theorem dX3_ditches_3 : decode cX3_ditches 3 = .ok (.istore_n 2, 1) := by decide +kernel
theorem dX3_ditches_4 : decode cX3_ditches 4 = .ok (.iload_n 2, 1) := by decide +kernel
theorem dX3_ditches_5 : decode cX3_ditches 5 = .ok (.bipush 100, 2) := by decide +kernel
theorem dX3_ditches_7 : decode cX3_ditches 7 = .ok (.if_icmp .ge 26, 3) := by decide +kernel
theorem dX3_ditches_10 : decode cX3_ditches 10 = .ok (.iload_n 1, 1) := by decide +kernel
theorem dX3_ditches_11 : decode cX3_ditches 11 = .ok (.aload_n 0, 1) := by decide +kernel
theorem dX3_ditches_12 : decode cX3_ditches 12 = .ok (.getfield 18, 3) := by decide +kernel
theorem dX3_ditches_15 : decode cX3_ditches 15 = .ok (.iload_n 2, 1) := by decide +kernel
theorem dX3_ditches_16 : decode cX3_ditches 16 = .ok (.baload, 1) := by decide +kernel
theorem dX3_ditches_17 : decode cX3_ditches 17 = .ok (.ifCond .eq 7, 3) := by decide +kernel
theorem dX3_ditches_20 : decode cX3_ditches 20 = .ok (.iconst 1, 1) := by decide +kernel
theorem dX3_ditches_21 : decode cX3_ditches 21 = .ok (.goto 4, 3) := by decide +kernel
theorem dX3_ditches_24 : decode cX3_ditches 24 = .ok (.iconst 0, 1) := by decide +kernel
theorem dX3_ditches_25 : decode cX3_ditches 25 = .ok (.iadd, 1) := by decide +kernel
theorem dX3_ditches_26 : decode cX3_ditches 26 = .ok (.istore_n 1, 1) := by decide +kernel
theorem dX3_ditches_27 : decode cX3_ditches 27 = .ok (.iinc 2 1, 3) := by decide +kernel
theorem dX3_ditches_30 : decode cX3_ditches 30 = .ok (.goto (-26), 3) := by decide +kernel
theorem dX3_ditches_33 : decode cX3_ditches 33 = .ok (.iload_n 1, 1) := by decide +kernel
theorem dX3_ditches_34 : decode cX3_ditches 34 = .ok (.ireturn, 1) := by decide +kernel
theorem dX3_copyFrom_0 : decode cX3_copyFrom 0 = .ok (.iconst 0, 1) := by decide +kernel
theorem dX3_copyFrom_1 : decode cX3_copyFrom 1 = .ok (.istore_n 2, 1) := by decide +kernel
theorem dX3_copyFrom_2 : decode cX3_copyFrom 2 = .ok (.iload_n 2, 1) := by decide +kernel
theorem dX3_copyFrom_3 : decode cX3_copyFrom 3 = .ok (.bipush 100, 2) := by decide +kernel
theorem dX3_copyFrom_5 : decode cX3_copyFrom 5 = .ok (.if_icmp .ge 57, 3) := by decide +kernel
theorem dX3_copyFrom_8 : decode cX3_copyFrom 8 = .ok (.aload_n 0, 1) := by decide +kernel
theorem dX3_copyFrom_9 : decode cX3_copyFrom 9 = .ok (.getfield 9, 3) := by decide +kernel
theorem dX3_copyFrom_12 : decode cX3_copyFrom 12 = .ok (.iload_n 2, 1) := by decide +kernel
theorem dX3_copyFrom_13 : decode cX3_copyFrom 13 = .ok (.aload_n 1, 1) := by decide +kernel
theorem dX3_copyFrom_14 : decode cX3_copyFrom 14 = .ok (.getfield 9, 3) := by decide +kernel
theorem dX3_copyFrom_17 : decode cX3_copyFrom 17 = .ok (.iload_n 2, 1) := by decide +kernel
theorem dX3_copyFrom_18 : decode cX3_copyFrom 18 = .ok (.iaload, 1) := by decide +kernel
theorem dX3_copyFrom_19 : decode cX3_copyFrom 19 = .ok (.iastore, 1) := by decide +kernel
theorem dX3_copyFrom_20 : decode cX3_copyFrom 20 = .ok (.aload_n 0, 1) := by decide +kernel
theorem dX3_copyFrom_21 : decode cX3_copyFrom 21 = .ok (.getfield 15, 3) := by decide +kernel
theorem dX3_copyFrom_24 : decode cX3_copyFrom 24 = .ok (.iload_n 2, 1) := by decide +kernel
theorem dX3_copyFrom_25 : decode cX3_copyFrom 25 = .ok (.aload_n 1, 1) := by decide +kernel
theorem dX3_copyFrom_26 : decode cX3_copyFrom 26 = .ok (.getfield 15, 3) := by decide +kernel
theorem dX3_copyFrom_29 : decode cX3_copyFrom 29 = .ok (.iload_n 2, 1) := by decide +kernel
theorem dX3_copyFrom_30 : decode cX3_copyFrom 30 = .ok (.iaload, 1) := by decide +kernel
theorem dX3_copyFrom_31 : decode cX3_copyFrom 31 = .ok (.iastore, 1) := by decide +kernel
theorem dX3_copyFrom_32 : decode cX3_copyFrom 32 = .ok (.aload_n 0, 1) := by decide +kernel
theorem dX3_copyFrom_33 : decode cX3_copyFrom 33 = .ok (.getfield 18, 3) := by decide +kernel
theorem dX3_copyFrom_36 : decode cX3_copyFrom 36 = .ok (.iload_n 2, 1) := by decide +kernel
theorem dX3_copyFrom_37 : decode cX3_copyFrom 37 = .ok (.aload_n 1, 1) := by decide +kernel
theorem dX3_copyFrom_38 : decode cX3_copyFrom 38 = .ok (.getfield 18, 3) := by decide +kernel
theorem dX3_copyFrom_41 : decode cX3_copyFrom 41 = .ok (.iload_n 2, 1) := by decide +kernel
theorem dX3_copyFrom_42 : decode cX3_copyFrom 42 = .ok (.baload, 1) := by decide +kernel
theorem dX3_copyFrom_43 : decode cX3_copyFrom 43 = .ok (.bastore, 1) := by decide +kernel
theorem dX3_copyFrom_44 : decode cX3_copyFrom 44 = .ok (.aload_n 0, 1) := by decide +kernel
theorem dX3_copyFrom_45 : decode cX3_copyFrom 45 = .ok (.getfield 22, 3) := by decide +kernel
theorem dX3_copyFrom_48 : decode cX3_copyFrom 48 = .ok (.iload_n 2, 1) := by decide +kernel
theorem dX3_copyFrom_49 : decode cX3_copyFrom 49 = .ok (.aload_n 1, 1) := by decide +kernel
theorem dX3_copyFrom_50 : decode cX3_copyFrom 50 = .ok (.getfield 22, 3) := by decide +kernel
theorem dX3_copyFrom_53 : decode cX3_copyFrom 53 = .ok (.iload_n 2, 1) := by decide +kernel
theorem dX3_copyFrom_54 : decode cX3_copyFrom 54 = .ok (.iaload, 1) := by decide +kernel
theorem dX3_copyFrom_55 : decode cX3_copyFrom 55 = .ok (.iastore, 1) := by decide +kernel
theorem dX3_copyFrom_56 : decode cX3_copyFrom 56 = .ok (.iinc 2 1, 3) := by decide +kernel
theorem dX3_copyFrom_59 : decode cX3_copyFrom 59 = .ok (.goto (-57), 3) := by decide +kernel
theorem dX3_copyFrom_62 : decode cX3_copyFrom 62 = .ok (.return_, 1) := by decide +kernel
-- decode rows of X4
theorem dX4_init_0 : decode cX4_init 0 = .ok (.aload_n 0, 1) := by decide +kernel
theorem dX4_init_1 : decode cX4_init 1 = .ok (.invokespecial 3, 3) := by decide +kernel
theorem dX4_init_4 : decode cX4_init 4 = .ok (.aload_n 0, 1) := by decide +kernel
theorem dX4_init_5 : decode cX4_init 5 = .ok (.bipush 8, 2) := by decide +kernel
theorem dX4_init_7 : decode cX4_init 7 = .ok (.newarray .int, 2) := by decide +kernel
theorem dX4_init_9 : decode cX4_init 9 = .ok (.putfield 9, 3) := by decide +kernel
theorem dX4_init_12 : decode cX4_init 12 = .ok (.aload_n 0, 1) := by decide +kernel
theorem dX4_init_13 : decode cX4_init 13 = .ok (.bipush 16, 2) := by decide +kernel
theorem dX4_init_15 : decode cX4_init 15 = .ok (.newarray .int, 2) := by decide +kernel
theorem dX4_init_17 : decode cX4_init 17 = .ok (.putfield 15, 3) := by decide +kernel
theorem dX4_init_20 : decode cX4_init 20 = .ok (.return_, 1) := by decide +kernel
theorem dX4_blow_0 : decode cX4_blow 0 = .ok (.aload_n 0, 1) := by decide +kernel
theorem dX4_blow_1 : decode cX4_blow 1 = .ok (.aload_n 1, 1) := by decide +kernel
theorem dX4_blow_2 : decode cX4_blow 2 = .ok (.getfield 18, 3) := by decide +kernel
theorem dX4_blow_5 : decode cX4_blow 5 = .ok (.getfield 24, 3) := by decide +kernel
theorem dX4_blow_8 : decode cX4_blow 8 = .ok (.putfield 30, 3) := by decide +kernel
theorem dX4_blow_11 : decode cX4_blow 11 = .ok (.aload_n 0, 1) := by decide +kernel
theorem dX4_blow_12 : decode cX4_blow 12 = .ok (.aload_n 1, 1) := by decide +kernel
theorem dX4_blow_13 : decode cX4_blow 13 = .ok (.getfield 31, 3) := by decide +kernel
theorem dX4_blow_16 : decode cX4_blow 16 = .ok (.getfield 35, 3) := by decide +kernel
theorem dX4_blow_19 : decode cX4_blow 19 = .ok (.putfield 40, 3) := by decide +kernel
theorem dX4_blow_22 : decode cX4_blow 22 = .ok (.aload_n 0, 1) := by decide +kernel
theorem dX4_blow_23 : decode cX4_blow 23 = .ok (.iconst 0, 1) := by decide +kernel
theorem dX4_blow_24 : decode cX4_blow 24 = .ok (.putfield 43, 3) := by decide +kernel
theorem dX4_blow_27 : decode cX4_blow 27 = .ok (.iconst 0, 1) := by decide +kernel
theorem dX4_blow_28 : decode cX4_blow 28 = .ok (.istore 4, 2) := by decide +kernel
theorem dX4_blow_30 : decode cX4_blow 30 = .ok (.iload 4, 2) := by decide +kernel
theorem dX4_blow_32 : decode cX4_blow 32 = .ok (.aload_n 1, 1) := by decide +kernel
theorem dX4_blow_33 : decode cX4_blow 33 = .ok (.getfield 18, 3) := by decide +kernel
theorem dX4_blow_36 : decode cX4_blow 36 = .ok (.getfield 46, 3) := by decide +kernel
theorem dX4_blow_39 : decode cX4_blow 39 = .ok (.if_icmp .ge 23, 3) := by decide +kernel
theorem dX4_blow_42 : decode cX4_blow 42 = .ok (.aload_n 0, 1) := by decide +kernel
theorem dX4_blow_43 : decode cX4_blow 43 = .ok (.getfield 9, 3) := by decide +kernel
theorem dX4_blow_46 : decode cX4_blow 46 = .ok (.iload 4, 2) := by decide +kernel
theorem dX4_blow_48 : decode cX4_blow 48 = .ok (.aload_n 1, 1) := by decide +kernel
theorem dX4_blow_49 : decode cX4_blow 49 = .ok (.iload 4, 2) := by decide +kernel
theorem dX4_blow_51 : decode cX4_blow 51 = .ok (.iload_n 3, 1) := by decide +kernel
theorem dX4_blow_52 : decode cX4_blow 52 = .ok (.invokevirtual 49, 3) := by decide +kernel
theorem dX4_blow_55 : decode cX4_blow 55 = .ok (.iastore, 1) := by decide +kernel
theorem dX4_blow_56 : decode cX4_blow 56 = .ok (.iinc 4 1, 3) := by decide +kernel
theorem dX4_blow_59 : decode cX4_blow 59 = .ok (.goto (-29), 3) := by decide +kernel
theorem dX4_blow_62 : decode cX4_blow 62 = .ok (.iload_n 2, 1) := by decide +kernel
theorem dX4_blow_63 : decode cX4_blow 63 = .ok (.ifCond .le 7, 3) := by decide +kernel
theorem dX4_blow_66 : decode cX4_blow 66 = .ok (.iconst 1, 1) := by decide +kernel
theorem dX4_blow_67 : decode cX4_blow 67 = .ok (.goto 4, 3) := by decide +kernel
theorem dX4_blow_70 : decode cX4_blow 70 = .ok (.iconst 0, 1) := by decide +kernel
theorem dX4_blow_71 : decode cX4_blow 71 = .ok (.istore 4, 2) := by decide +kernel
theorem dX4_blow_73 : decode cX4_blow 73 = .ok (.iload 4, 2) := by decide +kernel
theorem dX4_blow_75 : decode cX4_blow 75 = .ok (.ifCond .eq 84, 3) := by decide +kernel
theorem dX4_blow_78 : decode cX4_blow 78 = .ok (.aload_n 0, 1) := by decide +kernel
theorem dX4_blow_79 : decode cX4_blow 79 = .ok (.getfield 43, 3) := by decide +kernel
theorem dX4_blow_82 : decode cX4_blow 82 = .ok (.bipush 25, 2) := by decide +kernel
theorem dX4_blow_84 : decode cX4_blow 84 = .ok (.if_icmp .ge 75, 3) := by decide +kernel
theorem dX4_blow_87 : decode cX4_blow 87 = .ok (.aload_n 0, 1) := by decide +kernel
theorem dX4_blow_88 : decode cX4_blow 88 = .ok (.getfield 30, 3) := by decide +kernel
theorem dX4_blow_91 : decode cX4_blow 91 = .ok (.istore 5, 2) := by decide +kernel
theorem dX4_blow_93 : decode cX4_blow 93 = .ok (.aload_n 0, 1) := by decide +kernel
theorem dX4_blow_94 : decode cX4_blow 94 = .ok (.getfield 40, 3) := by decide +kernel
theorem dX4_blow_97 : decode cX4_blow 97 = .ok (.istore 6, 2) := by decide +kernel
theorem dX4_blow_99 : decode cX4_blow 99 = .ok (.aload_n 0, 1) := by decide +kernel
theorem dX4_blow_100 : decode cX4_blow 100 = .ok (.aload_n 1, 1) := by decide +kernel
theorem dX4_blow_101 : decode cX4_blow 101 = .ok (.getfield 18, 3) := by decide +kernel
theorem dX4_blow_104 : decode cX4_blow 104 = .ok (.invokevirtual 53, 3) := by decide +kernel
theorem dX4_blow_107 : decode cX4_blow 107 = .ok (.aload_n 0, 1) := by decide +kernel
theorem dX4_blow_108 : decode cX4_blow 108 = .ok (.aload_n 1, 1) := by decide +kernel
theorem dX4_blow_109 : decode cX4_blow 109 = .ok (.getfield 18, 3) := by decide +kernel
theorem dX4_blow_112 : decode cX4_blow 112 = .ok (.iload_n 2, 1) := by decide +kernel
theorem dX4_blow_113 : decode cX4_blow 113 = .ok (.invokevirtual 57, 3) := by decide +kernel
theorem dX4_blow_116 : decode cX4_blow 116 = .ok (.aload_n 0, 1) := by decide +kernel
theorem dX4_blow_117 : decode cX4_blow 117 = .ok (.aload_n 1, 1) := by decide +kernel
theorem dX4_blow_118 : decode cX4_blow 118 = .ok (.invokevirtual 61, 3) := by decide +kernel
theorem dX4_blow_121 : decode cX4_blow 121 = .ok (.aload_n 0, 1) := by decide +kernel
theorem dX4_blow_122 : decode cX4_blow 122 = .ok (.getfield 30, 3) := by decide +kernel
theorem dX4_blow_125 : decode cX4_blow 125 = .ok (.iload 5, 2) := by decide +kernel
theorem dX4_blow_127 : decode cX4_blow 127 = .ok (.if_icmp .ne 12, 3) := by decide +kernel
theorem dX4_blow_130 : decode cX4_blow 130 = .ok (.aload_n 0, 1) := by decide +kernel
theorem dX4_blow_131 : decode cX4_blow 131 = .ok (.getfield 40, 3) := by decide +kernel
theorem dX4_blow_134 : decode cX4_blow 134 = .ok (.iload 6, 2) := by decide +kernel
theorem dX4_blow_136 : decode cX4_blow 136 = .ok (.if_icmp .eq 7, 3) := by decide +kernel
theorem dX4_blow_139 : decode cX4_blow 139 = .ok (.iconst 1, 1) := by decide +kernel
theorem dX4_blow_140 : decode cX4_blow 140 = .ok (.goto 4, 3) := by decide +kernel
theorem dX4_blow_143 : decode cX4_blow 143 = .ok (.iconst 0, 1) := by decide +kernel
theorem dX4_blow_144 : decode cX4_blow 144 = .ok (.istore 4, 2) := by decide +kernel
theorem dX4_blow_146 : decode cX4_blow 146 = .ok (.aload_n 0, 1) := by decide +kernel
theorem dX4_blow_147 : decode cX4_blow 147 = .ok (.dup, 1) := by decide +kernel
theorem dX4_blow_148 : decode cX4_blow 148 = .ok (.getfield 43, 3) := by decide +kernel
theorem dX4_blow_151 : decode cX4_blow 151 = .ok (.iconst 1, 1) := by decide +kernel
theorem dX4_blow_152 : decode cX4_blow 152 = .ok (.iadd, 1) := by decide +kernel
theorem dX4_blow_153 : decode cX4_blow 153 = .ok (.putfield 43, 3) := by decide +kernel
theorem dX4_blow_156 : decode cX4_blow 156 = .ok (.goto (-83), 3) := by decide +kernel
theorem dX4_blow_159 : decode cX4_blow 159 = .ok (.return_, 1) := by decide +kernel
theorem dX4_dropTents_0 : decode cX4_dropTents 0 = .ok (.iconst 0, 1) := by decide +kernel
theorem dX4_dropTents_1 : decode cX4_dropTents 1 = .ok (.istore_n 2, 1) := by decide +kernel
theorem dX4_dropTents_2 : decode cX4_dropTents 2 = .ok (.iload_n 2, 1) := by decide +kernel
theorem dX4_dropTents_3 : decode cX4_dropTents 3 = .ok (.aload_n 1, 1) := by decide +kernel
theorem dX4_dropTents_4 : decode cX4_dropTents 4 = .ok (.getfield 46, 3) := by decide +kernel
theorem dX4_dropTents_7 : decode cX4_dropTents 7 = .ok (.if_icmp .ge 37, 3) := by decide +kernel
theorem dX4_dropTents_10 : decode cX4_dropTents 10 = .ok (.aload_n 0, 1) := by decide +kernel
theorem dX4_dropTents_11 : decode cX4_dropTents 11 = .ok (.getfield 9, 3) := by decide +kernel
theorem dX4_dropTents_14 : decode cX4_dropTents 14 = .ok (.iload_n 2, 1) := by decide +kernel
theorem dX4_dropTents_15 : decode cX4_dropTents 15 = .ok (.iaload, 1) := by decide +kernel
theorem dX4_dropTents_16 : decode cX4_dropTents 16 = .ok (.aload_n 0, 1) := by decide +kernel
theorem dX4_dropTents_17 : decode cX4_dropTents 17 = .ok (.getfield 40, 3) := by decide +kernel
theorem dX4_dropTents_20 : decode cX4_dropTents 20 = .ok (.iand, 1) := by decide +kernel
theorem dX4_dropTents_21 : decode cX4_dropTents 21 = .ok (.ifCond .ne 17, 3) := by decide +kernel
theorem dX4_dropTents_24 : decode cX4_dropTents 24 = .ok (.aload_n 0, 1) := by decide +kernel
theorem dX4_dropTents_25 : decode cX4_dropTents 25 = .ok (.dup, 1) := by decide +kernel
theorem dX4_dropTents_26 : decode cX4_dropTents 26 = .ok (.getfield 30, 3) := by decide +kernel
theorem dX4_dropTents_29 : decode cX4_dropTents 29 = .ok (.iconst 1, 1) := by decide +kernel
theorem dX4_dropTents_30 : decode cX4_dropTents 30 = .ok (.iload_n 2, 1) := by decide +kernel
theorem dX4_dropTents_31 : decode cX4_dropTents 31 = .ok (.ishl, 1) := by decide +kernel
theorem dX4_dropTents_32 : decode cX4_dropTents 32 = .ok (.iconst (-1), 1) := by decide +kernel
theorem dX4_dropTents_33 : decode cX4_dropTents 33 = .ok (.ixor, 1) := by decide +kernel
theorem dX4_dropTents_34 : decode cX4_dropTents 34 = .ok (.iand, 1) := by decide +kernel
theorem dX4_dropTents_35 : decode cX4_dropTents 35 = .ok (.putfield 30, 3) := by decide +kernel
theorem dX4_dropTents_38 : decode cX4_dropTents 38 = .ok (.iinc 2 1, 3) := by decide +kernel
theorem dX4_dropTents_41 : decode cX4_dropTents 41 = .ok (.goto (-39), 3) := by decide +kernel
theorem dX4_dropTents_44 : decode cX4_dropTents 44 = .ok (.return_, 1) := by decide +kernel
theorem dX4_pullAtPegs_0 : decode cX4_pullAtPegs 0 = .ok (.iconst 0, 1) := by decide +kernel
theorem dX4_pullAtPegs_1 : decode cX4_pullAtPegs 1 = .ok (.istore_n 3, 1) := by decide +kernel
theorem dX4_pullAtPegs_2 : decode cX4_pullAtPegs 2 = .ok (.iload_n 3, 1) := by decide +kernel
theorem dX4_pullAtPegs_3 : decode cX4_pullAtPegs 3 = .ok (.bipush 16, 2) := by decide +kernel
theorem dX4_pullAtPegs_5 : decode cX4_pullAtPegs 5 = .ok (.if_icmp .ge 16, 3) := by decide +kernel
theorem dX4_pullAtPegs_8 : decode cX4_pullAtPegs 8 = .ok (.aload_n 0, 1) := by decide +kernel
theorem dX4_pullAtPegs_9 : decode cX4_pullAtPegs 9 = .ok (.getfield 15, 3) := by decide +kernel
theorem dX4_pullAtPegs_12 : decode cX4_pullAtPegs 12 = .ok (.iload_n 3, 1) := by decide +kernel
theorem dX4_pullAtPegs_13 : decode cX4_pullAtPegs 13 = .ok (.iconst 0, 1) := by decide +kernel
theorem dX4_pullAtPegs_14 : decode cX4_pullAtPegs 14 = .ok (.iastore, 1) := by decide +kernel
theorem dX4_pullAtPegs_15 : decode cX4_pullAtPegs 15 = .ok (.iinc 3 1, 3) := by decide +kernel
theorem dX4_pullAtPegs_18 : decode cX4_pullAtPegs 18 = .ok (.goto (-16), 3) := by decide +kernel
theorem dX4_pullAtPegs_21 : decode cX4_pullAtPegs 21 = .ok (.iconst 0, 1) := by decide +kernel
theorem dX4_pullAtPegs_22 : decode cX4_pullAtPegs 22 = .ok (.istore_n 3, 1) := by decide +kernel
theorem dX4_pullAtPegs_23 : decode cX4_pullAtPegs 23 = .ok (.iload_n 3, 1) := by decide +kernel
theorem dX4_pullAtPegs_24 : decode cX4_pullAtPegs 24 = .ok (.aload_n 1, 1) := by decide +kernel
theorem dX4_pullAtPegs_25 : decode cX4_pullAtPegs 25 = .ok (.getfield 46, 3) := by decide +kernel
theorem dX4_pullAtPegs_28 : decode cX4_pullAtPegs 28 = .ok (.if_icmp .ge 62, 3) := by decide +kernel
theorem dX4_pullAtPegs_31 : decode cX4_pullAtPegs 31 = .ok (.aload_n 0, 1) := by decide +kernel
theorem dX4_pullAtPegs_32 : decode cX4_pullAtPegs 32 = .ok (.getfield 9, 3) := by decide +kernel
theorem dX4_pullAtPegs_35 : decode cX4_pullAtPegs 35 = .ok (.iload_n 3, 1) := by decide +kernel
theorem dX4_pullAtPegs_36 : decode cX4_pullAtPegs 36 = .ok (.iaload, 1) := by decide +kernel
theorem dX4_pullAtPegs_37 : decode cX4_pullAtPegs 37 = .ok (.aload_n 0, 1) := by decide +kernel
theorem dX4_pullAtPegs_38 : decode cX4_pullAtPegs 38 = .ok (.getfield 40, 3) := by decide +kernel
theorem dX4_pullAtPegs_41 : decode cX4_pullAtPegs 41 = .ok (.iand, 1) := by decide +kernel
theorem dX4_pullAtPegs_42 : decode cX4_pullAtPegs 42 = .ok (.istore 4, 2) := by decide +kernel
theorem dX4_pullAtPegs_44 : decode cX4_pullAtPegs 44 = .ok (.iload 4, 2) := by decide +kernel
theorem dX4_pullAtPegs_46 : decode cX4_pullAtPegs 46 = .ok (.invokestatic 65, 3) := by decide +kernel
theorem dX4_pullAtPegs_49 : decode cX4_pullAtPegs 49 = .ok (.istore 5, 2) := by decide +kernel
theorem dX4_pullAtPegs_51 : decode cX4_pullAtPegs 51 = .ok (.aload_n 0, 1) := by decide +kernel
theorem dX4_pullAtPegs_52 : decode cX4_pullAtPegs 52 = .ok (.getfield 30, 3) := by decide +kernel
theorem dX4_pullAtPegs_55 : decode cX4_pullAtPegs 55 = .ok (.iload_n 3, 1) := by decide +kernel
theorem dX4_pullAtPegs_56 : decode cX4_pullAtPegs 56 = .ok (.invokestatic 71, 3) := by decide +kernel
theorem dX4_pullAtPegs_59 : decode cX4_pullAtPegs 59 = .ok (.ifCond .eq 25, 3) := by decide +kernel
theorem dX4_pullAtPegs_62 : decode cX4_pullAtPegs 62 = .ok (.iload 5, 2) := by decide +kernel
theorem dX4_pullAtPegs_64 : decode cX4_pullAtPegs 64 = .ok (.ifCond .le 20, 3) := by decide +kernel
theorem dX4_pullAtPegs_67 : decode cX4_pullAtPegs 67 = .ok (.aload_n 0, 1) := by decide +kernel
theorem dX4_pullAtPegs_68 : decode cX4_pullAtPegs 68 = .ok (.iload 4, 2) := by decide +kernel
theorem dX4_pullAtPegs_70 : decode cX4_pullAtPegs 70 = .ok (.aload_n 1, 1) := by decide +kernel
theorem dX4_pullAtPegs_71 : decode cX4_pullAtPegs 71 = .ok (.getfield 75, 3) := by decide +kernel
theorem dX4_pullAtPegs_74 : decode cX4_pullAtPegs 74 = .ok (.iload_n 3, 1) := by decide +kernel
theorem dX4_pullAtPegs_75 : decode cX4_pullAtPegs 75 = .ok (.iaload, 1) := by decide +kernel
theorem dX4_pullAtPegs_76 : decode cX4_pullAtPegs 76 = .ok (.iload_n 2, 1) := by decide +kernel
theorem dX4_pullAtPegs_77 : decode cX4_pullAtPegs 77 = .ok (.imul, 1) := by decide +kernel
theorem dX4_pullAtPegs_78 : decode cX4_pullAtPegs 78 = .ok (.iload 5, 2) := by decide +kernel
theorem dX4_pullAtPegs_80 : decode cX4_pullAtPegs 80 = .ok (.idiv, 1) := by decide +kernel
theorem dX4_pullAtPegs_81 : decode cX4_pullAtPegs 81 = .ok (.invokevirtual 78, 3) := by decide +kernel
theorem dX4_pullAtPegs_84 : decode cX4_pullAtPegs 84 = .ok (.iinc 3 1, 3) := by decide +kernel
theorem dX4_pullAtPegs_87 : decode cX4_pullAtPegs 87 = .ok (.goto (-64), 3) := by decide +kernel
theorem dX4_pullAtPegs_90 : decode cX4_pullAtPegs 90 = .ok (.return_, 1) := by decide +kernel
theorem dX4_addPull_0 : decode cX4_addPull 0 = .ok (.iconst 0, 1) := by decide +kernel
theorem dX4_addPull_1 : decode cX4_addPull 1 = .ok (.istore_n 3, 1) := by decide +kernel
theorem dX4_addPull_2 : decode cX4_addPull 2 = .ok (.iload_n 3, 1) := by decide +kernel
theorem dX4_addPull_3 : decode cX4_addPull 3 = .ok (.bipush 16, 2) := by decide +kernel
theorem dX4_addPull_5 : decode cX4_addPull 5 = .ok (.if_icmp .ge 27, 3) := by decide +kernel
theorem dX4_addPull_8 : decode cX4_addPull 8 = .ok (.iload_n 1, 1) := by decide +kernel
theorem dX4_addPull_9 : decode cX4_addPull 9 = .ok (.iload_n 3, 1) := by decide +kernel
theorem dX4_addPull_10 : decode cX4_addPull 10 = .ok (.invokestatic 71, 3) := by decide +kernel
theorem dX4_addPull_13 : decode cX4_addPull 13 = .ok (.ifCond .eq 13, 3) := by decide +kernel
theorem dX4_addPull_16 : decode cX4_addPull 16 = .ok (.aload_n 0, 1) := by decide +kernel
theorem dX4_addPull_17 : decode cX4_addPull 17 = .ok (.getfield 15, 3) := by decide +kernel
theorem dX4_addPull_20 : decode cX4_addPull 20 = .ok (.iload_n 3, 1) := by decide +kernel
theorem dX4_addPull_21 : decode cX4_addPull 21 = .ok (.dup2, 1) := by decide +kernel
theorem dX4_addPull_22 : decode cX4_addPull 22 = .ok (.iaload, 1) := by decide +kernel
theorem dX4_addPull_23 : decode cX4_addPull 23 = .ok (.iload_n 2, 1) := by decide +kernel
theorem dX4_addPull_24 : decode cX4_addPull 24 = .ok (.iadd, 1) := by decide +kernel
theorem dX4_addPull_25 : decode cX4_addPull 25 = .ok (.iastore, 1) := by decide +kernel
theorem dX4_addPull_26 : decode cX4_addPull 26 = .ok (.iinc 3 1, 3) := by decide +kernel
theorem dX4_addPull_29 : decode cX4_addPull 29 = .ok (.goto (-27), 3) := by decide +kernel
theorem dX4_addPull_32 : decode cX4_addPull 32 = .ok (.return_, 1) := by decide +kernel
theorem dX4_tearPegsOut_0 : decode cX4_tearPegsOut 0 = .ok (.iconst 0, 1) := by decide +kernel
theorem dX4_tearPegsOut_1 : decode cX4_tearPegsOut 1 = .ok (.istore_n 2, 1) := by decide +kernel
theorem dX4_tearPegsOut_2 : decode cX4_tearPegsOut 2 = .ok (.iload_n 2, 1) := by decide +kernel
theorem dX4_tearPegsOut_3 : decode cX4_tearPegsOut 3 = .ok (.aload_n 1, 1) := by decide +kernel
theorem dX4_tearPegsOut_4 : decode cX4_tearPegsOut 4 = .ok (.getfield 31, 3) := by decide +kernel
theorem dX4_tearPegsOut_7 : decode cX4_tearPegsOut 7 = .ok (.getfield 82, 3) := by decide +kernel
theorem dX4_tearPegsOut_10 : decode cX4_tearPegsOut 10 = .ok (.if_icmp .ge 37, 3) := by decide +kernel
theorem dX4_tearPegsOut_13 : decode cX4_tearPegsOut 13 = .ok (.aload_n 0, 1) := by decide +kernel
theorem dX4_tearPegsOut_14 : decode cX4_tearPegsOut 14 = .ok (.getfield 15, 3) := by decide +kernel
theorem dX4_tearPegsOut_17 : decode cX4_tearPegsOut 17 = .ok (.iload_n 2, 1) := by decide +kernel
theorem dX4_tearPegsOut_18 : decode cX4_tearPegsOut 18 = .ok (.iaload, 1) := by decide +kernel
theorem dX4_tearPegsOut_19 : decode cX4_tearPegsOut 19 = .ok (.aload_n 1, 1) := by decide +kernel
theorem dX4_tearPegsOut_20 : decode cX4_tearPegsOut 20 = .ok (.iload_n 2, 1) := by decide +kernel
theorem dX4_tearPegsOut_21 : decode cX4_tearPegsOut 21 = .ok (.invokevirtual 85, 3) := by decide +kernel
theorem dX4_tearPegsOut_24 : decode cX4_tearPegsOut 24 = .ok (.if_icmp .le 17, 3) := by decide +kernel
theorem dX4_tearPegsOut_27 : decode cX4_tearPegsOut 27 = .ok (.aload_n 0, 1) := by decide +kernel
theorem dX4_tearPegsOut_28 : decode cX4_tearPegsOut 28 = .ok (.dup, 1) := by decide +kernel
theorem dX4_tearPegsOut_29 : decode cX4_tearPegsOut 29 = .ok (.getfield 40, 3) := by decide +kernel
theorem dX4_tearPegsOut_32 : decode cX4_tearPegsOut 32 = .ok (.iconst 1, 1) := by decide +kernel
theorem dX4_tearPegsOut_33 : decode cX4_tearPegsOut 33 = .ok (.iload_n 2, 1) := by decide +kernel
theorem dX4_tearPegsOut_34 : decode cX4_tearPegsOut 34 = .ok (.ishl, 1) := by decide +kernel
theorem dX4_tearPegsOut_35 : decode cX4_tearPegsOut 35 = .ok (.iconst (-1), 1) := by decide +kernel
theorem dX4_tearPegsOut_36 : decode cX4_tearPegsOut 36 = .ok (.ixor, 1) := by decide +kernel
theorem dX4_tearPegsOut_37 : decode cX4_tearPegsOut 37 = .ok (.iand, 1) := by decide +kernel
theorem dX4_tearPegsOut_38 : decode cX4_tearPegsOut 38 = .ok (.putfield 40, 3) := by decide +kernel
theorem dX4_tearPegsOut_41 : decode cX4_tearPegsOut 41 = .ok (.iinc 2 1, 3) := by decide +kernel
theorem dX4_tearPegsOut_44 : decode cX4_tearPegsOut 44 = .ok (.goto (-42), 3) := by decide +kernel
theorem dX4_tearPegsOut_47 : decode cX4_tearPegsOut 47 = .ok (.return_, 1) := by decide +kernel
-- decode rows of X5
theorem dX5_init_0 : decode cX5_init 0 = .ok (.aload_n 0, 1) := by decide +kernel
theorem dX5_init_1 : decode cX5_init 1 = .ok (.invokespecial 3, 3) := by decide +kernel
theorem dX5_init_4 : decode cX5_init 4 = .ok (.aload_n 0, 1) := by decide +kernel
theorem dX5_init_5 : decode cX5_init 5 = .ok (.bipush 8, 2) := by decide +kernel
theorem dX5_init_7 : decode cX5_init 7 = .ok (.newarray .int, 2) := by decide +kernel
theorem dX5_init_9 : decode cX5_init 9 = .ok (.putfield 9, 3) := by decide +kernel
theorem dX5_init_12 : decode cX5_init 12 = .ok (.aload_n 0, 1) := by decide +kernel
theorem dX5_init_13 : decode cX5_init 13 = .ok (.bipush 8, 2) := by decide +kernel
theorem dX5_init_15 : decode cX5_init 15 = .ok (.newarray .int, 2) := by decide +kernel
theorem dX5_init_17 : decode cX5_init 17 = .ok (.putfield 15, 3) := by decide +kernel
theorem dX5_init_20 : decode cX5_init 20 = .ok (.aload_n 0, 1) := by decide +kernel
theorem dX5_init_21 : decode cX5_init 21 = .ok (.bipush 8, 2) := by decide +kernel
theorem dX5_init_23 : decode cX5_init 23 = .ok (.newarray .int, 2) := by decide +kernel
theorem dX5_init_25 : decode cX5_init 25 = .ok (.putfield 18, 3) := by decide +kernel
theorem dX5_init_28 : decode cX5_init 28 = .ok (.return_, 1) := by decide +kernel
theorem dX5_pitchAt_0 : decode cX5_pitchAt 0 = .ok (.aload_n 0, 1) := by decide +kernel
theorem dX5_pitchAt_1 : decode cX5_pitchAt 1 = .ok (.getfield 21, 3) := by decide +kernel
theorem dX5_pitchAt_4 : decode cX5_pitchAt 4 = .ok (.bipush 8, 2) := by decide +kernel
theorem dX5_pitchAt_6 : decode cX5_pitchAt 6 = .ok (.if_icmp .ge 11, 3) := by decide +kernel
theorem dX5_pitchAt_9 : decode cX5_pitchAt 9 = .ok (.aload_n 0, 1) := by decide +kernel
theorem dX5_pitchAt_10 : decode cX5_pitchAt 10 = .ok (.iload_n 1, 1) := by decide +kernel
theorem dX5_pitchAt_11 : decode cX5_pitchAt 11 = .ok (.invokevirtual 25, 3) := by decide +kernel
theorem dX5_pitchAt_14 : decode cX5_pitchAt 14 = .ok (.ifCond .lt 5, 3) := by decide +kernel
theorem dX5_pitchAt_17 : decode cX5_pitchAt 17 = .ok (.iconst (-1), 1) := by decide +kernel
theorem dX5_pitchAt_18 : decode cX5_pitchAt 18 = .ok (.ireturn, 1) := by decide +kernel
theorem dX5_pitchAt_19 : decode cX5_pitchAt 19 = .ok (.aload_n 0, 1) := by decide +kernel
theorem dX5_pitchAt_20 : decode cX5_pitchAt 20 = .ok (.getfield 21, 3) := by decide +kernel
theorem dX5_pitchAt_23 : decode cX5_pitchAt 23 = .ok (.istore_n 3, 1) := by decide +kernel
theorem dX5_pitchAt_24 : decode cX5_pitchAt 24 = .ok (.aload_n 0, 1) := by decide +kernel
theorem dX5_pitchAt_25 : decode cX5_pitchAt 25 = .ok (.getfield 9, 3) := by decide +kernel
theorem dX5_pitchAt_28 : decode cX5_pitchAt 28 = .ok (.iload_n 3, 1) := by decide +kernel
theorem dX5_pitchAt_29 : decode cX5_pitchAt 29 = .ok (.iload_n 1, 1) := by decide +kernel
theorem dX5_pitchAt_30 : decode cX5_pitchAt 30 = .ok (.iastore, 1) := by decide +kernel
theorem dX5_pitchAt_31 : decode cX5_pitchAt 31 = .ok (.aload_n 0, 1) := by decide +kernel
theorem dX5_pitchAt_32 : decode cX5_pitchAt 32 = .ok (.getfield 15, 3) := by decide +kernel
theorem dX5_pitchAt_35 : decode cX5_pitchAt 35 = .ok (.iload_n 3, 1) := by decide +kernel
theorem dX5_pitchAt_36 : decode cX5_pitchAt 36 = .ok (.iload_n 2, 1) := by decide +kernel
theorem dX5_pitchAt_37 : decode cX5_pitchAt 37 = .ok (.iastore, 1) := by decide +kernel
theorem dX5_pitchAt_38 : decode cX5_pitchAt 38 = .ok (.aload_n 0, 1) := by decide +kernel
theorem dX5_pitchAt_39 : decode cX5_pitchAt 39 = .ok (.dup, 1) := by decide +kernel
theorem dX5_pitchAt_40 : decode cX5_pitchAt 40 = .ok (.getfield 29, 3) := by decide +kernel
theorem dX5_pitchAt_43 : decode cX5_pitchAt 43 = .ok (.iconst 1, 1) := by decide +kernel
theorem dX5_pitchAt_44 : decode cX5_pitchAt 44 = .ok (.iload_n 3, 1) := by decide +kernel
theorem dX5_pitchAt_45 : decode cX5_pitchAt 45 = .ok (.ishl, 1) := by decide +kernel
theorem dX5_pitchAt_46 : decode cX5_pitchAt 46 = .ok (.ior, 1) := by decide +kernel
theorem dX5_pitchAt_47 : decode cX5_pitchAt 47 = .ok (.putfield 29, 3) := by decide +kernel
theorem dX5_pitchAt_50 : decode cX5_pitchAt 50 = .ok (.aload_n 0, 1) := by decide +kernel
theorem dX5_pitchAt_51 : decode cX5_pitchAt 51 = .ok (.dup, 1) := by decide +kernel
theorem dX5_pitchAt_52 : decode cX5_pitchAt 52 = .ok (.getfield 21, 3) := by decide +kernel
theorem dX5_pitchAt_55 : decode cX5_pitchAt 55 = .ok (.iconst 1, 1) := by decide +kernel
theorem dX5_pitchAt_56 : decode cX5_pitchAt 56 = .ok (.iadd, 1) := by decide +kernel
theorem dX5_pitchAt_57 : decode cX5_pitchAt 57 = .ok (.putfield 21, 3) := by decide +kernel
theorem dX5_pitchAt_60 : decode cX5_pitchAt 60 = .ok (.iload_n 3, 1) := by decide +kernel
theorem dX5_pitchAt_61 : decode cX5_pitchAt 61 = .ok (.ireturn, 1) := by decide +kernel
theorem dX5_findAt_0 : decode cX5_findAt 0 = .ok (.iconst 0, 1) := by decide +kernel
theorem dX5_findAt_1 : decode cX5_findAt 1 = .ok (.istore_n 2, 1) := by decide +kernel
theorem dX5_findAt_2 : decode cX5_findAt 2 = .ok (.iload_n 2, 1) := by decide +kernel
theorem dX5_findAt_3 : decode cX5_findAt 3 = .ok (.aload_n 0, 1) := by decide +kernel
theorem dX5_findAt_4 : decode cX5_findAt 4 = .ok (.getfield 21, 3) := by decide +kernel
theorem dX5_findAt_7 : decode cX5_findAt 7 = .ok (.if_icmp .ge 21, 3) := by decide +kernel
theorem dX5_findAt_10 : decode cX5_findAt 10 = .ok (.aload_n 0, 1) := by decide +kernel
theorem dX5_findAt_11 : decode cX5_findAt 11 = .ok (.getfield 9, 3) := by decide +kernel
theorem dX5_findAt_14 : decode cX5_findAt 14 = .ok (.iload_n 2, 1) := by decide +kernel
theorem dX5_findAt_15 : decode cX5_findAt 15 = .ok (.iaload, 1) := by decide +kernel
theorem dX5_findAt_16 : decode cX5_findAt 16 = .ok (.iload_n 1, 1) := by decide +kernel
theorem dX5_findAt_17 : decode cX5_findAt 17 = .ok (.if_icmp .ne 5, 3) := by decide +kernel
theorem dX5_findAt_20 : decode cX5_findAt 20 = .ok (.iload_n 2, 1) := by decide +kernel
theorem dX5_findAt_21 : decode cX5_findAt 21 = .ok (.ireturn, 1) := by decide +kernel
theorem dX5_findAt_22 : decode cX5_findAt 22 = .ok (.iinc 2 1, 3) := by decide +kernel
theorem dX5_findAt_25 : decode cX5_findAt 25 = .ok (.goto (-23), 3) := by decide +kernel
theorem dX5_findAt_28 : decode cX5_findAt 28 = .ok (.iconst (-1), 1) := by decide +kernel
theorem dX5_findAt_29 : decode cX5_findAt 29 = .ok (.ireturn, 1) := by decide +kernel
theorem dX5_hasRope_0 : decode cX5_hasRope 0 = .ok (.aload_n 0, 1) := by decide +kernel
theorem dX5_hasRope_1 : decode cX5_hasRope 1 = .ok (.getfield 18, 3) := by decide +kernel
theorem dX5_hasRope_4 : decode cX5_hasRope 4 = .ok (.iload_n 1, 1) := by decide +kernel
theorem dX5_hasRope_5 : decode cX5_hasRope 5 = .ok (.iaload, 1) := by decide +kernel
theorem dX5_hasRope_6 : decode cX5_hasRope 6 = .ok (.iload_n 2, 1) := by decide +kernel
theorem dX5_hasRope_7 : decode cX5_hasRope 7 = .ok (.invokestatic 32, 3) := by decide +kernel
theorem dX5_hasRope_10 : decode cX5_hasRope 10 = .ok (.ireturn, 1) := by decide +kernel
theorem dX5_turnRope_0 : decode cX5_turnRope 0 = .ok (.aload_n 0, 1) := by decide +kernel
theorem dX5_turnRope_1 : decode cX5_turnRope 1 = .ok (.getfield 18, 3) := by decide +kernel
theorem dX5_turnRope_4 : decode cX5_turnRope 4 = .ok (.iload_n 1, 1) := by decide +kernel
theorem dX5_turnRope_5 : decode cX5_turnRope 5 = .ok (.dup2, 1) := by decide +kernel
theorem dX5_turnRope_6 : decode cX5_turnRope 6 = .ok (.iaload, 1) := by decide +kernel
theorem dX5_turnRope_7 : decode cX5_turnRope 7 = .ok (.iconst 1, 1) := by decide +kernel
theorem dX5_turnRope_8 : decode cX5_turnRope 8 = .ok (.iload_n 2, 1) := by decide +kernel
theorem dX5_turnRope_9 : decode cX5_turnRope 9 = .ok (.ishl, 1) := by decide +kernel
theorem dX5_turnRope_10 : decode cX5_turnRope 10 = .ok (.ixor, 1) := by decide +kernel
theorem dX5_turnRope_11 : decode cX5_turnRope 11 = .ok (.iastore, 1) := by decide +kernel
theorem dX5_turnRope_12 : decode cX5_turnRope 12 = .ok (.return_, 1) := by decide +kernel
theorem dX5_ropesOf_0 : decode cX5_ropesOf 0 = .ok (.aload_n 0, 1) := by decide +kernel
theorem dX5_ropesOf_1 : decode cX5_ropesOf 1 = .ok (.getfield 18, 3) := by decide +kernel
theorem dX5_ropesOf_4 : decode cX5_ropesOf 4 = .ok (.iload_n 1, 1) := by decide +kernel
theorem dX5_ropesOf_5 : decode cX5_ropesOf 5 = .ok (.iaload, 1) := by decide +kernel
theorem dX5_ropesOf_6 : decode cX5_ropesOf 6 = .ok (.invokestatic 36, 3) := by decide +kernel
theorem dX5_ropesOf_9 : decode cX5_ropesOf 9 = .ok (.ireturn, 1) := by decide +kernel
theorem dX5_ropesTo_0 : decode cX5_ropesTo 0 = .ok (.iconst 0, 1) := by decide +kernel
theorem dX5_ropesTo_1 : decode cX5_ropesTo 1 = .ok (.istore_n 2, 1) := by decide +kernel
theorem dX5_ropesTo_2 : decode cX5_ropesTo 2 = .ok (.iconst 0, 1) := by decide +kernel
theorem dX5_ropesTo_3 : decode cX5_ropesTo 3 = .ok (.istore_n 3, 1) := by decide +kernel
theorem dX5_ropesTo_4 : decode cX5_ropesTo 4 = .ok (.iload_n 3, 1) := by decide +kernel
theorem dX5_ropesTo_5 : decode cX5_ropesTo 5 = .ok (.aload_n 0, 1) := by decide +kernel
theorem dX5_ropesTo_6 : decode cX5_ropesTo 6 = .ok (.getfield 21, 3) := by decide +kernel
theorem dX5_ropesTo_9 : decode cX5_ropesTo 9 = .ok (.if_icmp .ge 26, 3) := by decide +kernel
theorem dX5_ropesTo_12 : decode cX5_ropesTo 12 = .ok (.iload_n 2, 1) := by decide +kernel
theorem dX5_ropesTo_13 : decode cX5_ropesTo 13 = .ok (.aload_n 0, 1) := by decide +kernel
theorem dX5_ropesTo_14 : decode cX5_ropesTo 14 = .ok (.iload_n 3, 1) := by decide +kernel
theorem dX5_ropesTo_15 : decode cX5_ropesTo 15 = .ok (.iload_n 1, 1) := by decide +kernel
theorem dX5_ropesTo_16 : decode cX5_ropesTo 16 = .ok (.invokevirtual 41, 3) := by decide +kernel
theorem dX5_ropesTo_19 : decode cX5_ropesTo 19 = .ok (.ifCond .eq 7, 3) := by decide +kernel
theorem dX5_ropesTo_22 : decode cX5_ropesTo 22 = .ok (.iconst 1, 1) := by decide +kernel
theorem dX5_ropesTo_23 : decode cX5_ropesTo 23 = .ok (.goto 4, 3) := by decide +kernel
theorem dX5_ropesTo_26 : decode cX5_ropesTo 26 = .ok (.iconst 0, 1) := by decide +kernel
theorem dX5_ropesTo_27 : decode cX5_ropesTo 27 = .ok (.iadd, 1) := by decide +kernel
theorem dX5_ropesTo_28 : decode cX5_ropesTo 28 = .ok (.istore_n 2, 1) := by decide +kernel
theorem dX5_ropesTo_29 : decode cX5_ropesTo 29 = .ok (.iinc 3 1, 3) := by decide +kernel
theorem dX5_ropesTo_32 : decode cX5_ropesTo 32 = .ok (.goto (-28), 3) := by decide +kernel
theorem dX5_ropesTo_35 : decode cX5_ropesTo 35 = .ok (.iload_n 2, 1) := by decide +kernel
theorem dX5_ropesTo_36 : decode cX5_ropesTo 36 = .ok (.ireturn, 1) := by decide +kernel
theorem dX5_allRopes_0 : decode cX5_allRopes 0 = .ok (.iconst 0, 1) := by decide +kernel
theorem dX5_allRopes_1 : decode cX5_allRopes 1 = .ok (.istore_n 1, 1) := by decide +kernel
theorem dX5_allRopes_2 : decode cX5_allRopes 2 = .ok (.iconst 0, 1) := by decide +kernel
theorem dX5_allRopes_3 : decode cX5_allRopes 3 = .ok (.istore_n 2, 1) := by decide +kernel
theorem dX5_allRopes_4 : decode cX5_allRopes 4 = .ok (.iload_n 2, 1) := by decide +kernel
theorem dX5_allRopes_5 : decode cX5_allRopes 5 = .ok (.aload_n 0, 1) := by decide +kernel
theorem dX5_allRopes_6 : decode cX5_allRopes 6 = .ok (.getfield 21, 3) := by decide +kernel
theorem dX5_allRopes_9 : decode cX5_allRopes 9 = .ok (.if_icmp .ge 17, 3) := by decide +kernel
theorem dX5_allRopes_12 : decode cX5_allRopes 12 = .ok (.iload_n 1, 1) := by decide +kernel
theorem dX5_allRopes_13 : decode cX5_allRopes 13 = .ok (.aload_n 0, 1) := by decide +kernel
theorem dX5_allRopes_14 : decode cX5_allRopes 14 = .ok (.iload_n 2, 1) := by decide +kernel
theorem dX5_allRopes_15 : decode cX5_allRopes 15 = .ok (.invokevirtual 44, 3) := by decide +kernel
theorem dX5_allRopes_18 : decode cX5_allRopes 18 = .ok (.iadd, 1) := by decide +kernel
theorem dX5_allRopes_19 : decode cX5_allRopes 19 = .ok (.istore_n 1, 1) := by decide +kernel
theorem dX5_allRopes_20 : decode cX5_allRopes 20 = .ok (.iinc 2 1, 3) := by decide +kernel
theorem dX5_allRopes_23 : decode cX5_allRopes 23 = .ok (.goto (-19), 3) := by decide +kernel
theorem dX5_allRopes_26 : decode cX5_allRopes 26 = .ok (.iload_n 1, 1) := by decide +kernel
theorem dX5_allRopes_27 : decode cX5_allRopes 27 = .ok (.ireturn, 1) := by decide +kernel
theorem dX5_dryFloors_0 : decode cX5_dryFloors 0 = .ok (.aload_n 0, 1) := by decide +kernel
theorem dX5_dryFloors_1 : decode cX5_dryFloors 1 = .ok (.getfield 21, 3) := by decide +kernel
theorem dX5_dryFloors_4 : decode cX5_dryFloors 4 = .ok (.aload_n 0, 1) := by decide +kernel
theorem dX5_dryFloors_5 : decode cX5_dryFloors 5 = .ok (.getfield 47, 3) := by decide +kernel
theorem dX5_dryFloors_8 : decode cX5_dryFloors 8 = .ok (.invokestatic 36, 3) := by decide +kernel
theorem dX5_dryFloors_11 : decode cX5_dryFloors 11 = .ok (.isub, 1) := by decide +kernel
theorem dX5_dryFloors_12 : decode cX5_dryFloors 12 = .ok (.ireturn, 1) := by decide +kernel
theorem dX5_copyFrom_0 : decode cX5_copyFrom 0 = .ok (.aload_n 0, 1) := by decide +kernel
theorem dX5_copyFrom_1 : decode cX5_copyFrom 1 = .ok (.aload_n 1, 1) := by decide +kernel
theorem dX5_copyFrom_2 : decode cX5_copyFrom 2 = .ok (.getfield 21, 3) := by decide +kernel
theorem dX5_copyFrom_5 : decode cX5_copyFrom 5 = .ok (.putfield 21, 3) := by decide +kernel
theorem dX5_copyFrom_8 : decode cX5_copyFrom 8 = .ok (.aload_n 0, 1) := by decide +kernel
theorem dX5_copyFrom_9 : decode cX5_copyFrom 9 = .ok (.aload_n 1, 1) := by decide +kernel
theorem dX5_copyFrom_10 : decode cX5_copyFrom 10 = .ok (.getfield 29, 3) := by decide +kernel
theorem dX5_copyFrom_13 : decode cX5_copyFrom 13 = .ok (.putfield 29, 3) := by decide +kernel
theorem dX5_copyFrom_16 : decode cX5_copyFrom 16 = .ok (.aload_n 0, 1) := by decide +kernel
theorem dX5_copyFrom_17 : decode cX5_copyFrom 17 = .ok (.aload_n 1, 1) := by decide +kernel
theorem dX5_copyFrom_18 : decode cX5_copyFrom 18 = .ok (.getfield 47, 3) := by decide +kernel
theorem dX5_copyFrom_21 : decode cX5_copyFrom 21 = .ok (.putfield 47, 3) := by decide +kernel
theorem dX5_copyFrom_24 : decode cX5_copyFrom 24 = .ok (.iconst 0, 1) := by decide +kernel
theorem dX5_copyFrom_25 : decode cX5_copyFrom 25 = .ok (.istore_n 2, 1) := by decide +kernel
theorem dX5_copyFrom_26 : decode cX5_copyFrom 26 = .ok (.iload_n 2, 1) := by decide +kernel
theorem dX5_copyFrom_27 : decode cX5_copyFrom 27 = .ok (.bipush 8, 2) := by decide +kernel
theorem dX5_copyFrom_29 : decode cX5_copyFrom 29 = .ok (.if_icmp .ge 45, 3) := by decide +kernel
theorem dX5_copyFrom_32 : decode cX5_copyFrom 32 = .ok (.aload_n 0, 1) := by decide +kernel
theorem dX5_copyFrom_33 : decode cX5_copyFrom 33 = .ok (.getfield 9, 3) := by decide +kernel
theorem dX5_copyFrom_36 : decode cX5_copyFrom 36 = .ok (.iload_n 2, 1) := by decide +kernel
theorem dX5_copyFrom_37 : decode cX5_copyFrom 37 = .ok (.aload_n 1, 1) := by decide +kernel
theorem dX5_copyFrom_38 : decode cX5_copyFrom 38 = .ok (.getfield 9, 3) := by decide +kernel
theorem dX5_copyFrom_41 : decode cX5_copyFrom 41 = .ok (.iload_n 2, 1) := by decide +kernel
theorem dX5_copyFrom_42 : decode cX5_copyFrom 42 = .ok (.iaload, 1) := by decide +kernel
theorem dX5_copyFrom_43 : decode cX5_copyFrom 43 = .ok (.iastore, 1) := by decide +kernel
theorem dX5_copyFrom_44 : decode cX5_copyFrom 44 = .ok (.aload_n 0, 1) := by decide +kernel
theorem dX5_copyFrom_45 : decode cX5_copyFrom 45 = .ok (.getfield 15, 3) := by decide +kernel
theorem dX5_copyFrom_48 : decode cX5_copyFrom 48 = .ok (.iload_n 2, 1) := by decide +kernel
theorem dX5_copyFrom_49 : decode cX5_copyFrom 49 = .ok (.aload_n 1, 1) := by decide +kernel
theorem dX5_copyFrom_50 : decode cX5_copyFrom 50 = .ok (.getfield 15, 3) := by decide +kernel
theorem dX5_copyFrom_53 : decode cX5_copyFrom 53 = .ok (.iload_n 2, 1) := by decide +kernel
theorem dX5_copyFrom_54 : decode cX5_copyFrom 54 = .ok (.iaload, 1) := by decide +kernel
theorem dX5_copyFrom_55 : decode cX5_copyFrom 55 = .ok (.iastore, 1) := by decide +kernel
theorem dX5_copyFrom_56 : decode cX5_copyFrom 56 = .ok (.aload_n 0, 1) := by decide +kernel
theorem dX5_copyFrom_57 : decode cX5_copyFrom 57 = .ok (.getfield 18, 3) := by decide +kernel
theorem dX5_copyFrom_60 : decode cX5_copyFrom 60 = .ok (.iload_n 2, 1) := by decide +kernel
theorem dX5_copyFrom_61 : decode cX5_copyFrom 61 = .ok (.aload_n 1, 1) := by decide +kernel
theorem dX5_copyFrom_62 : decode cX5_copyFrom 62 = .ok (.getfield 18, 3) := by decide +kernel
theorem dX5_copyFrom_65 : decode cX5_copyFrom 65 = .ok (.iload_n 2, 1) := by decide +kernel
theorem dX5_copyFrom_66 : decode cX5_copyFrom 66 = .ok (.iaload, 1) := by decide +kernel
theorem dX5_copyFrom_67 : decode cX5_copyFrom 67 = .ok (.iastore, 1) := by decide +kernel
theorem dX5_copyFrom_68 : decode cX5_copyFrom 68 = .ok (.iinc 2 1, 3) := by decide +kernel
theorem dX5_copyFrom_71 : decode cX5_copyFrom 71 = .ok (.goto (-45), 3) := by decide +kernel
theorem dX5_copyFrom_74 : decode cX5_copyFrom 74 = .ok (.return_, 1) := by decide +kernel
-- decode rows of X6
theorem dX6_init_0 : decode cX6_init 0 = .ok (.aload_n 0, 1) := by decide +kernel
theorem dX6_init_1 : decode cX6_init 1 = .ok (.invokespecial 3, 3) := by decide +kernel
theorem dX6_init_4 : decode cX6_init 4 = .ok (.aload_n 0, 1) := by decide +kernel
theorem dX6_init_5 : decode cX6_init 5 = .ok (.new 9, 3) := by decide +kernel
theorem dX6_init_8 : decode cX6_init 8 = .ok (.dup, 1) := by decide +kernel
theorem dX6_init_9 : decode cX6_init 9 = .ok (.invokespecial 11, 3) := by decide +kernel
theorem dX6_init_12 : decode cX6_init 12 = .ok (.putfield 12, 3) := by decide +kernel
theorem dX6_init_15 : decode cX6_init 15 = .ok (.aload_n 0, 1) := by decide +kernel
theorem dX6_init_16 : decode cX6_init 16 = .ok (.new 16, 3) := by decide +kernel
theorem dX6_init_19 : decode cX6_init 19 = .ok (.dup, 1) := by decide +kernel
theorem dX6_init_20 : decode cX6_init 20 = .ok (.invokespecial 18, 3) := by decide +kernel
theorem dX6_init_23 : decode cX6_init 23 = .ok (.putfield 19, 3) := by decide +kernel
theorem dX6_init_26 : decode cX6_init 26 = .ok (.aload_n 0, 1) := by decide +kernel
theorem dX6_init_27 : decode cX6_init 27 = .ok (.new 16, 3) := by decide +kernel
theorem dX6_init_30 : decode cX6_init 30 = .ok (.dup, 1) := by decide +kernel
theorem dX6_init_31 : decode cX6_init 31 = .ok (.invokespecial 18, 3) := by decide +kernel
theorem dX6_init_34 : decode cX6_init 34 = .ok (.putfield 23, 3) := by decide +kernel
theorem dX6_init_37 : decode cX6_init 37 = .ok (.return_, 1) := by decide +kernel
theorem dX6_setGround_0 : decode cX6_setGround 0 = .ok (.iload_n 1, 1) := by decide +kernel
theorem dX6_setGround_1 : decode cX6_setGround 1 = .ok (.iload_n 2, 1) := by decide +kernel
theorem dX6_setGround_2 : decode cX6_setGround 2 = .ok (.invokestatic 26, 3) := by decide +kernel
theorem dX6_setGround_5 : decode cX6_setGround 5 = .ok (.istore 5, 2) := by decide +kernel
theorem dX6_setGround_7 : decode cX6_setGround 7 = .ok (.iload_n 3, 1) := by decide +kernel
theorem dX6_setGround_8 : decode cX6_setGround 8 = .ok (.ifCond .lt 22, 3) := by decide +kernel
theorem dX6_setGround_11 : decode cX6_setGround 11 = .ok (.iload_n 3, 1) := by decide +kernel
theorem dX6_setGround_12 : decode cX6_setGround 12 = .ok (.bipush 30, 2) := by decide +kernel
theorem dX6_setGround_14 : decode cX6_setGround 14 = .ok (.if_icmp .gt 16, 3) := by decide +kernel
theorem dX6_setGround_17 : decode cX6_setGround 17 = .ok (.iload 4, 2) := by decide +kernel
theorem dX6_setGround_19 : decode cX6_setGround 19 = .ok (.iconst 1, 1) := by decide +kernel
theorem dX6_setGround_20 : decode cX6_setGround 20 = .ok (.if_icmp .lt 10, 3) := by decide +kernel
theorem dX6_setGround_23 : decode cX6_setGround 23 = .ok (.iload 4, 2) := by decide +kernel
theorem dX6_setGround_25 : decode cX6_setGround 25 = .ok (.bipush 9, 2) := by decide +kernel
theorem dX6_setGround_27 : decode cX6_setGround 27 = .ok (.if_icmp .le 13, 3) := by decide +kernel
theorem dX6_setGround_30 : decode cX6_setGround 30 = .ok (.new 30, 3) := by decide +kernel
theorem dX6_setGround_33 : decode cX6_setGround 33 = .ok (.dup, 1) := by decide +kernel
theorem dX6_setGround_34 : decode cX6_setGround 34 = .ok (.ldc 32, 2) := by decide +kernel
theorem dX6_setGround_36 : decode cX6_setGround 36 = .ok (.invokespecial 34, 3) := by decide +kernel
theorem dX6_setGround_39 : decode cX6_setGround 39 = .ok (.athrow, 1) := by decide +kernel
theorem dX6_setGround_40 : decode cX6_setGround 40 = .ok (.aload_n 0, 1) := by decide +kernel
theorem dX6_setGround_41 : decode cX6_setGround 41 = .ok (.getfield 19, 3) := by decide +kernel
theorem dX6_setGround_44 : decode cX6_setGround 44 = .ok (.getfield 37, 3) := by decide +kernel
theorem dX6_setGround_47 : decode cX6_setGround 47 = .ok (.iload 5, 2) := by decide +kernel
theorem dX6_setGround_49 : decode cX6_setGround 49 = .ok (.iload_n 3, 1) := by decide +kernel
theorem dX6_setGround_50 : decode cX6_setGround 50 = .ok (.iload 4, 2) := by decide +kernel
theorem dX6_setGround_52 : decode cX6_setGround 52 = .ok (.invokevirtual 41, 3) := by decide +kernel
theorem dX6_setGround_55 : decode cX6_setGround 55 = .ok (.ireturn, 1) := by decide +kernel
theorem dX6_ditch_0 : decode cX6_ditch 0 = .ok (.iload_n 1, 1) := by decide +kernel
theorem dX6_ditch_1 : decode cX6_ditch 1 = .ok (.iload_n 2, 1) := by decide +kernel
theorem dX6_ditch_2 : decode cX6_ditch 2 = .ok (.invokestatic 26, 3) := by decide +kernel
theorem dX6_ditch_5 : decode cX6_ditch 5 = .ok (.istore_n 3, 1) := by decide +kernel
theorem dX6_ditch_6 : decode cX6_ditch 6 = .ok (.aload_n 0, 1) := by decide +kernel
theorem dX6_ditch_7 : decode cX6_ditch 7 = .ok (.getfield 19, 3) := by decide +kernel
theorem dX6_ditch_10 : decode cX6_ditch 10 = .ok (.getfield 37, 3) := by decide +kernel
theorem dX6_ditch_13 : decode cX6_ditch 13 = .ok (.getfield 47, 3) := by decide +kernel
theorem dX6_ditch_16 : decode cX6_ditch 16 = .ok (.iload_n 3, 1) := by decide +kernel
theorem dX6_ditch_17 : decode cX6_ditch 17 = .ok (.aload_n 0, 1) := by decide +kernel
theorem dX6_ditch_18 : decode cX6_ditch 18 = .ok (.getfield 19, 3) := by decide +kernel
theorem dX6_ditch_21 : decode cX6_ditch 21 = .ok (.getfield 37, 3) := by decide +kernel
theorem dX6_ditch_24 : decode cX6_ditch 24 = .ok (.getfield 47, 3) := by decide +kernel
theorem dX6_ditch_27 : decode cX6_ditch 27 = .ok (.iload_n 3, 1) := by decide +kernel
theorem dX6_ditch_28 : decode cX6_ditch 28 = .ok (.baload, 1) := by decide +kernel
theorem dX6_ditch_29 : decode cX6_ditch 29 = .ok (.ifCond .ne 7, 3) := by decide +kernel
theorem dX6_ditch_32 : decode cX6_ditch 32 = .ok (.iconst 1, 1) := by decide +kernel
theorem dX6_ditch_33 : decode cX6_ditch 33 = .ok (.goto 4, 3) := by decide +kernel
theorem dX6_ditch_36 : decode cX6_ditch 36 = .ok (.iconst 0, 1) := by decide +kernel
theorem dX6_ditch_37 : decode cX6_ditch 37 = .ok (.bastore, 1) := by decide +kernel
theorem dX6_ditch_38 : decode cX6_ditch 38 = .ok (.aload_n 0, 1) := by decide +kernel
theorem dX6_ditch_39 : decode cX6_ditch 39 = .ok (.getfield 19, 3) := by decide +kernel
theorem dX6_ditch_42 : decode cX6_ditch 42 = .ok (.getfield 37, 3) := by decide +kernel
theorem dX6_ditch_45 : decode cX6_ditch 45 = .ok (.getfield 47, 3) := by decide +kernel
theorem dX6_ditch_48 : decode cX6_ditch 48 = .ok (.iload_n 3, 1) := by decide +kernel
theorem dX6_ditch_49 : decode cX6_ditch 49 = .ok (.baload, 1) := by decide +kernel
theorem dX6_ditch_50 : decode cX6_ditch 50 = .ok (.ireturn, 1) := by decide +kernel
theorem dX6_setNight_0 : decode cX6_setNight 0 = .ok (.iload_n 1, 1) := by decide +kernel
theorem dX6_setNight_1 : decode cX6_setNight 1 = .ok (.ifCond .lt 9, 3) := by decide +kernel
theorem dX6_setNight_4 : decode cX6_setNight 4 = .ok (.iload_n 1, 1) := by decide +kernel
theorem dX6_setNight_5 : decode cX6_setNight 5 = .ok (.bipush 7, 2) := by decide +kernel
theorem dX6_setNight_7 : decode cX6_setNight 7 = .ok (.if_icmp .lt 13, 3) := by decide +kernel
theorem dX6_setNight_10 : decode cX6_setNight 10 = .ok (.new 51, 3) := by decide +kernel
theorem dX6_setNight_13 : decode cX6_setNight 13 = .ok (.dup, 1) := by decide +kernel
theorem dX6_setNight_14 : decode cX6_setNight 14 = .ok (.ldc 53, 2) := by decide +kernel
theorem dX6_setNight_16 : decode cX6_setNight 16 = .ok (.invokespecial 55, 3) := by decide +kernel
theorem dX6_setNight_19 : decode cX6_setNight 19 = .ok (.athrow, 1) := by decide +kernel
theorem dX6_setNight_20 : decode cX6_setNight 20 = .ok (.iload_n 2, 1) := by decide +kernel
theorem dX6_setNight_21 : decode cX6_setNight 21 = .ok (.iload_n 3, 1) := by decide +kernel
theorem dX6_setNight_22 : decode cX6_setNight 22 = .ok (.invokestatic 56, 3) := by decide +kernel
theorem dX6_setNight_25 : decode cX6_setNight 25 = .ok (.iload 4, 2) := by decide +kernel
theorem dX6_setNight_27 : decode cX6_setNight 27 = .ok (.invokestatic 60, 3) := by decide +kernel
theorem dX6_setNight_30 : decode cX6_setNight 30 = .ok (.aload_n 0, 1) := by decide +kernel
theorem dX6_setNight_31 : decode cX6_setNight 31 = .ok (.getfield 12, 3) := by decide +kernel
theorem dX6_setNight_34 : decode cX6_setNight 34 = .ok (.iload_n 1, 1) := by decide +kernel
theorem dX6_setNight_35 : decode cX6_setNight 35 = .ok (.invokevirtual 64, 3) := by decide +kernel
theorem dX6_setNight_38 : decode cX6_setNight 38 = .ok (.istore 5, 2) := by decide +kernel
theorem dX6_setNight_40 : decode cX6_setNight 40 = .ok (.aload_n 0, 1) := by decide +kernel
theorem dX6_setNight_41 : decode cX6_setNight 41 = .ok (.getfield 12, 3) := by decide +kernel
theorem dX6_setNight_44 : decode cX6_setNight 44 = .ok (.getfield 68, 3) := by decide +kernel
theorem dX6_setNight_47 : decode cX6_setNight 47 = .ok (.iload_n 1, 1) := by decide +kernel
theorem dX6_setNight_48 : decode cX6_setNight 48 = .ok (.iload_n 2, 1) := by decide +kernel
theorem dX6_setNight_49 : decode cX6_setNight 49 = .ok (.iastore, 1) := by decide +kernel
theorem dX6_setNight_50 : decode cX6_setNight 50 = .ok (.aload_n 0, 1) := by decide +kernel
theorem dX6_setNight_51 : decode cX6_setNight 51 = .ok (.getfield 12, 3) := by decide +kernel
theorem dX6_setNight_54 : decode cX6_setNight 54 = .ok (.getfield 72, 3) := by decide +kernel
theorem dX6_setNight_57 : decode cX6_setNight 57 = .ok (.iload_n 1, 1) := by decide +kernel
theorem dX6_setNight_58 : decode cX6_setNight 58 = .ok (.iload_n 3, 1) := by decide +kernel
theorem dX6_setNight_59 : decode cX6_setNight 59 = .ok (.iastore, 1) := by decide +kernel
theorem dX6_setNight_60 : decode cX6_setNight 60 = .ok (.aload_n 0, 1) := by decide +kernel
theorem dX6_setNight_61 : decode cX6_setNight 61 = .ok (.getfield 12, 3) := by decide +kernel
theorem dX6_setNight_64 : decode cX6_setNight 64 = .ok (.getfield 75, 3) := by decide +kernel
theorem dX6_setNight_67 : decode cX6_setNight 67 = .ok (.iload_n 1, 1) := by decide +kernel
theorem dX6_setNight_68 : decode cX6_setNight 68 = .ok (.iload 4, 2) := by decide +kernel
theorem dX6_setNight_70 : decode cX6_setNight 70 = .ok (.iastore, 1) := by decide +kernel
theorem dX6_setNight_71 : decode cX6_setNight 71 = .ok (.iload 5, 2) := by decide +kernel
theorem dX6_setNight_73 : decode cX6_setNight 73 = .ok (.ireturn, 1) := by decide +kernel
theorem dX6_drive_0 : decode cX6_drive 0 = .ok (.aload_n 0, 1) := by decide +kernel
theorem dX6_drive_1 : decode cX6_drive 1 = .ok (.getfield 19, 3) := by decide +kernel
theorem dX6_drive_4 : decode cX6_drive 4 = .ok (.getfield 78, 3) := by decide +kernel
theorem dX6_drive_7 : decode cX6_drive 7 = .ok (.iload_n 1, 1) := by decide +kernel
theorem dX6_drive_8 : decode cX6_drive 8 = .ok (.iload_n 2, 1) := by decide +kernel
theorem dX6_drive_9 : decode cX6_drive 9 = .ok (.invokestatic 26, 3) := by decide +kernel
theorem dX6_drive_12 : decode cX6_drive 12 = .ok (.invokevirtual 82, 3) := by decide +kernel
theorem dX6_drive_15 : decode cX6_drive 15 = .ok (.istore_n 3, 1) := by decide +kernel
theorem dX6_drive_16 : decode cX6_drive 16 = .ok (.iload_n 3, 1) := by decide +kernel
theorem dX6_drive_17 : decode cX6_drive 17 = .ok (.ifCond .ge 13, 3) := by decide +kernel
theorem dX6_drive_20 : decode cX6_drive 20 = .ok (.new 87, 3) := by decide +kernel
theorem dX6_drive_23 : decode cX6_drive 23 = .ok (.dup, 1) := by decide +kernel
theorem dX6_drive_24 : decode cX6_drive 24 = .ok (.ldc 89, 2) := by decide +kernel
theorem dX6_drive_26 : decode cX6_drive 26 = .ok (.invokespecial 91, 3) := by decide +kernel
theorem dX6_drive_29 : decode cX6_drive 29 = .ok (.athrow, 1) := by decide +kernel
theorem dX6_drive_30 : decode cX6_drive 30 = .ok (.iload_n 3, 1) := by decide +kernel
theorem dX6_drive_31 : decode cX6_drive 31 = .ok (.ireturn, 1) := by decide +kernel
theorem dX6_again_0 : decode cX6_again 0 = .ok (.aload_n 0, 1) := by decide +kernel
theorem dX6_again_1 : decode cX6_again 1 = .ok (.iload_n 1, 1) := by decide +kernel
theorem dX6_again_2 : decode cX6_again 2 = .ok (.invokevirtual 92, 3) := by decide +kernel
theorem dX6_again_5 : decode cX6_again 5 = .ok (.aload_n 0, 1) := by decide +kernel
theorem dX6_again_6 : decode cX6_again 6 = .ok (.getfield 19, 3) := by decide +kernel
theorem dX6_again_9 : decode cX6_again 9 = .ok (.getfield 78, 3) := by decide +kernel
theorem dX6_again_12 : decode cX6_again 12 = .ok (.getfield 95, 3) := by decide +kernel
theorem dX6_again_15 : decode cX6_again 15 = .ok (.iload_n 1, 1) := by decide +kernel
theorem dX6_again_16 : decode cX6_again 16 = .ok (.invokestatic 99, 3) := by decide +kernel
theorem dX6_again_19 : decode cX6_again 19 = .ok (.ifCond .eq 13, 3) := by decide +kernel
theorem dX6_again_22 : decode cX6_again 22 = .ok (.new 87, 3) := by decide +kernel
theorem dX6_again_25 : decode cX6_again 25 = .ok (.dup, 1) := by decide +kernel
theorem dX6_again_26 : decode cX6_again 26 = .ok (.ldc 103, 2) := by decide +kernel
theorem dX6_again_28 : decode cX6_again 28 = .ok (.invokespecial 91, 3) := by decide +kernel
theorem dX6_again_31 : decode cX6_again 31 = .ok (.athrow, 1) := by decide +kernel
theorem dX6_again_32 : decode cX6_again 32 = .ok (.aload_n 0, 1) := by decide +kernel
theorem dX6_again_33 : decode cX6_again 33 = .ok (.getfield 19, 3) := by decide +kernel
theorem dX6_again_36 : decode cX6_again 36 = .ok (.getfield 78, 3) := by decide +kernel
theorem dX6_again_39 : decode cX6_again 39 = .ok (.dup, 1) := by decide +kernel
theorem dX6_again_40 : decode cX6_again 40 = .ok (.getfield 95, 3) := by decide +kernel
theorem dX6_again_43 : decode cX6_again 43 = .ok (.iconst 1, 1) := by decide +kernel
theorem dX6_again_44 : decode cX6_again 44 = .ok (.iload_n 1, 1) := by decide +kernel
theorem dX6_again_45 : decode cX6_again 45 = .ok (.ishl, 1) := by decide +kernel
theorem dX6_again_46 : decode cX6_again 46 = .ok (.ior, 1) := by decide +kernel
theorem dX6_again_47 : decode cX6_again 47 = .ok (.putfield 95, 3) := by decide +kernel
theorem dX6_again_50 : decode cX6_again 50 = .ok (.aload_n 0, 1) := by decide +kernel
theorem dX6_again_51 : decode cX6_again 51 = .ok (.getfield 19, 3) := by decide +kernel
theorem dX6_again_54 : decode cX6_again 54 = .ok (.iload_n 1, 1) := by decide +kernel
theorem dX6_again_55 : decode cX6_again 55 = .ok (.invokevirtual 105, 3) := by decide +kernel
theorem dX6_again_58 : decode cX6_again 58 = .ok (.ireturn, 1) := by decide +kernel
theorem dX6_pitch_0 : decode cX6_pitch 0 = .ok (.iload_n 1, 1) := by decide +kernel
theorem dX6_pitch_1 : decode cX6_pitch 1 = .ok (.iload_n 2, 1) := by decide +kernel
theorem dX6_pitch_2 : decode cX6_pitch 2 = .ok (.invokestatic 26, 3) := by decide +kernel
theorem dX6_pitch_5 : decode cX6_pitch 5 = .ok (.istore 4, 2) := by decide +kernel
theorem dX6_pitch_7 : decode cX6_pitch 7 = .ok (.iload_n 3, 1) := by decide +kernel
theorem dX6_pitch_8 : decode cX6_pitch 8 = .ok (.iconst 1, 1) := by decide +kernel
theorem dX6_pitch_9 : decode cX6_pitch 9 = .ok (.if_icmp .lt 9, 3) := by decide +kernel
theorem dX6_pitch_12 : decode cX6_pitch 12 = .ok (.iload_n 3, 1) := by decide +kernel
theorem dX6_pitch_13 : decode cX6_pitch 13 = .ok (.bipush 9, 2) := by decide +kernel
theorem dX6_pitch_15 : decode cX6_pitch 15 = .ok (.if_icmp .le 13, 3) := by decide +kernel
theorem dX6_pitch_18 : decode cX6_pitch 18 = .ok (.new 30, 3) := by decide +kernel
theorem dX6_pitch_21 : decode cX6_pitch 21 = .ok (.dup, 1) := by decide +kernel
theorem dX6_pitch_22 : decode cX6_pitch 22 = .ok (.ldc 108, 2) := by decide +kernel
theorem dX6_pitch_24 : decode cX6_pitch 24 = .ok (.invokespecial 34, 3) := by decide +kernel
theorem dX6_pitch_27 : decode cX6_pitch 27 = .ok (.athrow, 1) := by decide +kernel
theorem dX6_pitch_28 : decode cX6_pitch 28 = .ok (.aload_n 0, 1) := by decide +kernel
theorem dX6_pitch_29 : decode cX6_pitch 29 = .ok (.getfield 19, 3) := by decide +kernel
theorem dX6_pitch_32 : decode cX6_pitch 32 = .ok (.getfield 110, 3) := by decide +kernel
theorem dX6_pitch_35 : decode cX6_pitch 35 = .ok (.iload 4, 2) := by decide +kernel
theorem dX6_pitch_37 : decode cX6_pitch 37 = .ok (.iload_n 3, 1) := by decide +kernel
theorem dX6_pitch_38 : decode cX6_pitch 38 = .ok (.invokevirtual 114, 3) := by decide +kernel
theorem dX6_pitch_41 : decode cX6_pitch 41 = .ok (.istore 5, 2) := by decide +kernel
theorem dX6_pitch_43 : decode cX6_pitch 43 = .ok (.iload 5, 2) := by decide +kernel
theorem dX6_pitch_45 : decode cX6_pitch 45 = .ok (.ifCond .ge 13, 3) := by decide +kernel
theorem dX6_pitch_48 : decode cX6_pitch 48 = .ok (.new 87, 3) := by decide +kernel
theorem dX6_pitch_51 : decode cX6_pitch 51 = .ok (.dup, 1) := by decide +kernel
theorem dX6_pitch_52 : decode cX6_pitch 52 = .ok (.ldc 119, 2) := by decide +kernel
theorem dX6_pitch_54 : decode cX6_pitch 54 = .ok (.invokespecial 91, 3) := by decide +kernel
theorem dX6_pitch_57 : decode cX6_pitch 57 = .ok (.athrow, 1) := by decide +kernel
theorem dX6_pitch_58 : decode cX6_pitch 58 = .ok (.iload 5, 2) := by decide +kernel
theorem dX6_pitch_60 : decode cX6_pitch 60 = .ok (.ireturn, 1) := by decide +kernel
theorem dX6_raise_0 : decode cX6_raise 0 = .ok (.aload_n 0, 1) := by decide +kernel
theorem dX6_raise_1 : decode cX6_raise 1 = .ok (.iload_n 1, 1) := by decide +kernel
theorem dX6_raise_2 : decode cX6_raise 2 = .ok (.invokevirtual 121, 3) := by decide +kernel
theorem dX6_raise_5 : decode cX6_raise 5 = .ok (.aload_n 0, 1) := by decide +kernel
theorem dX6_raise_6 : decode cX6_raise 6 = .ok (.getfield 19, 3) := by decide +kernel
theorem dX6_raise_9 : decode cX6_raise 9 = .ok (.getfield 110, 3) := by decide +kernel
theorem dX6_raise_12 : decode cX6_raise 12 = .ok (.getfield 124, 3) := by decide +kernel
theorem dX6_raise_15 : decode cX6_raise 15 = .ok (.iload_n 1, 1) := by decide +kernel
theorem dX6_raise_16 : decode cX6_raise 16 = .ok (.invokestatic 99, 3) := by decide +kernel
theorem dX6_raise_19 : decode cX6_raise 19 = .ok (.ifCond .eq 13, 3) := by decide +kernel
theorem dX6_raise_22 : decode cX6_raise 22 = .ok (.new 87, 3) := by decide +kernel
theorem dX6_raise_25 : decode cX6_raise 25 = .ok (.dup, 1) := by decide +kernel
theorem dX6_raise_26 : decode cX6_raise 26 = .ok (.ldc 127, 2) := by decide +kernel
theorem dX6_raise_28 : decode cX6_raise 28 = .ok (.invokespecial 91, 3) := by decide +kernel
theorem dX6_raise_31 : decode cX6_raise 31 = .ok (.athrow, 1) := by decide +kernel
theorem dX6_raise_32 : decode cX6_raise 32 = .ok (.aload_n 0, 1) := by decide +kernel
theorem dX6_raise_33 : decode cX6_raise 33 = .ok (.getfield 19, 3) := by decide +kernel
theorem dX6_raise_36 : decode cX6_raise 36 = .ok (.getfield 110, 3) := by decide +kernel
theorem dX6_raise_39 : decode cX6_raise 39 = .ok (.dup, 1) := by decide +kernel
theorem dX6_raise_40 : decode cX6_raise 40 = .ok (.getfield 124, 3) := by decide +kernel
theorem dX6_raise_43 : decode cX6_raise 43 = .ok (.iconst 1, 1) := by decide +kernel
theorem dX6_raise_44 : decode cX6_raise 44 = .ok (.iload_n 1, 1) := by decide +kernel
theorem dX6_raise_45 : decode cX6_raise 45 = .ok (.ishl, 1) := by decide +kernel
theorem dX6_raise_46 : decode cX6_raise 46 = .ok (.ior, 1) := by decide +kernel
theorem dX6_raise_47 : decode cX6_raise 47 = .ok (.putfield 124, 3) := by decide +kernel
theorem dX6_raise_50 : decode cX6_raise 50 = .ok (.aload_n 0, 1) := by decide +kernel
theorem dX6_raise_51 : decode cX6_raise 51 = .ok (.getfield 19, 3) := by decide +kernel
theorem dX6_raise_54 : decode cX6_raise 54 = .ok (.getfield 110, 3) := by decide +kernel
theorem dX6_raise_57 : decode cX6_raise 57 = .ok (.dup, 1) := by decide +kernel
theorem dX6_raise_58 : decode cX6_raise 58 = .ok (.getfield 129, 3) := by decide +kernel
theorem dX6_raise_61 : decode cX6_raise 61 = .ok (.iconst 1, 1) := by decide +kernel
theorem dX6_raise_62 : decode cX6_raise 62 = .ok (.iload_n 1, 1) := by decide +kernel
theorem dX6_raise_63 : decode cX6_raise 63 = .ok (.ishl, 1) := by decide +kernel
theorem dX6_raise_64 : decode cX6_raise 64 = .ok (.iconst (-1), 1) := by decide +kernel
theorem dX6_raise_65 : decode cX6_raise 65 = .ok (.ixor, 1) := by decide +kernel
theorem dX6_raise_66 : decode cX6_raise 66 = .ok (.iand, 1) := by decide +kernel
theorem dX6_raise_67 : decode cX6_raise 67 = .ok (.putfield 129, 3) := by decide +kernel
theorem dX6_raise_70 : decode cX6_raise 70 = .ok (.aload_n 0, 1) := by decide +kernel
theorem dX6_raise_71 : decode cX6_raise 71 = .ok (.getfield 19, 3) := by decide +kernel
theorem dX6_raise_74 : decode cX6_raise 74 = .ok (.iload_n 1, 1) := by decide +kernel
theorem dX6_raise_75 : decode cX6_raise 75 = .ok (.invokevirtual 132, 3) := by decide +kernel
theorem dX6_raise_78 : decode cX6_raise 78 = .ok (.ireturn, 1) := by decide +kernel
theorem dX6_tie_0 : decode cX6_tie 0 = .ok (.aload_n 0, 1) := by decide +kernel
theorem dX6_tie_1 : decode cX6_tie 1 = .ok (.iload_n 1, 1) := by decide +kernel
theorem dX6_tie_2 : decode cX6_tie 2 = .ok (.invokevirtual 121, 3) := by decide +kernel
theorem dX6_tie_5 : decode cX6_tie 5 = .ok (.aload_n 0, 1) := by decide +kernel
theorem dX6_tie_6 : decode cX6_tie 6 = .ok (.iload_n 2, 1) := by decide +kernel
theorem dX6_tie_7 : decode cX6_tie 7 = .ok (.invokevirtual 92, 3) := by decide +kernel
theorem dX6_tie_10 : decode cX6_tie 10 = .ok (.aload_n 0, 1) := by decide +kernel
theorem dX6_tie_11 : decode cX6_tie 11 = .ok (.getfield 19, 3) := by decide +kernel
theorem dX6_tie_14 : decode cX6_tie 14 = .ok (.getfield 110, 3) := by decide +kernel
theorem dX6_tie_17 : decode cX6_tie 17 = .ok (.iload_n 1, 1) := by decide +kernel
theorem dX6_tie_18 : decode cX6_tie 18 = .ok (.iload_n 2, 1) := by decide +kernel
theorem dX6_tie_19 : decode cX6_tie 19 = .ok (.invokevirtual 135, 3) := by decide +kernel
theorem dX6_tie_22 : decode cX6_tie 22 = .ok (.ifCond .ne 29, 3) := by decide +kernel
theorem dX6_tie_25 : decode cX6_tie 25 = .ok (.aload_n 0, 1) := by decide +kernel
theorem dX6_tie_26 : decode cX6_tie 26 = .ok (.getfield 19, 3) := by decide +kernel
theorem dX6_tie_29 : decode cX6_tie 29 = .ok (.getfield 110, 3) := by decide +kernel
theorem dX6_tie_32 : decode cX6_tie 32 = .ok (.iload_n 1, 1) := by decide +kernel
theorem dX6_tie_33 : decode cX6_tie 33 = .ok (.invokevirtual 138, 3) := by decide +kernel
theorem dX6_tie_36 : decode cX6_tie 36 = .ok (.bipush 6, 2) := by decide +kernel
theorem dX6_tie_38 : decode cX6_tie 38 = .ok (.if_icmp .lt 13, 3) := by decide +kernel
theorem dX6_tie_41 : decode cX6_tie 41 = .ok (.new 87, 3) := by decide +kernel
theorem dX6_tie_44 : decode cX6_tie 44 = .ok (.dup, 1) := by decide +kernel
theorem dX6_tie_45 : decode cX6_tie 45 = .ok (.ldc 141, 2) := by decide +kernel
theorem dX6_tie_47 : decode cX6_tie 47 = .ok (.invokespecial 91, 3) := by decide +kernel
theorem dX6_tie_50 : decode cX6_tie 50 = .ok (.athrow, 1) := by decide +kernel
theorem dX6_tie_51 : decode cX6_tie 51 = .ok (.aload_n 0, 1) := by decide +kernel
theorem dX6_tie_52 : decode cX6_tie 52 = .ok (.getfield 19, 3) := by decide +kernel
theorem dX6_tie_55 : decode cX6_tie 55 = .ok (.getfield 110, 3) := by decide +kernel
theorem dX6_tie_58 : decode cX6_tie 58 = .ok (.iload_n 1, 1) := by decide +kernel
theorem dX6_tie_59 : decode cX6_tie 59 = .ok (.iload_n 2, 1) := by decide +kernel
theorem dX6_tie_60 : decode cX6_tie 60 = .ok (.invokevirtual 143, 3) := by decide +kernel
theorem dX6_tie_63 : decode cX6_tie 63 = .ok (.aload_n 0, 1) := by decide +kernel
theorem dX6_tie_64 : decode cX6_tie 64 = .ok (.getfield 19, 3) := by decide +kernel
theorem dX6_tie_67 : decode cX6_tie 67 = .ok (.getfield 110, 3) := by decide +kernel
theorem dX6_tie_70 : decode cX6_tie 70 = .ok (.iload_n 1, 1) := by decide +kernel
theorem dX6_tie_71 : decode cX6_tie 71 = .ok (.invokevirtual 138, 3) := by decide +kernel
theorem dX6_tie_74 : decode cX6_tie 74 = .ok (.ireturn, 1) := by decide +kernel
theorem dX6_ground_0 : decode cX6_ground 0 = .ok (.iload_n 1, 1) := by decide +kernel
theorem dX6_ground_1 : decode cX6_ground 1 = .ok (.iload_n 2, 1) := by decide +kernel
theorem dX6_ground_2 : decode cX6_ground 2 = .ok (.invokestatic 26, 3) := by decide +kernel
theorem dX6_ground_5 : decode cX6_ground 5 = .ok (.istore 4, 2) := by decide +kernel
theorem dX6_ground_7 : decode cX6_ground 7 = .ok (.iload_n 3, 1) := by decide +kernel
theorem dX6_ground_8 : decode cX6_ground 8 = .ok (.iconst 4, 1) := by decide +kernel
theorem dX6_ground_9 : decode cX6_ground 9 = .ok (.invokestatic 146, 3) := by decide +kernel
theorem dX6_ground_12 : decode cX6_ground 12 = .ok (.iload_n 3, 1) := by decide +kernel
theorem dX6_ground_13 : decode cX6_ground 13 = .ok (.tableswitch 94 0 3 #[31, 45, 59, 81], 31) := by decide +kernel
theorem dX6_ground_44 : decode cX6_ground 44 = .ok (.aload_n 0, 1) := by decide +kernel
theorem dX6_ground_45 : decode cX6_ground 45 = .ok (.getfield 19, 3) := by decide +kernel
theorem dX6_ground_48 : decode cX6_ground 48 = .ok (.getfield 37, 3) := by decide +kernel
theorem dX6_ground_51 : decode cX6_ground 51 = .ok (.getfield 149, 3) := by decide +kernel
theorem dX6_ground_54 : decode cX6_ground 54 = .ok (.iload 4, 2) := by decide +kernel
theorem dX6_ground_56 : decode cX6_ground 56 = .ok (.iaload, 1) := by decide +kernel
theorem dX6_ground_57 : decode cX6_ground 57 = .ok (.ireturn, 1) := by decide +kernel
theorem dX6_ground_58 : decode cX6_ground 58 = .ok (.aload_n 0, 1) := by decide +kernel
theorem dX6_ground_59 : decode cX6_ground 59 = .ok (.getfield 19, 3) := by decide +kernel
theorem dX6_ground_62 : decode cX6_ground 62 = .ok (.getfield 37, 3) := by decide +kernel
theorem dX6_ground_65 : decode cX6_ground 65 = .ok (.getfield 152, 3) := by decide +kernel
theorem dX6_ground_68 : decode cX6_ground 68 = .ok (.iload 4, 2) := by decide +kernel
theorem dX6_ground_70 : decode cX6_ground 70 = .ok (.iaload, 1) := by decide +kernel
theorem dX6_ground_71 : decode cX6_ground 71 = .ok (.ireturn, 1) := by decide +kernel
theorem dX6_ground_72 : decode cX6_ground 72 = .ok (.aload_n 0, 1) := by decide +kernel
theorem dX6_ground_73 : decode cX6_ground 73 = .ok (.getfield 19, 3) := by decide +kernel
theorem dX6_ground_76 : decode cX6_ground 76 = .ok (.getfield 37, 3) := by decide +kernel
theorem dX6_ground_79 : decode cX6_ground 79 = .ok (.getfield 47, 3) := by decide +kernel
theorem dX6_ground_82 : decode cX6_ground 82 = .ok (.iload 4, 2) := by decide +kernel
theorem dX6_ground_84 : decode cX6_ground 84 = .ok (.baload, 1) := by decide +kernel
theorem dX6_ground_85 : decode cX6_ground 85 = .ok (.ifCond .eq 7, 3) := by decide +kernel
theorem dX6_ground_88 : decode cX6_ground 88 = .ok (.iconst 1, 1) := by decide +kernel
theorem dX6_ground_89 : decode cX6_ground 89 = .ok (.goto 4, 3) := by decide +kernel
theorem dX6_ground_92 : decode cX6_ground 92 = .ok (.iconst 0, 1) := by decide +kernel
theorem dX6_ground_93 : decode cX6_ground 93 = .ok (.ireturn, 1) := by decide +kernel
theorem dX6_ground_94 : decode cX6_ground 94 = .ok (.aload_n 0, 1) := by decide +kernel
theorem dX6_ground_95 : decode cX6_ground 95 = .ok (.getfield 19, 3) := by decide +kernel
theorem dX6_ground_98 : decode cX6_ground 98 = .ok (.getfield 78, 3) := by decide +kernel
theorem dX6_ground_101 : decode cX6_ground 101 = .ok (.iload 4, 2) := by decide +kernel
theorem dX6_ground_103 : decode cX6_ground 103 = .ok (.invokevirtual 155, 3) := by decide +kernel
theorem dX6_ground_106 : decode cX6_ground 106 = .ok (.ireturn, 1) := by decide +kernel
theorem dX6_ground_107 : decode cX6_ground 107 = .ok (.aload_n 0, 1) := by decide +kernel
theorem dX6_ground_108 : decode cX6_ground 108 = .ok (.getfield 19, 3) := by decide +kernel
theorem dX6_ground_111 : decode cX6_ground 111 = .ok (.getfield 110, 3) := by decide +kernel
theorem dX6_ground_114 : decode cX6_ground 114 = .ok (.iload 4, 2) := by decide +kernel
theorem dX6_ground_116 : decode cX6_ground 116 = .ok (.invokevirtual 158, 3) := by decide +kernel
theorem dX6_ground_119 : decode cX6_ground 119 = .ok (.ireturn, 1) := by decide +kernel
theorem dX6_peg_0 : decode cX6_peg 0 = .ok (.aload_n 0, 1) := by decide +kernel
theorem dX6_peg_1 : decode cX6_peg 1 = .ok (.iload_n 1, 1) := by decide +kernel
theorem dX6_peg_2 : decode cX6_peg 2 = .ok (.invokevirtual 92, 3) := by decide +kernel
theorem dX6_peg_5 : decode cX6_peg 5 = .ok (.iload_n 2, 1) := by decide +kernel
theorem dX6_peg_6 : decode cX6_peg 6 = .ok (.iconst 4, 1) := by decide +kernel
theorem dX6_peg_7 : decode cX6_peg 7 = .ok (.invokestatic 146, 3) := by decide +kernel
theorem dX6_peg_10 : decode cX6_peg 10 = .ok (.iload_n 2, 1) := by decide +kernel
theorem dX6_peg_11 : decode cX6_peg 11 = .ok (.tableswitch 114 0 3 #[29, 45, 61, 84], 29) := by decide +kernel
theorem dX6_peg_40 : decode cX6_peg 40 = .ok (.aload_n 0, 1) := by decide +kernel
theorem dX6_peg_41 : decode cX6_peg 41 = .ok (.getfield 19, 3) := by decide +kernel
theorem dX6_peg_44 : decode cX6_peg 44 = .ok (.getfield 78, 3) := by decide +kernel
theorem dX6_peg_47 : decode cX6_peg 47 = .ok (.getfield 159, 3) := by decide +kernel
theorem dX6_peg_50 : decode cX6_peg 50 = .ok (.iload_n 1, 1) := by decide +kernel
theorem dX6_peg_51 : decode cX6_peg 51 = .ok (.iaload, 1) := by decide +kernel
theorem dX6_peg_52 : decode cX6_peg 52 = .ok (.bipush 10, 2) := by decide +kernel
theorem dX6_peg_54 : decode cX6_peg 54 = .ok (.irem, 1) := by decide +kernel
theorem dX6_peg_55 : decode cX6_peg 55 = .ok (.ireturn, 1) := by decide +kernel
theorem dX6_peg_56 : decode cX6_peg 56 = .ok (.aload_n 0, 1) := by decide +kernel
theorem dX6_peg_57 : decode cX6_peg 57 = .ok (.getfield 19, 3) := by decide +kernel
theorem dX6_peg_60 : decode cX6_peg 60 = .ok (.getfield 78, 3) := by decide +kernel
theorem dX6_peg_63 : decode cX6_peg 63 = .ok (.getfield 159, 3) := by decide +kernel
theorem dX6_peg_66 : decode cX6_peg 66 = .ok (.iload_n 1, 1) := by decide +kernel
theorem dX6_peg_67 : decode cX6_peg 67 = .ok (.iaload, 1) := by decide +kernel
theorem dX6_peg_68 : decode cX6_peg 68 = .ok (.bipush 10, 2) := by decide +kernel
theorem dX6_peg_70 : decode cX6_peg 70 = .ok (.idiv, 1) := by decide +kernel
theorem dX6_peg_71 : decode cX6_peg 71 = .ok (.ireturn, 1) := by decide +kernel
theorem dX6_peg_72 : decode cX6_peg 72 = .ok (.aload_n 0, 1) := by decide +kernel
theorem dX6_peg_73 : decode cX6_peg 73 = .ok (.getfield 19, 3) := by decide +kernel
theorem dX6_peg_76 : decode cX6_peg 76 = .ok (.getfield 78, 3) := by decide +kernel
theorem dX6_peg_79 : decode cX6_peg 79 = .ok (.getfield 95, 3) := by decide +kernel
theorem dX6_peg_82 : decode cX6_peg 82 = .ok (.iload_n 1, 1) := by decide +kernel
theorem dX6_peg_83 : decode cX6_peg 83 = .ok (.invokestatic 99, 3) := by decide +kernel
theorem dX6_peg_86 : decode cX6_peg 86 = .ok (.ifCond .eq 7, 3) := by decide +kernel
theorem dX6_peg_89 : decode cX6_peg 89 = .ok (.iconst 1, 1) := by decide +kernel
theorem dX6_peg_90 : decode cX6_peg 90 = .ok (.goto 4, 3) := by decide +kernel
theorem dX6_peg_93 : decode cX6_peg 93 = .ok (.iconst 0, 1) := by decide +kernel
theorem dX6_peg_94 : decode cX6_peg 94 = .ok (.ireturn, 1) := by decide +kernel
theorem dX6_peg_95 : decode cX6_peg 95 = .ok (.aload_n 0, 1) := by decide +kernel
theorem dX6_peg_96 : decode cX6_peg 96 = .ok (.getfield 19, 3) := by decide +kernel
theorem dX6_peg_99 : decode cX6_peg 99 = .ok (.getfield 78, 3) := by decide +kernel
theorem dX6_peg_102 : decode cX6_peg 102 = .ok (.getfield 95, 3) := by decide +kernel
theorem dX6_peg_105 : decode cX6_peg 105 = .ok (.iload_n 1, 1) := by decide +kernel
theorem dX6_peg_106 : decode cX6_peg 106 = .ok (.invokestatic 99, 3) := by decide +kernel
theorem dX6_peg_109 : decode cX6_peg 109 = .ok (.ifCond .eq 14, 3) := by decide +kernel
theorem dX6_peg_112 : decode cX6_peg 112 = .ok (.aload_n 0, 1) := by decide +kernel
theorem dX6_peg_113 : decode cX6_peg 113 = .ok (.getfield 19, 3) := by decide +kernel
theorem dX6_peg_116 : decode cX6_peg 116 = .ok (.iload_n 1, 1) := by decide +kernel
theorem dX6_peg_117 : decode cX6_peg 117 = .ok (.invokevirtual 105, 3) := by decide +kernel
theorem dX6_peg_120 : decode cX6_peg 120 = .ok (.goto 4, 3) := by decide +kernel
theorem dX6_peg_123 : decode cX6_peg 123 = .ok (.iconst 0, 1) := by decide +kernel
theorem dX6_peg_124 : decode cX6_peg 124 = .ok (.ireturn, 1) := by decide +kernel
theorem dX6_peg_125 : decode cX6_peg 125 = .ok (.aload_n 0, 1) := by decide +kernel
theorem dX6_peg_126 : decode cX6_peg 126 = .ok (.getfield 19, 3) := by decide +kernel
theorem dX6_peg_129 : decode cX6_peg 129 = .ok (.getfield 110, 3) := by decide +kernel
theorem dX6_peg_132 : decode cX6_peg 132 = .ok (.iload_n 1, 1) := by decide +kernel
theorem dX6_peg_133 : decode cX6_peg 133 = .ok (.invokevirtual 162, 3) := by decide +kernel
theorem dX6_peg_136 : decode cX6_peg 136 = .ok (.ireturn, 1) := by decide +kernel
theorem dX6_tent_0 : decode cX6_tent 0 = .ok (.aload_n 0, 1) := by decide +kernel
theorem dX6_tent_1 : decode cX6_tent 1 = .ok (.iload_n 1, 1) := by decide +kernel
theorem dX6_tent_2 : decode cX6_tent 2 = .ok (.invokevirtual 121, 3) := by decide +kernel
theorem dX6_tent_5 : decode cX6_tent 5 = .ok (.iload_n 2, 1) := by decide +kernel
theorem dX6_tent_6 : decode cX6_tent 6 = .ok (.bipush 6, 2) := by decide +kernel
theorem dX6_tent_8 : decode cX6_tent 8 = .ok (.invokestatic 146, 3) := by decide +kernel
theorem dX6_tent_11 : decode cX6_tent 11 = .ok (.iload_n 2, 1) := by decide +kernel
theorem dX6_tent_12 : decode cX6_tent 12 = .ok (.tableswitch 143 0 5 #[40, 56, 72, 85, 108, 131], 40) := by decide +kernel
theorem dX6_tent_52 : decode cX6_tent 52 = .ok (.aload_n 0, 1) := by decide +kernel
theorem dX6_tent_53 : decode cX6_tent 53 = .ok (.getfield 19, 3) := by decide +kernel
theorem dX6_tent_56 : decode cX6_tent 56 = .ok (.getfield 110, 3) := by decide +kernel
theorem dX6_tent_59 : decode cX6_tent 59 = .ok (.getfield 165, 3) := by decide +kernel
theorem dX6_tent_62 : decode cX6_tent 62 = .ok (.iload_n 1, 1) := by decide +kernel
theorem dX6_tent_63 : decode cX6_tent 63 = .ok (.iaload, 1) := by decide +kernel
theorem dX6_tent_64 : decode cX6_tent 64 = .ok (.bipush 10, 2) := by decide +kernel
theorem dX6_tent_66 : decode cX6_tent 66 = .ok (.irem, 1) := by decide +kernel
theorem dX6_tent_67 : decode cX6_tent 67 = .ok (.ireturn, 1) := by decide +kernel
theorem dX6_tent_68 : decode cX6_tent 68 = .ok (.aload_n 0, 1) := by decide +kernel
theorem dX6_tent_69 : decode cX6_tent 69 = .ok (.getfield 19, 3) := by decide +kernel
theorem dX6_tent_72 : decode cX6_tent 72 = .ok (.getfield 110, 3) := by decide +kernel
theorem dX6_tent_75 : decode cX6_tent 75 = .ok (.getfield 165, 3) := by decide +kernel
theorem dX6_tent_78 : decode cX6_tent 78 = .ok (.iload_n 1, 1) := by decide +kernel
theorem dX6_tent_79 : decode cX6_tent 79 = .ok (.iaload, 1) := by decide +kernel
theorem dX6_tent_80 : decode cX6_tent 80 = .ok (.bipush 10, 2) := by decide +kernel
theorem dX6_tent_82 : decode cX6_tent 82 = .ok (.idiv, 1) := by decide +kernel
theorem dX6_tent_83 : decode cX6_tent 83 = .ok (.ireturn, 1) := by decide +kernel
theorem dX6_tent_84 : decode cX6_tent 84 = .ok (.aload_n 0, 1) := by decide +kernel
theorem dX6_tent_85 : decode cX6_tent 85 = .ok (.getfield 19, 3) := by decide +kernel
theorem dX6_tent_88 : decode cX6_tent 88 = .ok (.getfield 110, 3) := by decide +kernel
theorem dX6_tent_91 : decode cX6_tent 91 = .ok (.getfield 166, 3) := by decide +kernel
theorem dX6_tent_94 : decode cX6_tent 94 = .ok (.iload_n 1, 1) := by decide +kernel
theorem dX6_tent_95 : decode cX6_tent 95 = .ok (.iaload, 1) := by decide +kernel
theorem dX6_tent_96 : decode cX6_tent 96 = .ok (.ireturn, 1) := by decide +kernel
theorem dX6_tent_97 : decode cX6_tent 97 = .ok (.aload_n 0, 1) := by decide +kernel
theorem dX6_tent_98 : decode cX6_tent 98 = .ok (.getfield 19, 3) := by decide +kernel
theorem dX6_tent_101 : decode cX6_tent 101 = .ok (.getfield 110, 3) := by decide +kernel
theorem dX6_tent_104 : decode cX6_tent 104 = .ok (.getfield 124, 3) := by decide +kernel
theorem dX6_tent_107 : decode cX6_tent 107 = .ok (.iload_n 1, 1) := by decide +kernel
theorem dX6_tent_108 : decode cX6_tent 108 = .ok (.invokestatic 99, 3) := by decide +kernel
theorem dX6_tent_111 : decode cX6_tent 111 = .ok (.ifCond .eq 7, 3) := by decide +kernel
theorem dX6_tent_114 : decode cX6_tent 114 = .ok (.iconst 1, 1) := by decide +kernel
theorem dX6_tent_115 : decode cX6_tent 115 = .ok (.goto 4, 3) := by decide +kernel
theorem dX6_tent_118 : decode cX6_tent 118 = .ok (.iconst 0, 1) := by decide +kernel
theorem dX6_tent_119 : decode cX6_tent 119 = .ok (.ireturn, 1) := by decide +kernel
theorem dX6_tent_120 : decode cX6_tent 120 = .ok (.aload_n 0, 1) := by decide +kernel
theorem dX6_tent_121 : decode cX6_tent 121 = .ok (.getfield 19, 3) := by decide +kernel
theorem dX6_tent_124 : decode cX6_tent 124 = .ok (.getfield 110, 3) := by decide +kernel
theorem dX6_tent_127 : decode cX6_tent 127 = .ok (.getfield 129, 3) := by decide +kernel
theorem dX6_tent_130 : decode cX6_tent 130 = .ok (.iload_n 1, 1) := by decide +kernel
theorem dX6_tent_131 : decode cX6_tent 131 = .ok (.invokestatic 99, 3) := by decide +kernel
theorem dX6_tent_134 : decode cX6_tent 134 = .ok (.ifCond .eq 7, 3) := by decide +kernel
theorem dX6_tent_137 : decode cX6_tent 137 = .ok (.iconst 1, 1) := by decide +kernel
theorem dX6_tent_138 : decode cX6_tent 138 = .ok (.goto 4, 3) := by decide +kernel
theorem dX6_tent_141 : decode cX6_tent 141 = .ok (.iconst 0, 1) := by decide +kernel
theorem dX6_tent_142 : decode cX6_tent 142 = .ok (.ireturn, 1) := by decide +kernel
theorem dX6_tent_143 : decode cX6_tent 143 = .ok (.aload_n 0, 1) := by decide +kernel
theorem dX6_tent_144 : decode cX6_tent 144 = .ok (.getfield 19, 3) := by decide +kernel
theorem dX6_tent_147 : decode cX6_tent 147 = .ok (.getfield 110, 3) := by decide +kernel
theorem dX6_tent_150 : decode cX6_tent 150 = .ok (.iload_n 1, 1) := by decide +kernel
theorem dX6_tent_151 : decode cX6_tent 151 = .ok (.invokevirtual 138, 3) := by decide +kernel
theorem dX6_tent_154 : decode cX6_tent 154 = .ok (.ireturn, 1) := by decide +kernel
theorem dX6_tent_155 : decode cX6_tent 155 = .ok (.aload_n 0, 1) := by decide +kernel
theorem dX6_tent_156 : decode cX6_tent 156 = .ok (.getfield 19, 3) := by decide +kernel
theorem dX6_tent_159 : decode cX6_tent 159 = .ok (.iload_n 1, 1) := by decide +kernel
theorem dX6_tent_160 : decode cX6_tent 160 = .ok (.invokevirtual 132, 3) := by decide +kernel
theorem dX6_tent_163 : decode cX6_tent 163 = .ok (.ireturn, 1) := by decide +kernel
theorem dX6_count_0 : decode cX6_count 0 = .ok (.iload_n 1, 1) := by decide +kernel
theorem dX6_count_1 : decode cX6_count 1 = .ok (.bipush 7, 2) := by decide +kernel
theorem dX6_count_3 : decode cX6_count 3 = .ok (.invokestatic 146, 3) := by decide +kernel
theorem dX6_count_6 : decode cX6_count 6 = .ok (.iload_n 1, 1) := by decide +kernel
theorem dX6_count_7 : decode cX6_count 7 = .ok (.tableswitch 121 0 6 #[41, 49, 60, 74, 85, 99, 110], 41) := by decide +kernel
theorem dX6_count_48 : decode cX6_count 48 = .ok (.aload_n 0, 1) := by decide +kernel
theorem dX6_count_49 : decode cX6_count 49 = .ok (.getfield 19, 3) := by decide +kernel
theorem dX6_count_52 : decode cX6_count 52 = .ok (.getfield 169, 3) := by decide +kernel
theorem dX6_count_55 : decode cX6_count 55 = .ok (.ireturn, 1) := by decide +kernel
theorem dX6_count_56 : decode cX6_count 56 = .ok (.aload_n 0, 1) := by decide +kernel
theorem dX6_count_57 : decode cX6_count 57 = .ok (.getfield 19, 3) := by decide +kernel
theorem dX6_count_60 : decode cX6_count 60 = .ok (.getfield 78, 3) := by decide +kernel
theorem dX6_count_63 : decode cX6_count 63 = .ok (.getfield 172, 3) := by decide +kernel
theorem dX6_count_66 : decode cX6_count 66 = .ok (.ireturn, 1) := by decide +kernel
theorem dX6_count_67 : decode cX6_count 67 = .ok (.aload_n 0, 1) := by decide +kernel
theorem dX6_count_68 : decode cX6_count 68 = .ok (.getfield 19, 3) := by decide +kernel
theorem dX6_count_71 : decode cX6_count 71 = .ok (.getfield 78, 3) := by decide +kernel
theorem dX6_count_74 : decode cX6_count 74 = .ok (.getfield 95, 3) := by decide +kernel
theorem dX6_count_77 : decode cX6_count 77 = .ok (.invokestatic 175, 3) := by decide +kernel
theorem dX6_count_80 : decode cX6_count 80 = .ok (.ireturn, 1) := by decide +kernel
theorem dX6_count_81 : decode cX6_count 81 = .ok (.aload_n 0, 1) := by decide +kernel
theorem dX6_count_82 : decode cX6_count 82 = .ok (.getfield 19, 3) := by decide +kernel
theorem dX6_count_85 : decode cX6_count 85 = .ok (.getfield 110, 3) := by decide +kernel
theorem dX6_count_88 : decode cX6_count 88 = .ok (.getfield 180, 3) := by decide +kernel
theorem dX6_count_91 : decode cX6_count 91 = .ok (.ireturn, 1) := by decide +kernel
theorem dX6_count_92 : decode cX6_count 92 = .ok (.aload_n 0, 1) := by decide +kernel
theorem dX6_count_93 : decode cX6_count 93 = .ok (.getfield 19, 3) := by decide +kernel
theorem dX6_count_96 : decode cX6_count 96 = .ok (.getfield 110, 3) := by decide +kernel
theorem dX6_count_99 : decode cX6_count 99 = .ok (.getfield 124, 3) := by decide +kernel
theorem dX6_count_102 : decode cX6_count 102 = .ok (.invokestatic 175, 3) := by decide +kernel
theorem dX6_count_105 : decode cX6_count 105 = .ok (.ireturn, 1) := by decide +kernel
theorem dX6_count_106 : decode cX6_count 106 = .ok (.aload_n 0, 1) := by decide +kernel
theorem dX6_count_107 : decode cX6_count 107 = .ok (.getfield 19, 3) := by decide +kernel
theorem dX6_count_110 : decode cX6_count 110 = .ok (.getfield 110, 3) := by decide +kernel
theorem dX6_count_113 : decode cX6_count 113 = .ok (.invokevirtual 183, 3) := by decide +kernel
theorem dX6_count_116 : decode cX6_count 116 = .ok (.ireturn, 1) := by decide +kernel
theorem dX6_count_117 : decode cX6_count 117 = .ok (.aload_n 0, 1) := by decide +kernel
theorem dX6_count_118 : decode cX6_count 118 = .ok (.getfield 19, 3) := by decide +kernel
theorem dX6_count_121 : decode cX6_count 121 = .ok (.getfield 110, 3) := by decide +kernel
theorem dX6_count_124 : decode cX6_count 124 = .ok (.invokevirtual 187, 3) := by decide +kernel
theorem dX6_count_127 : decode cX6_count 127 = .ok (.ireturn, 1) := by decide +kernel
theorem dX6_count_128 : decode cX6_count 128 = .ok (.aload_n 0, 1) := by decide +kernel
theorem dX6_count_129 : decode cX6_count 129 = .ok (.getfield 19, 3) := by decide +kernel
theorem dX6_count_132 : decode cX6_count 132 = .ok (.getfield 37, 3) := by decide +kernel
theorem dX6_count_135 : decode cX6_count 135 = .ok (.invokevirtual 190, 3) := by decide +kernel
theorem dX6_count_138 : decode cX6_count 138 = .ok (.ireturn, 1) := by decide +kernel
theorem dX6_holds_0 : decode cX6_holds 0 = .ok (.aload_n 0, 1) := by decide +kernel
theorem dX6_holds_1 : decode cX6_holds 1 = .ok (.iload_n 1, 1) := by decide +kernel
theorem dX6_holds_2 : decode cX6_holds 2 = .ok (.invokevirtual 121, 3) := by decide +kernel
theorem dX6_holds_5 : decode cX6_holds 5 = .ok (.iload_n 2, 1) := by decide +kernel
theorem dX6_holds_6 : decode cX6_holds 6 = .ok (.iload_n 3, 1) := by decide +kernel
theorem dX6_holds_7 : decode cX6_holds 7 = .ok (.invokestatic 56, 3) := by decide +kernel
theorem dX6_holds_10 : decode cX6_holds 10 = .ok (.aload_n 0, 1) := by decide +kernel
theorem dX6_holds_11 : decode cX6_holds 11 = .ok (.getfield 19, 3) := by decide +kernel
theorem dX6_holds_14 : decode cX6_holds 14 = .ok (.iload_n 1, 1) := by decide +kernel
theorem dX6_holds_15 : decode cX6_holds 15 = .ok (.iload_n 3, 1) := by decide +kernel
theorem dX6_holds_16 : decode cX6_holds 16 = .ok (.invokevirtual 193, 3) := by decide +kernel
theorem dX6_holds_19 : decode cX6_holds 19 = .ok (.aload_n 0, 1) := by decide +kernel
theorem dX6_holds_20 : decode cX6_holds 20 = .ok (.getfield 19, 3) := by decide +kernel
theorem dX6_holds_23 : decode cX6_holds 23 = .ok (.getfield 78, 3) := by decide +kernel
theorem dX6_holds_26 : decode cX6_holds 26 = .ok (.getfield 95, 3) := by decide +kernel
theorem dX6_holds_29 : decode cX6_holds 29 = .ok (.iand, 1) := by decide +kernel
theorem dX6_holds_30 : decode cX6_holds 30 = .ok (.invokestatic 175, 3) := by decide +kernel
theorem dX6_holds_33 : decode cX6_holds 33 = .ok (.ireturn, 1) := by decide +kernel
theorem dX6_storm_0 : decode cX6_storm 0 = .ok (.iload_n 1, 1) := by decide +kernel
theorem dX6_storm_1 : decode cX6_storm 1 = .ok (.iload_n 2, 1) := by decide +kernel
theorem dX6_storm_2 : decode cX6_storm 2 = .ok (.invokestatic 56, 3) := by decide +kernel
theorem dX6_storm_5 : decode cX6_storm 5 = .ok (.iload_n 3, 1) := by decide +kernel
theorem dX6_storm_6 : decode cX6_storm 6 = .ok (.iconst 2, 1) := by decide +kernel
theorem dX6_storm_7 : decode cX6_storm 7 = .ok (.invokestatic 146, 3) := by decide +kernel
theorem dX6_storm_10 : decode cX6_storm 10 = .ok (.aload_n 0, 1) := by decide +kernel
theorem dX6_storm_11 : decode cX6_storm 11 = .ok (.getfield 19, 3) := by decide +kernel
theorem dX6_storm_14 : decode cX6_storm 14 = .ok (.getfield 196, 3) := by decide +kernel
theorem dX6_storm_17 : decode cX6_storm 17 = .ok (.astore 4, 2) := by decide +kernel
theorem dX6_storm_19 : decode cX6_storm 19 = .ok (.aload 4, 2) := by decide +kernel
theorem dX6_storm_21 : decode cX6_storm 21 = .ok (.aload_n 0, 1) := by decide +kernel
theorem dX6_storm_22 : decode cX6_storm 22 = .ok (.getfield 19, 3) := by decide +kernel
theorem dX6_storm_25 : decode cX6_storm 25 = .ok (.iload_n 1, 1) := by decide +kernel
theorem dX6_storm_26 : decode cX6_storm 26 = .ok (.iload_n 2, 1) := by decide +kernel
theorem dX6_storm_27 : decode cX6_storm 27 = .ok (.invokevirtual 200, 3) := by decide +kernel
theorem dX6_storm_30 : decode cX6_storm 30 = .ok (.iload_n 3, 1) := by decide +kernel
theorem dX6_storm_31 : decode cX6_storm 31 = .ok (.lookupswitch 43 #[(0, 25), (1, 34)], 25) := by decide +kernel
theorem dX6_storm_56 : decode cX6_storm 56 = .ok (.aload 4, 2) := by decide +kernel
theorem dX6_storm_58 : decode cX6_storm 58 = .ok (.getfield 206, 3) := by decide +kernel
theorem dX6_storm_61 : decode cX6_storm 61 = .ok (.invokestatic 175, 3) := by decide +kernel
theorem dX6_storm_64 : decode cX6_storm 64 = .ok (.ireturn, 1) := by decide +kernel
theorem dX6_storm_65 : decode cX6_storm 65 = .ok (.aload 4, 2) := by decide +kernel
theorem dX6_storm_67 : decode cX6_storm 67 = .ok (.getfield 207, 3) := by decide +kernel
theorem dX6_storm_70 : decode cX6_storm 70 = .ok (.invokestatic 175, 3) := by decide +kernel
theorem dX6_storm_73 : decode cX6_storm 73 = .ok (.ireturn, 1) := by decide +kernel
theorem dX6_storm_74 : decode cX6_storm 74 = .ok (.aload 4, 2) := by decide +kernel
theorem dX6_storm_76 : decode cX6_storm 76 = .ok (.getfield 210, 3) := by decide +kernel
theorem dX6_storm_79 : decode cX6_storm 79 = .ok (.ireturn, 1) := by decide +kernel
theorem dX6_bears_0 : decode cX6_bears 0 = .ok (.iload_n 1, 1) := by decide +kernel
theorem dX6_bears_1 : decode cX6_bears 1 = .ok (.invokestatic 213, 3) := by decide +kernel
theorem dX6_bears_4 : decode cX6_bears 4 = .ok (.aload_n 0, 1) := by decide +kernel
theorem dX6_bears_5 : decode cX6_bears 5 = .ok (.getfield 19, 3) := by decide +kernel
theorem dX6_bears_8 : decode cX6_bears 8 = .ok (.aload_n 0, 1) := by decide +kernel
theorem dX6_bears_9 : decode cX6_bears 9 = .ok (.getfield 19, 3) := by decide +kernel
theorem dX6_bears_12 : decode cX6_bears 12 = .ok (.getfield 110, 3) := by decide +kernel
theorem dX6_bears_15 : decode cX6_bears 15 = .ok (.getfield 124, 3) := by decide +kernel
theorem dX6_bears_18 : decode cX6_bears 18 = .ok (.iload_n 1, 1) := by decide +kernel
theorem dX6_bears_19 : decode cX6_bears 19 = .ok (.invokevirtual 216, 3) := by decide +kernel
theorem dX6_bears_22 : decode cX6_bears 22 = .ok (.ireturn, 1) := by decide +kernel
theorem dX6_flood_0 : decode cX6_flood 0 = .ok (.iload_n 1, 1) := by decide +kernel
theorem dX6_flood_1 : decode cX6_flood 1 = .ok (.invokestatic 60, 3) := by decide +kernel
theorem dX6_flood_4 : decode cX6_flood 4 = .ok (.iload_n 2, 1) := by decide +kernel
theorem dX6_flood_5 : decode cX6_flood 5 = .ok (.iload_n 3, 1) := by decide +kernel
theorem dX6_flood_6 : decode cX6_flood 6 = .ok (.invokestatic 26, 3) := by decide +kernel
theorem dX6_flood_9 : decode cX6_flood 9 = .ok (.istore 4, 2) := by decide +kernel
theorem dX6_flood_11 : decode cX6_flood 11 = .ok (.aload_n 0, 1) := by decide +kernel
theorem dX6_flood_12 : decode cX6_flood 12 = .ok (.getfield 19, 3) := by decide +kernel
theorem dX6_flood_15 : decode cX6_flood 15 = .ok (.getfield 37, 3) := by decide +kernel
theorem dX6_flood_18 : decode cX6_flood 18 = .ok (.iload_n 1, 1) := by decide +kernel
theorem dX6_flood_19 : decode cX6_flood 19 = .ok (.invokevirtual 219, 3) := by decide +kernel
theorem dX6_flood_22 : decode cX6_flood 22 = .ok (.aload_n 0, 1) := by decide +kernel
theorem dX6_flood_23 : decode cX6_flood 23 = .ok (.getfield 19, 3) := by decide +kernel
theorem dX6_flood_26 : decode cX6_flood 26 = .ok (.getfield 37, 3) := by decide +kernel
theorem dX6_flood_29 : decode cX6_flood 29 = .ok (.iload 4, 2) := by decide +kernel
theorem dX6_flood_31 : decode cX6_flood 31 = .ok (.invokevirtual 222, 3) := by decide +kernel
theorem dX6_flood_34 : decode cX6_flood 34 = .ok (.ireturn, 1) := by decide +kernel
theorem dX6_advise_0 : decode cX6_advise 0 = .ok (.aload_n 0, 1) := by decide +kernel
theorem dX6_advise_1 : decode cX6_advise 1 = .ok (.iload_n 1, 1) := by decide +kernel
theorem dX6_advise_2 : decode cX6_advise 2 = .ok (.invokevirtual 121, 3) := by decide +kernel
theorem dX6_advise_5 : decode cX6_advise 5 = .ok (.iload_n 2, 1) := by decide +kernel
theorem dX6_advise_6 : decode cX6_advise 6 = .ok (.invokestatic 213, 3) := by decide +kernel
theorem dX6_advise_9 : decode cX6_advise 9 = .ok (.aload_n 0, 1) := by decide +kernel
theorem dX6_advise_10 : decode cX6_advise 10 = .ok (.getfield 19, 3) := by decide +kernel
theorem dX6_advise_13 : decode cX6_advise 13 = .ok (.getfield 110, 3) := by decide +kernel
theorem dX6_advise_16 : decode cX6_advise 16 = .ok (.getfield 124, 3) := by decide +kernel
theorem dX6_advise_19 : decode cX6_advise 19 = .ok (.iload_n 1, 1) := by decide +kernel
theorem dX6_advise_20 : decode cX6_advise 20 = .ok (.invokestatic 99, 3) := by decide +kernel
theorem dX6_advise_23 : decode cX6_advise 23 = .ok (.ifCond .eq 19, 3) := by decide +kernel
theorem dX6_advise_26 : decode cX6_advise 26 = .ok (.aload_n 0, 1) := by decide +kernel
theorem dX6_advise_27 : decode cX6_advise 27 = .ok (.getfield 19, 3) := by decide +kernel
theorem dX6_advise_30 : decode cX6_advise 30 = .ok (.getfield 110, 3) := by decide +kernel
theorem dX6_advise_33 : decode cX6_advise 33 = .ok (.iload_n 1, 1) := by decide +kernel
theorem dX6_advise_34 : decode cX6_advise 34 = .ok (.invokevirtual 138, 3) := by decide +kernel
theorem dX6_advise_37 : decode cX6_advise 37 = .ok (.bipush 6, 2) := by decide +kernel
theorem dX6_advise_39 : decode cX6_advise 39 = .ok (.if_icmp .lt 5, 3) := by decide +kernel
theorem dX6_advise_42 : decode cX6_advise 42 = .ok (.iconst (-1), 1) := by decide +kernel
theorem dX6_advise_43 : decode cX6_advise 43 = .ok (.ireturn, 1) := by decide +kernel
theorem dX6_advise_44 : decode cX6_advise 44 = .ok (.aload_n 0, 1) := by decide +kernel
theorem dX6_advise_45 : decode cX6_advise 45 = .ok (.getfield 19, 3) := by decide +kernel
theorem dX6_advise_48 : decode cX6_advise 48 = .ok (.iload_n 1, 1) := by decide +kernel
theorem dX6_advise_49 : decode cX6_advise 49 = .ok (.iload_n 2, 1) := by decide +kernel
theorem dX6_advise_50 : decode cX6_advise 50 = .ok (.invokevirtual 225, 3) := by decide +kernel
theorem dX6_advise_53 : decode cX6_advise 53 = .ok (.ireturn, 1) := by decide +kernel
theorem dX6_pass_0 : decode cX6_pass 0 = .ok (.iload_n 1, 1) := by decide +kernel
theorem dX6_pass_1 : decode cX6_pass 1 = .ok (.invokestatic 228, 3) := by decide +kernel
theorem dX6_pass_4 : decode cX6_pass 4 = .ok (.aload_n 0, 1) := by decide +kernel
theorem dX6_pass_5 : decode cX6_pass 5 = .ok (.getfield 19, 3) := by decide +kernel
theorem dX6_pass_8 : decode cX6_pass 8 = .ok (.getfield 110, 3) := by decide +kernel
theorem dX6_pass_11 : decode cX6_pass 11 = .ok (.getfield 124, 3) := by decide +kernel
theorem dX6_pass_14 : decode cX6_pass 14 = .ok (.invokestatic 175, 3) := by decide +kernel
theorem dX6_pass_17 : decode cX6_pass 17 = .ok (.istore_n 2, 1) := by decide +kernel
theorem dX6_pass_18 : decode cX6_pass 18 = .ok (.aload_n 0, 1) := by decide +kernel
theorem dX6_pass_19 : decode cX6_pass 19 = .ok (.getfield 19, 3) := by decide +kernel
theorem dX6_pass_22 : decode cX6_pass 22 = .ok (.iload_n 1, 1) := by decide +kernel
theorem dX6_pass_23 : decode cX6_pass 23 = .ok (.aload_n 0, 1) := by decide +kernel
theorem dX6_pass_24 : decode cX6_pass 24 = .ok (.getfield 12, 3) := by decide +kernel
theorem dX6_pass_27 : decode cX6_pass 27 = .ok (.invokevirtual 231, 3) := by decide +kernel
theorem dX6_pass_30 : decode cX6_pass 30 = .ok (.iload_n 2, 1) := by decide +kernel
theorem dX6_pass_31 : decode cX6_pass 31 = .ok (.aload_n 0, 1) := by decide +kernel
theorem dX6_pass_32 : decode cX6_pass 32 = .ok (.getfield 19, 3) := by decide +kernel
theorem dX6_pass_35 : decode cX6_pass 35 = .ok (.getfield 110, 3) := by decide +kernel
theorem dX6_pass_38 : decode cX6_pass 38 = .ok (.getfield 124, 3) := by decide +kernel
theorem dX6_pass_41 : decode cX6_pass 41 = .ok (.invokestatic 175, 3) := by decide +kernel
theorem dX6_pass_44 : decode cX6_pass 44 = .ok (.isub, 1) := by decide +kernel
theorem dX6_pass_45 : decode cX6_pass 45 = .ok (.ireturn, 1) := by decide +kernel
theorem dX6_foresee_0 : decode cX6_foresee 0 = .ok (.iload_n 1, 1) := by decide +kernel
theorem dX6_foresee_1 : decode cX6_foresee 1 = .ok (.invokestatic 228, 3) := by decide +kernel
theorem dX6_foresee_4 : decode cX6_foresee 4 = .ok (.iload_n 2, 1) := by decide +kernel
theorem dX6_foresee_5 : decode cX6_foresee 5 = .ok (.iconst 2, 1) := by decide +kernel
theorem dX6_foresee_6 : decode cX6_foresee 6 = .ok (.invokestatic 146, 3) := by decide +kernel
theorem dX6_foresee_9 : decode cX6_foresee 9 = .ok (.aload_n 0, 1) := by decide +kernel
theorem dX6_foresee_10 : decode cX6_foresee 10 = .ok (.getfield 23, 3) := by decide +kernel
theorem dX6_foresee_13 : decode cX6_foresee 13 = .ok (.aload_n 0, 1) := by decide +kernel
theorem dX6_foresee_14 : decode cX6_foresee 14 = .ok (.getfield 19, 3) := by decide +kernel
theorem dX6_foresee_17 : decode cX6_foresee 17 = .ok (.invokevirtual 235, 3) := by decide +kernel
theorem dX6_foresee_20 : decode cX6_foresee 20 = .ok (.aload_n 0, 1) := by decide +kernel
theorem dX6_foresee_21 : decode cX6_foresee 21 = .ok (.getfield 23, 3) := by decide +kernel
theorem dX6_foresee_24 : decode cX6_foresee 24 = .ok (.iload_n 1, 1) := by decide +kernel
theorem dX6_foresee_25 : decode cX6_foresee 25 = .ok (.aload_n 0, 1) := by decide +kernel
theorem dX6_foresee_26 : decode cX6_foresee 26 = .ok (.getfield 12, 3) := by decide +kernel
theorem dX6_foresee_29 : decode cX6_foresee 29 = .ok (.invokevirtual 231, 3) := by decide +kernel
theorem dX6_foresee_32 : decode cX6_foresee 32 = .ok (.iload_n 2, 1) := by decide +kernel
theorem dX6_foresee_33 : decode cX6_foresee 33 = .ok (.lookupswitch 52 #[(0, 27), (1, 41)], 27) := by decide +kernel
theorem dX6_foresee_60 : decode cX6_foresee 60 = .ok (.aload_n 0, 1) := by decide +kernel
theorem dX6_foresee_61 : decode cX6_foresee 61 = .ok (.getfield 23, 3) := by decide +kernel
theorem dX6_foresee_64 : decode cX6_foresee 64 = .ok (.getfield 110, 3) := by decide +kernel
theorem dX6_foresee_67 : decode cX6_foresee 67 = .ok (.getfield 124, 3) := by decide +kernel
theorem dX6_foresee_70 : decode cX6_foresee 70 = .ok (.invokestatic 175, 3) := by decide +kernel
theorem dX6_foresee_73 : decode cX6_foresee 73 = .ok (.ireturn, 1) := by decide +kernel
theorem dX6_foresee_74 : decode cX6_foresee 74 = .ok (.aload_n 0, 1) := by decide +kernel
theorem dX6_foresee_75 : decode cX6_foresee 75 = .ok (.getfield 23, 3) := by decide +kernel
theorem dX6_foresee_78 : decode cX6_foresee 78 = .ok (.getfield 110, 3) := by decide +kernel
theorem dX6_foresee_81 : decode cX6_foresee 81 = .ok (.invokevirtual 183, 3) := by decide +kernel
theorem dX6_foresee_84 : decode cX6_foresee 84 = .ok (.ireturn, 1) := by decide +kernel
theorem dX6_foresee_85 : decode cX6_foresee 85 = .ok (.aload_n 0, 1) := by decide +kernel
theorem dX6_foresee_86 : decode cX6_foresee 86 = .ok (.getfield 23, 3) := by decide +kernel
theorem dX6_foresee_89 : decode cX6_foresee 89 = .ok (.getfield 78, 3) := by decide +kernel
theorem dX6_foresee_92 : decode cX6_foresee 92 = .ok (.getfield 95, 3) := by decide +kernel
theorem dX6_foresee_95 : decode cX6_foresee 95 = .ok (.invokestatic 175, 3) := by decide +kernel
theorem dX6_foresee_98 : decode cX6_foresee 98 = .ok (.ireturn, 1) := by decide +kernel
theorem dX6_mean_0 : decode cX6_mean 0 = .ok (.iconst 0, 1) := by decide +kernel
theorem dX6_mean_1 : decode cX6_mean 1 = .ok (.istore_n 1, 1) := by decide +kernel
theorem dX6_mean_2 : decode cX6_mean 2 = .ok (.iconst 0, 1) := by decide +kernel
theorem dX6_mean_3 : decode cX6_mean 3 = .ok (.istore_n 2, 1) := by decide +kernel
theorem dX6_mean_4 : decode cX6_mean 4 = .ok (.iload_n 2, 1) := by decide +kernel
theorem dX6_mean_5 : decode cX6_mean 5 = .ok (.bipush 100, 2) := by decide +kernel
theorem dX6_mean_7 : decode cX6_mean 7 = .ok (.if_icmp .ge 24, 3) := by decide +kernel
theorem dX6_mean_10 : decode cX6_mean 10 = .ok (.iload_n 1, 1) := by decide +kernel
theorem dX6_mean_11 : decode cX6_mean 11 = .ok (.aload_n 0, 1) := by decide +kernel
theorem dX6_mean_12 : decode cX6_mean 12 = .ok (.getfield 19, 3) := by decide +kernel
theorem dX6_mean_15 : decode cX6_mean 15 = .ok (.getfield 37, 3) := by decide +kernel
theorem dX6_mean_18 : decode cX6_mean 18 = .ok (.getfield 152, 3) := by decide +kernel
theorem dX6_mean_21 : decode cX6_mean 21 = .ok (.iload_n 2, 1) := by decide +kernel
theorem dX6_mean_22 : decode cX6_mean 22 = .ok (.iaload, 1) := by decide +kernel
theorem dX6_mean_23 : decode cX6_mean 23 = .ok (.iadd, 1) := by decide +kernel
theorem dX6_mean_24 : decode cX6_mean 24 = .ok (.istore_n 1, 1) := by decide +kernel
theorem dX6_mean_25 : decode cX6_mean 25 = .ok (.iinc 2 1, 3) := by decide +kernel
theorem dX6_mean_28 : decode cX6_mean 28 = .ok (.goto (-24), 3) := by decide +kernel
theorem dX6_mean_31 : decode cX6_mean 31 = .ok (.iload_n 1, 1) := by decide +kernel
theorem dX6_mean_32 : decode cX6_mean 32 = .ok (.i2d, 1) := by decide +kernel
theorem dX6_mean_33 : decode cX6_mean 33 = .ok (.ldc2_w 239, 3) := by decide +kernel
theorem dX6_mean_36 : decode cX6_mean 36 = .ok (.ddiv, 1) := by decide +kernel
theorem dX6_mean_37 : decode cX6_mean 37 = .ok (.dreturn, 1) := by decide +kernel
theorem dX6_digest_0 : decode cX6_digest 0 = .ok (.ldc2_w 241, 3) := by decide +kernel
theorem dX6_digest_3 : decode cX6_digest 3 = .ok (.lstore_n 1, 1) := by decide +kernel
theorem dX6_digest_4 : decode cX6_digest 4 = .ok (.iconst 0, 1) := by decide +kernel
theorem dX6_digest_5 : decode cX6_digest 5 = .ok (.istore_n 3, 1) := by decide +kernel
theorem dX6_digest_6 : decode cX6_digest 6 = .ok (.iload_n 3, 1) := by decide +kernel
theorem dX6_digest_7 : decode cX6_digest 7 = .ok (.bipush 7, 2) := by decide +kernel
theorem dX6_digest_9 : decode cX6_digest 9 = .ok (.if_icmp .gt 22, 3) := by decide +kernel
theorem dX6_digest_12 : decode cX6_digest 12 = .ok (.lload_n 1, 1) := by decide +kernel
theorem dX6_digest_13 : decode cX6_digest 13 = .ok (.ldc2_w 243, 3) := by decide +kernel
theorem dX6_digest_16 : decode cX6_digest 16 = .ok (.lmul, 1) := by decide +kernel
theorem dX6_digest_17 : decode cX6_digest 17 = .ok (.aload_n 0, 1) := by decide +kernel
theorem dX6_digest_18 : decode cX6_digest 18 = .ok (.iload_n 3, 1) := by decide +kernel
theorem dX6_digest_19 : decode cX6_digest 19 = .ok (.invokevirtual 245, 3) := by decide +kernel
theorem dX6_digest_22 : decode cX6_digest 22 = .ok (.i2l, 1) := by decide +kernel
theorem dX6_digest_23 : decode cX6_digest 23 = .ok (.ladd, 1) := by decide +kernel
theorem dX6_digest_24 : decode cX6_digest 24 = .ok (.lstore_n 1, 1) := by decide +kernel
theorem dX6_digest_25 : decode cX6_digest 25 = .ok (.iinc 3 1, 3) := by decide +kernel
theorem dX6_digest_28 : decode cX6_digest 28 = .ok (.goto (-22), 3) := by decide +kernel
theorem dX6_digest_31 : decode cX6_digest 31 = .ok (.aload_n 0, 1) := by decide +kernel
theorem dX6_digest_32 : decode cX6_digest 32 = .ok (.lload_n 1, 1) := by decide +kernel
theorem dX6_digest_33 : decode cX6_digest 33 = .ok (.invokevirtual 248, 3) := by decide +kernel
theorem dX6_digest_36 : decode cX6_digest 36 = .ok (.lstore_n 1, 1) := by decide +kernel
theorem dX6_digest_37 : decode cX6_digest 37 = .ok (.iconst 0, 1) := by decide +kernel
theorem dX6_digest_38 : decode cX6_digest 38 = .ok (.istore_n 3, 1) := by decide +kernel
theorem dX6_digest_39 : decode cX6_digest 39 = .ok (.iload_n 3, 1) := by decide +kernel
theorem dX6_digest_40 : decode cX6_digest 40 = .ok (.bipush 7, 2) := by decide +kernel
theorem dX6_digest_42 : decode cX6_digest 42 = .ok (.if_icmp .ge 25, 3) := by decide +kernel
theorem dX6_digest_45 : decode cX6_digest 45 = .ok (.lload_n 1, 1) := by decide +kernel
theorem dX6_digest_46 : decode cX6_digest 46 = .ok (.ldc2_w 243, 3) := by decide +kernel
theorem dX6_digest_49 : decode cX6_digest 49 = .ok (.lmul, 1) := by decide +kernel
theorem dX6_digest_50 : decode cX6_digest 50 = .ok (.aload_n 0, 1) := by decide +kernel
theorem dX6_digest_51 : decode cX6_digest 51 = .ok (.getfield 12, 3) := by decide +kernel
theorem dX6_digest_54 : decode cX6_digest 54 = .ok (.iload_n 3, 1) := by decide +kernel
theorem dX6_digest_55 : decode cX6_digest 55 = .ok (.invokevirtual 64, 3) := by decide +kernel
theorem dX6_digest_58 : decode cX6_digest 58 = .ok (.i2l, 1) := by decide +kernel
theorem dX6_digest_59 : decode cX6_digest 59 = .ok (.ladd, 1) := by decide +kernel
theorem dX6_digest_60 : decode cX6_digest 60 = .ok (.lstore_n 1, 1) := by decide +kernel
theorem dX6_digest_61 : decode cX6_digest 61 = .ok (.iinc 3 1, 3) := by decide +kernel
theorem dX6_digest_64 : decode cX6_digest 64 = .ok (.goto (-25), 3) := by decide +kernel
theorem dX6_digest_67 : decode cX6_digest 67 = .ok (.aload_n 0, 1) := by decide +kernel
theorem dX6_digest_68 : decode cX6_digest 68 = .ok (.lload_n 1, 1) := by decide +kernel
theorem dX6_digest_69 : decode cX6_digest 69 = .ok (.invokevirtual 252, 3) := by decide +kernel
theorem dX6_digest_72 : decode cX6_digest 72 = .ok (.lstore_n 1, 1) := by decide +kernel
theorem dX6_digest_73 : decode cX6_digest 73 = .ok (.aload_n 0, 1) := by decide +kernel
theorem dX6_digest_74 : decode cX6_digest 74 = .ok (.lload_n 1, 1) := by decide +kernel
theorem dX6_digest_75 : decode cX6_digest 75 = .ok (.invokevirtual 255, 3) := by decide +kernel
theorem dX6_digest_78 : decode cX6_digest 78 = .ok (.lreturn, 1) := by decide +kernel
theorem dX6_addGround_0 : decode cX6_addGround 0 = .ok (.lload_n 1, 1) := by decide +kernel
theorem dX6_addGround_1 : decode cX6_addGround 1 = .ok (.lstore_n 3, 1) := by decide +kernel
theorem dX6_addGround_2 : decode cX6_addGround 2 = .ok (.iconst 0, 1) := by decide +kernel
theorem dX6_addGround_3 : decode cX6_addGround 3 = .ok (.istore 5, 2) := by decide +kernel
theorem dX6_addGround_5 : decode cX6_addGround 5 = .ok (.iload 5, 2) := by decide +kernel
theorem dX6_addGround_7 : decode cX6_addGround 7 = .ok (.bipush 100, 2) := by decide +kernel
theorem dX6_addGround_9 : decode cX6_addGround 9 = .ok (.if_icmp .ge 48, 3) := by decide +kernel
theorem dX6_addGround_12 : decode cX6_addGround 12 = .ok (.iconst 0, 1) := by decide +kernel
theorem dX6_addGround_13 : decode cX6_addGround 13 = .ok (.istore 6, 2) := by decide +kernel
theorem dX6_addGround_15 : decode cX6_addGround 15 = .ok (.iload 6, 2) := by decide +kernel
theorem dX6_addGround_17 : decode cX6_addGround 17 = .ok (.iconst 4, 1) := by decide +kernel
theorem dX6_addGround_18 : decode cX6_addGround 18 = .ok (.if_icmp .gt 33, 3) := by decide +kernel
theorem dX6_addGround_21 : decode cX6_addGround 21 = .ok (.lload_n 3, 1) := by decide +kernel
theorem dX6_addGround_22 : decode cX6_addGround 22 = .ok (.ldc2_w 243, 3) := by decide +kernel
theorem dX6_addGround_25 : decode cX6_addGround 25 = .ok (.lmul, 1) := by decide +kernel
theorem dX6_addGround_26 : decode cX6_addGround 26 = .ok (.aload_n 0, 1) := by decide +kernel
theorem dX6_addGround_27 : decode cX6_addGround 27 = .ok (.iload 5, 2) := by decide +kernel
theorem dX6_addGround_29 : decode cX6_addGround 29 = .ok (.bipush 10, 2) := by decide +kernel
theorem dX6_addGround_31 : decode cX6_addGround 31 = .ok (.irem, 1) := by decide +kernel
theorem dX6_addGround_32 : decode cX6_addGround 32 = .ok (.iload 5, 2) := by decide +kernel
theorem dX6_addGround_34 : decode cX6_addGround 34 = .ok (.bipush 10, 2) := by decide +kernel
theorem dX6_addGround_36 : decode cX6_addGround 36 = .ok (.idiv, 1) := by decide +kernel
theorem dX6_addGround_37 : decode cX6_addGround 37 = .ok (.iload 6, 2) := by decide +kernel
theorem dX6_addGround_39 : decode cX6_addGround 39 = .ok (.invokevirtual 258, 3) := by decide +kernel
theorem dX6_addGround_42 : decode cX6_addGround 42 = .ok (.i2l, 1) := by decide +kernel
theorem dX6_addGround_43 : decode cX6_addGround 43 = .ok (.ladd, 1) := by decide +kernel
theorem dX6_addGround_44 : decode cX6_addGround 44 = .ok (.lstore_n 3, 1) := by decide +kernel
theorem dX6_addGround_45 : decode cX6_addGround 45 = .ok (.iinc 6 1, 3) := by decide +kernel
theorem dX6_addGround_48 : decode cX6_addGround 48 = .ok (.goto (-33), 3) := by decide +kernel
theorem dX6_addGround_51 : decode cX6_addGround 51 = .ok (.iinc 5 1, 3) := by decide +kernel
theorem dX6_addGround_54 : decode cX6_addGround 54 = .ok (.goto (-49), 3) := by decide +kernel
theorem dX6_addGround_57 : decode cX6_addGround 57 = .ok (.lload_n 3, 1) := by decide +kernel
theorem dX6_addGround_58 : decode cX6_addGround 58 = .ok (.lreturn, 1) := by decide +kernel
theorem dX6_addPegs_0 : decode cX6_addPegs 0 = .ok (.lload_n 1, 1) := by decide +kernel
theorem dX6_addPegs_1 : decode cX6_addPegs 1 = .ok (.lstore_n 3, 1) := by decide +kernel
theorem dX6_addPegs_2 : decode cX6_addPegs 2 = .ok (.iconst 0, 1) := by decide +kernel
theorem dX6_addPegs_3 : decode cX6_addPegs 3 = .ok (.istore 5, 2) := by decide +kernel
theorem dX6_addPegs_5 : decode cX6_addPegs 5 = .ok (.iload 5, 2) := by decide +kernel
theorem dX6_addPegs_7 : decode cX6_addPegs 7 = .ok (.aload_n 0, 1) := by decide +kernel
theorem dX6_addPegs_8 : decode cX6_addPegs 8 = .ok (.getfield 19, 3) := by decide +kernel
theorem dX6_addPegs_11 : decode cX6_addPegs 11 = .ok (.getfield 78, 3) := by decide +kernel
theorem dX6_addPegs_14 : decode cX6_addPegs 14 = .ok (.getfield 172, 3) := by decide +kernel
theorem dX6_addPegs_17 : decode cX6_addPegs 17 = .ok (.if_icmp .ge 40, 3) := by decide +kernel
theorem dX6_addPegs_20 : decode cX6_addPegs 20 = .ok (.iconst 0, 1) := by decide +kernel
theorem dX6_addPegs_21 : decode cX6_addPegs 21 = .ok (.istore 6, 2) := by decide +kernel
theorem dX6_addPegs_23 : decode cX6_addPegs 23 = .ok (.iload 6, 2) := by decide +kernel
theorem dX6_addPegs_25 : decode cX6_addPegs 25 = .ok (.iconst 4, 1) := by decide +kernel
theorem dX6_addPegs_26 : decode cX6_addPegs 26 = .ok (.if_icmp .gt 25, 3) := by decide +kernel
theorem dX6_addPegs_29 : decode cX6_addPegs 29 = .ok (.lload_n 3, 1) := by decide +kernel
theorem dX6_addPegs_30 : decode cX6_addPegs 30 = .ok (.ldc2_w 243, 3) := by decide +kernel
theorem dX6_addPegs_33 : decode cX6_addPegs 33 = .ok (.lmul, 1) := by decide +kernel
theorem dX6_addPegs_34 : decode cX6_addPegs 34 = .ok (.aload_n 0, 1) := by decide +kernel
theorem dX6_addPegs_35 : decode cX6_addPegs 35 = .ok (.iload 5, 2) := by decide +kernel
theorem dX6_addPegs_37 : decode cX6_addPegs 37 = .ok (.iload 6, 2) := by decide +kernel
theorem dX6_addPegs_39 : decode cX6_addPegs 39 = .ok (.invokevirtual 261, 3) := by decide +kernel
theorem dX6_addPegs_42 : decode cX6_addPegs 42 = .ok (.i2l, 1) := by decide +kernel
theorem dX6_addPegs_43 : decode cX6_addPegs 43 = .ok (.ladd, 1) := by decide +kernel
theorem dX6_addPegs_44 : decode cX6_addPegs 44 = .ok (.lstore_n 3, 1) := by decide +kernel
theorem dX6_addPegs_45 : decode cX6_addPegs 45 = .ok (.iinc 6 1, 3) := by decide +kernel
theorem dX6_addPegs_48 : decode cX6_addPegs 48 = .ok (.goto (-25), 3) := by decide +kernel
theorem dX6_addPegs_51 : decode cX6_addPegs 51 = .ok (.iinc 5 1, 3) := by decide +kernel
theorem dX6_addPegs_54 : decode cX6_addPegs 54 = .ok (.goto (-49), 3) := by decide +kernel
theorem dX6_addPegs_57 : decode cX6_addPegs 57 = .ok (.lload_n 3, 1) := by decide +kernel
theorem dX6_addPegs_58 : decode cX6_addPegs 58 = .ok (.lreturn, 1) := by decide +kernel
theorem dX6_addTents_0 : decode cX6_addTents 0 = .ok (.lload_n 1, 1) := by decide +kernel
theorem dX6_addTents_1 : decode cX6_addTents 1 = .ok (.lstore_n 3, 1) := by decide +kernel
theorem dX6_addTents_2 : decode cX6_addTents 2 = .ok (.iconst 0, 1) := by decide +kernel
theorem dX6_addTents_3 : decode cX6_addTents 3 = .ok (.istore 5, 2) := by decide +kernel
theorem dX6_addTents_5 : decode cX6_addTents 5 = .ok (.iload 5, 2) := by decide +kernel
theorem dX6_addTents_7 : decode cX6_addTents 7 = .ok (.aload_n 0, 1) := by decide +kernel
theorem dX6_addTents_8 : decode cX6_addTents 8 = .ok (.getfield 19, 3) := by decide +kernel
theorem dX6_addTents_11 : decode cX6_addTents 11 = .ok (.getfield 110, 3) := by decide +kernel
theorem dX6_addTents_14 : decode cX6_addTents 14 = .ok (.getfield 180, 3) := by decide +kernel
theorem dX6_addTents_17 : decode cX6_addTents 17 = .ok (.if_icmp .ge 95, 3) := by decide +kernel
theorem dX6_addTents_20 : decode cX6_addTents 20 = .ok (.iconst 0, 1) := by decide +kernel
theorem dX6_addTents_21 : decode cX6_addTents 21 = .ok (.istore 6, 2) := by decide +kernel
theorem dX6_addTents_23 : decode cX6_addTents 23 = .ok (.iload 6, 2) := by decide +kernel
theorem dX6_addTents_25 : decode cX6_addTents 25 = .ok (.bipush 6, 2) := by decide +kernel
theorem dX6_addTents_27 : decode cX6_addTents 27 = .ok (.if_icmp .gt 25, 3) := by decide +kernel
theorem dX6_addTents_30 : decode cX6_addTents 30 = .ok (.lload_n 3, 1) := by decide +kernel
theorem dX6_addTents_31 : decode cX6_addTents 31 = .ok (.ldc2_w 243, 3) := by decide +kernel
theorem dX6_addTents_34 : decode cX6_addTents 34 = .ok (.lmul, 1) := by decide +kernel
theorem dX6_addTents_35 : decode cX6_addTents 35 = .ok (.aload_n 0, 1) := by decide +kernel
theorem dX6_addTents_36 : decode cX6_addTents 36 = .ok (.iload 5, 2) := by decide +kernel
theorem dX6_addTents_38 : decode cX6_addTents 38 = .ok (.iload 6, 2) := by decide +kernel
theorem dX6_addTents_40 : decode cX6_addTents 40 = .ok (.invokevirtual 264, 3) := by decide +kernel
theorem dX6_addTents_43 : decode cX6_addTents 43 = .ok (.i2l, 1) := by decide +kernel
theorem dX6_addTents_44 : decode cX6_addTents 44 = .ok (.ladd, 1) := by decide +kernel
theorem dX6_addTents_45 : decode cX6_addTents 45 = .ok (.lstore_n 3, 1) := by decide +kernel
theorem dX6_addTents_46 : decode cX6_addTents 46 = .ok (.iinc 6 1, 3) := by decide +kernel
theorem dX6_addTents_49 : decode cX6_addTents 49 = .ok (.goto (-26), 3) := by decide +kernel
theorem dX6_addTents_52 : decode cX6_addTents 52 = .ok (.iconst 0, 1) := by decide +kernel
theorem dX6_addTents_53 : decode cX6_addTents 53 = .ok (.istore 6, 2) := by decide +kernel
theorem dX6_addTents_55 : decode cX6_addTents 55 = .ok (.iload 6, 2) := by decide +kernel
theorem dX6_addTents_57 : decode cX6_addTents 57 = .ok (.aload_n 0, 1) := by decide +kernel
theorem dX6_addTents_58 : decode cX6_addTents 58 = .ok (.getfield 19, 3) := by decide +kernel
theorem dX6_addTents_61 : decode cX6_addTents 61 = .ok (.getfield 78, 3) := by decide +kernel
theorem dX6_addTents_64 : decode cX6_addTents 64 = .ok (.getfield 172, 3) := by decide +kernel
theorem dX6_addTents_67 : decode cX6_addTents 67 = .ok (.if_icmp .ge 39, 3) := by decide +kernel
theorem dX6_addTents_70 : decode cX6_addTents 70 = .ok (.lload_n 3, 1) := by decide +kernel
theorem dX6_addTents_71 : decode cX6_addTents 71 = .ok (.ldc2_w 243, 3) := by decide +kernel
theorem dX6_addTents_74 : decode cX6_addTents 74 = .ok (.lmul, 1) := by decide +kernel
theorem dX6_addTents_75 : decode cX6_addTents 75 = .ok (.aload_n 0, 1) := by decide +kernel
theorem dX6_addTents_76 : decode cX6_addTents 76 = .ok (.getfield 19, 3) := by decide +kernel
theorem dX6_addTents_79 : decode cX6_addTents 79 = .ok (.getfield 110, 3) := by decide +kernel
theorem dX6_addTents_82 : decode cX6_addTents 82 = .ok (.iload 5, 2) := by decide +kernel
theorem dX6_addTents_84 : decode cX6_addTents 84 = .ok (.iload 6, 2) := by decide +kernel
theorem dX6_addTents_86 : decode cX6_addTents 86 = .ok (.invokevirtual 135, 3) := by decide +kernel
theorem dX6_addTents_89 : decode cX6_addTents 89 = .ok (.ifCond .eq 7, 3) := by decide +kernel
theorem dX6_addTents_92 : decode cX6_addTents 92 = .ok (.iconst 1, 1) := by decide +kernel
theorem dX6_addTents_93 : decode cX6_addTents 93 = .ok (.goto 4, 3) := by decide +kernel
theorem dX6_addTents_96 : decode cX6_addTents 96 = .ok (.iconst 0, 1) := by decide +kernel
theorem dX6_addTents_97 : decode cX6_addTents 97 = .ok (.i2l, 1) := by decide +kernel
theorem dX6_addTents_98 : decode cX6_addTents 98 = .ok (.ladd, 1) := by decide +kernel
theorem dX6_addTents_99 : decode cX6_addTents 99 = .ok (.lstore_n 3, 1) := by decide +kernel
theorem dX6_addTents_100 : decode cX6_addTents 100 = .ok (.iinc 6 1, 3) := by decide +kernel
theorem dX6_addTents_103 : decode cX6_addTents 103 = .ok (.goto (-48), 3) := by decide +kernel
theorem dX6_addTents_106 : decode cX6_addTents 106 = .ok (.iinc 5 1, 3) := by decide +kernel
theorem dX6_addTents_109 : decode cX6_addTents 109 = .ok (.goto (-104), 3) := by decide +kernel
theorem dX6_addTents_112 : decode cX6_addTents 112 = .ok (.lload_n 3, 1) := by decide +kernel
theorem dX6_addTents_113 : decode cX6_addTents 113 = .ok (.lreturn, 1) := by decide +kernel
theorem dX6_needCell_0 : decode cX6_needCell 0 = .ok (.iload_n 0, 1) := by decide +kernel
theorem dX6_needCell_1 : decode cX6_needCell 1 = .ok (.iload_n 1, 1) := by decide +kernel
theorem dX6_needCell_2 : decode cX6_needCell 2 = .ok (.invokestatic 267, 3) := by decide +kernel
theorem dX6_needCell_5 : decode cX6_needCell 5 = .ok (.ifCond .ne 14, 3) := by decide +kernel
theorem dX6_needCell_8 : decode cX6_needCell 8 = .ok (.new 51, 3) := by decide +kernel
theorem dX6_needCell_11 : decode cX6_needCell 11 = .ok (.dup, 1) := by decide +kernel
theorem dX6_needCell_12 : decode cX6_needCell 12 = .ok (.ldc_w 270, 3) := by decide +kernel
theorem dX6_needCell_15 : decode cX6_needCell 15 = .ok (.invokespecial 55, 3) := by decide +kernel
theorem dX6_needCell_18 : decode cX6_needCell 18 = .ok (.athrow, 1) := by decide +kernel
theorem dX6_needCell_19 : decode cX6_needCell 19 = .ok (.bipush 10, 2) := by decide +kernel
theorem dX6_needCell_21 : decode cX6_needCell 21 = .ok (.iload_n 1, 1) := by decide +kernel
theorem dX6_needCell_22 : decode cX6_needCell 22 = .ok (.imul, 1) := by decide +kernel
theorem dX6_needCell_23 : decode cX6_needCell 23 = .ok (.iload_n 0, 1) := by decide +kernel
theorem dX6_needCell_24 : decode cX6_needCell 24 = .ok (.iadd, 1) := by decide +kernel
theorem dX6_needCell_25 : decode cX6_needCell 25 = .ok (.ireturn, 1) := by decide +kernel
theorem dX6_needPeg_0 : decode cX6_needPeg 0 = .ok (.iload_n 1, 1) := by decide +kernel
theorem dX6_needPeg_1 : decode cX6_needPeg 1 = .ok (.ifCond .lt 17, 3) := by decide +kernel
theorem dX6_needPeg_4 : decode cX6_needPeg 4 = .ok (.iload_n 1, 1) := by decide +kernel
theorem dX6_needPeg_5 : decode cX6_needPeg 5 = .ok (.aload_n 0, 1) := by decide +kernel
theorem dX6_needPeg_6 : decode cX6_needPeg 6 = .ok (.getfield 19, 3) := by decide +kernel
theorem dX6_needPeg_9 : decode cX6_needPeg 9 = .ok (.getfield 78, 3) := by decide +kernel
theorem dX6_needPeg_12 : decode cX6_needPeg 12 = .ok (.getfield 172, 3) := by decide +kernel
theorem dX6_needPeg_15 : decode cX6_needPeg 15 = .ok (.if_icmp .lt 14, 3) := by decide +kernel
theorem dX6_needPeg_18 : decode cX6_needPeg 18 = .ok (.new 51, 3) := by decide +kernel
theorem dX6_needPeg_21 : decode cX6_needPeg 21 = .ok (.dup, 1) := by decide +kernel
theorem dX6_needPeg_22 : decode cX6_needPeg 22 = .ok (.ldc_w 272, 3) := by decide +kernel
theorem dX6_needPeg_25 : decode cX6_needPeg 25 = .ok (.invokespecial 55, 3) := by decide +kernel
theorem dX6_needPeg_28 : decode cX6_needPeg 28 = .ok (.athrow, 1) := by decide +kernel
theorem dX6_needPeg_29 : decode cX6_needPeg 29 = .ok (.return_, 1) := by decide +kernel
theorem dX6_needTent_0 : decode cX6_needTent 0 = .ok (.iload_n 1, 1) := by decide +kernel
theorem dX6_needTent_1 : decode cX6_needTent 1 = .ok (.ifCond .lt 17, 3) := by decide +kernel
theorem dX6_needTent_4 : decode cX6_needTent 4 = .ok (.iload_n 1, 1) := by decide +kernel
theorem dX6_needTent_5 : decode cX6_needTent 5 = .ok (.aload_n 0, 1) := by decide +kernel
theorem dX6_needTent_6 : decode cX6_needTent 6 = .ok (.getfield 19, 3) := by decide +kernel
theorem dX6_needTent_9 : decode cX6_needTent 9 = .ok (.getfield 110, 3) := by decide +kernel
theorem dX6_needTent_12 : decode cX6_needTent 12 = .ok (.getfield 180, 3) := by decide +kernel
theorem dX6_needTent_15 : decode cX6_needTent 15 = .ok (.if_icmp .lt 14, 3) := by decide +kernel
theorem dX6_needTent_18 : decode cX6_needTent 18 = .ok (.new 51, 3) := by decide +kernel
theorem dX6_needTent_21 : decode cX6_needTent 21 = .ok (.dup, 1) := by decide +kernel
theorem dX6_needTent_22 : decode cX6_needTent 22 = .ok (.ldc_w 274, 3) := by decide +kernel
theorem dX6_needTent_25 : decode cX6_needTent 25 = .ok (.invokespecial 55, 3) := by decide +kernel
theorem dX6_needTent_28 : decode cX6_needTent 28 = .ok (.athrow, 1) := by decide +kernel
theorem dX6_needTent_29 : decode cX6_needTent 29 = .ok (.return_, 1) := by decide +kernel
theorem dX6_needWhat_0 : decode cX6_needWhat 0 = .ok (.iload_n 0, 1) := by decide +kernel
theorem dX6_needWhat_1 : decode cX6_needWhat 1 = .ok (.ifCond .lt 8, 3) := by decide +kernel
theorem dX6_needWhat_4 : decode cX6_needWhat 4 = .ok (.iload_n 0, 1) := by decide +kernel
theorem dX6_needWhat_5 : decode cX6_needWhat 5 = .ok (.iload_n 1, 1) := by decide +kernel
theorem dX6_needWhat_6 : decode cX6_needWhat 6 = .ok (.if_icmp .le 14, 3) := by decide +kernel
theorem dX6_needWhat_9 : decode cX6_needWhat 9 = .ok (.new 51, 3) := by decide +kernel
theorem dX6_needWhat_12 : decode cX6_needWhat 12 = .ok (.dup, 1) := by decide +kernel
theorem dX6_needWhat_13 : decode cX6_needWhat 13 = .ok (.ldc_w 276, 3) := by decide +kernel
theorem dX6_needWhat_16 : decode cX6_needWhat 16 = .ok (.invokespecial 55, 3) := by decide +kernel
theorem dX6_needWhat_19 : decode cX6_needWhat 19 = .ok (.athrow, 1) := by decide +kernel
theorem dX6_needWhat_20 : decode cX6_needWhat 20 = .ok (.return_, 1) := by decide +kernel
theorem dX6_needStorm_0 : decode cX6_needStorm 0 = .ok (.iload_n 0, 1) := by decide +kernel
theorem dX6_needStorm_1 : decode cX6_needStorm 1 = .ok (.ifCond .lt 9, 3) := by decide +kernel
theorem dX6_needStorm_4 : decode cX6_needStorm 4 = .ok (.iload_n 0, 1) := by decide +kernel
theorem dX6_needStorm_5 : decode cX6_needStorm 5 = .ok (.bipush 9, 2) := by decide +kernel
theorem dX6_needStorm_7 : decode cX6_needStorm 7 = .ok (.if_icmp .le 14, 3) := by decide +kernel
theorem dX6_needStorm_10 : decode cX6_needStorm 10 = .ok (.new 30, 3) := by decide +kernel
theorem dX6_needStorm_13 : decode cX6_needStorm 13 = .ok (.dup, 1) := by decide +kernel
theorem dX6_needStorm_14 : decode cX6_needStorm 14 = .ok (.ldc_w 278, 3) := by decide +kernel
theorem dX6_needStorm_17 : decode cX6_needStorm 17 = .ok (.invokespecial 34, 3) := by decide +kernel
theorem dX6_needStorm_20 : decode cX6_needStorm 20 = .ok (.athrow, 1) := by decide +kernel
theorem dX6_needStorm_21 : decode cX6_needStorm 21 = .ok (.iload_n 1, 1) := by decide +kernel
theorem dX6_needStorm_22 : decode cX6_needStorm 22 = .ok (.invokestatic 213, 3) := by decide +kernel
theorem dX6_needStorm_25 : decode cX6_needStorm 25 = .ok (.return_, 1) := by decide +kernel
theorem dX6_needDirection_0 : decode cX6_needDirection 0 = .ok (.iload_n 0, 1) := by decide +kernel
theorem dX6_needDirection_1 : decode cX6_needDirection 1 = .ok (.ifCond .lt 8, 3) := by decide +kernel
theorem dX6_needDirection_4 : decode cX6_needDirection 4 = .ok (.iload_n 0, 1) := by decide +kernel
theorem dX6_needDirection_5 : decode cX6_needDirection 5 = .ok (.iconst 3, 1) := by decide +kernel
theorem dX6_needDirection_6 : decode cX6_needDirection 6 = .ok (.if_icmp .le 14, 3) := by decide +kernel
theorem dX6_needDirection_9 : decode cX6_needDirection 9 = .ok (.new 30, 3) := by decide +kernel
theorem dX6_needDirection_12 : decode cX6_needDirection 12 = .ok (.dup, 1) := by decide +kernel
theorem dX6_needDirection_13 : decode cX6_needDirection 13 = .ok (.ldc_w 280, 3) := by decide +kernel
theorem dX6_needDirection_16 : decode cX6_needDirection 16 = .ok (.invokespecial 34, 3) := by decide +kernel
theorem dX6_needDirection_19 : decode cX6_needDirection 19 = .ok (.athrow, 1) := by decide +kernel
theorem dX6_needDirection_20 : decode cX6_needDirection 20 = .ok (.return_, 1) := by decide +kernel
theorem dX6_needRain_0 : decode cX6_needRain 0 = .ok (.iload_n 0, 1) := by decide +kernel
theorem dX6_needRain_1 : decode cX6_needRain 1 = .ok (.ifCond .lt 9, 3) := by decide +kernel
theorem dX6_needRain_4 : decode cX6_needRain 4 = .ok (.iload_n 0, 1) := by decide +kernel
theorem dX6_needRain_5 : decode cX6_needRain 5 = .ok (.bipush 9, 2) := by decide +kernel
theorem dX6_needRain_7 : decode cX6_needRain 7 = .ok (.if_icmp .le 14, 3) := by decide +kernel
theorem dX6_needRain_10 : decode cX6_needRain 10 = .ok (.new 30, 3) := by decide +kernel
theorem dX6_needRain_13 : decode cX6_needRain 13 = .ok (.dup, 1) := by decide +kernel
theorem dX6_needRain_14 : decode cX6_needRain 14 = .ok (.ldc_w 282, 3) := by decide +kernel
theorem dX6_needRain_17 : decode cX6_needRain 17 = .ok (.invokespecial 34, 3) := by decide +kernel
theorem dX6_needRain_20 : decode cX6_needRain 20 = .ok (.athrow, 1) := by decide +kernel
theorem dX6_needRain_21 : decode cX6_needRain 21 = .ok (.return_, 1) := by decide +kernel
theorem dX6_needNights_0 : decode cX6_needNights 0 = .ok (.iload_n 0, 1) := by decide +kernel
theorem dX6_needNights_1 : decode cX6_needNights 1 = .ok (.iconst 1, 1) := by decide +kernel
theorem dX6_needNights_2 : decode cX6_needNights 2 = .ok (.if_icmp .lt 9, 3) := by decide +kernel
theorem dX6_needNights_5 : decode cX6_needNights 5 = .ok (.iload_n 0, 1) := by decide +kernel
theorem dX6_needNights_6 : decode cX6_needNights 6 = .ok (.bipush 30, 2) := by decide +kernel
theorem dX6_needNights_8 : decode cX6_needNights 8 = .ok (.if_icmp .le 14, 3) := by decide +kernel
theorem dX6_needNights_11 : decode cX6_needNights 11 = .ok (.new 30, 3) := by decide +kernel
theorem dX6_needNights_14 : decode cX6_needNights 14 = .ok (.dup, 1) := by decide +kernel
theorem dX6_needNights_15 : decode cX6_needNights 15 = .ok (.ldc_w 284, 3) := by decide +kernel
theorem dX6_needNights_18 : decode cX6_needNights 18 = .ok (.invokespecial 34, 3) := by decide +kernel
theorem dX6_needNights_21 : decode cX6_needNights 21 = .ok (.athrow, 1) := by decide +kernel
theorem dX6_needNights_22 : decode cX6_needNights 22 = .ok (.return_, 1) := by decide +kernel
theorem dX6_isOnSlope_0 : decode cX6_isOnSlope 0 = .ok (.iload_n 0, 1) := by decide +kernel
theorem dX6_isOnSlope_1 : decode cX6_isOnSlope 1 = .ok (.ifCond .lt 23, 3) := by decide +kernel
theorem dX6_isOnSlope_4 : decode cX6_isOnSlope 4 = .ok (.iload_n 0, 1) := by decide +kernel
theorem dX6_isOnSlope_5 : decode cX6_isOnSlope 5 = .ok (.bipush 10, 2) := by decide +kernel
theorem dX6_isOnSlope_7 : decode cX6_isOnSlope 7 = .ok (.if_icmp .ge 17, 3) := by decide +kernel
theorem dX6_isOnSlope_10 : decode cX6_isOnSlope 10 = .ok (.iload_n 1, 1) := by decide +kernel
theorem dX6_isOnSlope_11 : decode cX6_isOnSlope 11 = .ok (.ifCond .lt 13, 3) := by decide +kernel
theorem dX6_isOnSlope_14 : decode cX6_isOnSlope 14 = .ok (.iload_n 1, 1) := by decide +kernel
theorem dX6_isOnSlope_15 : decode cX6_isOnSlope 15 = .ok (.bipush 10, 2) := by decide +kernel
theorem dX6_isOnSlope_17 : decode cX6_isOnSlope 17 = .ok (.if_icmp .ge 7, 3) := by decide +kernel
theorem dX6_isOnSlope_20 : decode cX6_isOnSlope 20 = .ok (.iconst 1, 1) := by decide +kernel
theorem dX6_isOnSlope_21 : decode cX6_isOnSlope 21 = .ok (.goto 4, 3) := by decide +kernel
theorem dX6_isOnSlope_24 : decode cX6_isOnSlope 24 = .ok (.iconst 0, 1) := by decide +kernel
theorem dX6_isOnSlope_25 : decode cX6_isOnSlope 25 = .ok (.ireturn, 1) := by decide +kernel
theorem dX6_isCell_0 : decode cX6_isCell 0 = .ok (.iload_n 0, 1) := by decide +kernel
theorem dX6_isCell_1 : decode cX6_isCell 1 = .ok (.ifCond .lt 13, 3) := by decide +kernel
theorem dX6_isCell_4 : decode cX6_isCell 4 = .ok (.iload_n 0, 1) := by decide +kernel
theorem dX6_isCell_5 : decode cX6_isCell 5 = .ok (.bipush 100, 2) := by decide +kernel
theorem dX6_isCell_7 : decode cX6_isCell 7 = .ok (.if_icmp .ge 7, 3) := by decide +kernel
theorem dX6_isCell_10 : decode cX6_isCell 10 = .ok (.iconst 1, 1) := by decide +kernel
theorem dX6_isCell_11 : decode cX6_isCell 11 = .ok (.goto 4, 3) := by decide +kernel
theorem dX6_isCell_14 : decode cX6_isCell 14 = .ok (.iconst 0, 1) := by decide +kernel
theorem dX6_isCell_15 : decode cX6_isCell 15 = .ok (.ireturn, 1) := by decide +kernel
theorem dX6_hasBit_0 : decode cX6_hasBit 0 = .ok (.iload_n 0, 1) := by decide +kernel
theorem dX6_hasBit_1 : decode cX6_hasBit 1 = .ok (.iload_n 1, 1) := by decide +kernel
theorem dX6_hasBit_2 : decode cX6_hasBit 2 = .ok (.ishr, 1) := by decide +kernel
theorem dX6_hasBit_3 : decode cX6_hasBit 3 = .ok (.iconst 1, 1) := by decide +kernel
theorem dX6_hasBit_4 : decode cX6_hasBit 4 = .ok (.iand, 1) := by decide +kernel
theorem dX6_hasBit_5 : decode cX6_hasBit 5 = .ok (.iconst 1, 1) := by decide +kernel
theorem dX6_hasBit_6 : decode cX6_hasBit 6 = .ok (.if_icmp .ne 7, 3) := by decide +kernel
theorem dX6_hasBit_9 : decode cX6_hasBit 9 = .ok (.iconst 1, 1) := by decide +kernel
theorem dX6_hasBit_10 : decode cX6_hasBit 10 = .ok (.goto 4, 3) := by decide +kernel
theorem dX6_hasBit_13 : decode cX6_hasBit 13 = .ok (.iconst 0, 1) := by decide +kernel
theorem dX6_hasBit_14 : decode cX6_hasBit 14 = .ok (.ireturn, 1) := by decide +kernel
-- decode rows of X7
theorem dX7_init_0 : decode cX7_init 0 = .ok (.aload_n 0, 1) := by decide +kernel
theorem dX7_init_1 : decode cX7_init 1 = .ok (.aload_n 1, 1) := by decide +kernel
theorem dX7_init_2 : decode cX7_init 2 = .ok (.putfield 3, 3) := by decide +kernel
theorem dX7_init_5 : decode cX7_init 5 = .ok (.aload_n 0, 1) := by decide +kernel
theorem dX7_init_6 : decode cX7_init 6 = .ok (.invokespecial 9, 3) := by decide +kernel
theorem dX7_init_9 : decode cX7_init 9 = .ok (.aload_n 0, 1) := by decide +kernel
theorem dX7_init_10 : decode cX7_init 10 = .ok (.bipush 100, 2) := by decide +kernel
theorem dX7_init_12 : decode cX7_init 12 = .ok (.newarray .int, 2) := by decide +kernel
theorem dX7_init_14 : decode cX7_init 14 = .ok (.putfield 15, 3) := by decide +kernel
theorem dX7_init_17 : decode cX7_init 17 = .ok (.aload_n 0, 1) := by decide +kernel
theorem dX7_init_18 : decode cX7_init 18 = .ok (.bipush 16, 2) := by decide +kernel
theorem dX7_init_20 : decode cX7_init 20 = .ok (.newarray .int, 2) := by decide +kernel
theorem dX7_init_22 : decode cX7_init 22 = .ok (.putfield 19, 3) := by decide +kernel
theorem dX7_init_25 : decode cX7_init 25 = .ok (.aload_n 0, 1) := by decide +kernel
theorem dX7_init_26 : decode cX7_init 26 = .ok (.bipush 8, 2) := by decide +kernel
theorem dX7_init_28 : decode cX7_init 28 = .ok (.newarray .int, 2) := by decide +kernel
theorem dX7_init_30 : decode cX7_init 30 = .ok (.putfield 22, 3) := by decide +kernel
theorem dX7_init_33 : decode cX7_init 33 = .ok (.aload_n 0, 1) := by decide +kernel
theorem dX7_init_34 : decode cX7_init 34 = .ok (.bipush 8, 2) := by decide +kernel
theorem dX7_init_36 : decode cX7_init 36 = .ok (.newarray .int, 2) := by decide +kernel
theorem dX7_init_38 : decode cX7_init 38 = .ok (.putfield 25, 3) := by decide +kernel
theorem dX7_init_41 : decode cX7_init 41 = .ok (.aload_n 0, 1) := by decide +kernel
theorem dX7_init_42 : decode cX7_init 42 = .ok (.bipush 8, 2) := by decide +kernel
theorem dX7_init_44 : decode cX7_init 44 = .ok (.newarray .int, 2) := by decide +kernel
theorem dX7_init_46 : decode cX7_init 46 = .ok (.putfield 28, 3) := by decide +kernel
theorem dX7_init_49 : decode cX7_init 49 = .ok (.return_, 1) := by decide +kernel
theorem dX7_copy_0 : decode cX7_copy 0 = .ok (.aload_n 1, 1) := by decide +kernel
theorem dX7_copy_1 : decode cX7_copy 1 = .ok (.iconst 0, 1) := by decide +kernel
theorem dX7_copy_2 : decode cX7_copy 2 = .ok (.aload_n 2, 1) := by decide +kernel
theorem dX7_copy_3 : decode cX7_copy 3 = .ok (.iconst 0, 1) := by decide +kernel
theorem dX7_copy_4 : decode cX7_copy 4 = .ok (.aload_n 1, 1) := by decide +kernel
theorem dX7_copy_5 : decode cX7_copy 5 = .ok (.arraylength, 1) := by decide +kernel
theorem dX7_copy_6 : decode cX7_copy 6 = .ok (.invokestatic 31, 3) := by decide +kernel
theorem dX7_copy_9 : decode cX7_copy 9 = .ok (.return_, 1) := by decide +kernel
theorem dX7_become_0 : decode cX7_become 0 = .ok (.aload_n 0, 1) := by decide +kernel
theorem dX7_become_1 : decode cX7_become 1 = .ok (.aload_n 1, 1) := by decide +kernel
theorem dX7_become_2 : decode cX7_become 2 = .ok (.getfield 37, 3) := by decide +kernel
theorem dX7_become_5 : decode cX7_become 5 = .ok (.putfield 37, 3) := by decide +kernel
theorem dX7_become_8 : decode cX7_become 8 = .ok (.aload_n 0, 1) := by decide +kernel
theorem dX7_become_9 : decode cX7_become 9 = .ok (.aload_n 1, 1) := by decide +kernel
theorem dX7_become_10 : decode cX7_become 10 = .ok (.getfield 15, 3) := by decide +kernel
theorem dX7_become_13 : decode cX7_become 13 = .ok (.aload_n 0, 1) := by decide +kernel
theorem dX7_become_14 : decode cX7_become 14 = .ok (.getfield 15, 3) := by decide +kernel
theorem dX7_become_17 : decode cX7_become 17 = .ok (.invokevirtual 41, 3) := by decide +kernel
theorem dX7_become_20 : decode cX7_become 20 = .ok (.aload_n 0, 1) := by decide +kernel
theorem dX7_become_21 : decode cX7_become 21 = .ok (.aload_n 1, 1) := by decide +kernel
theorem dX7_become_22 : decode cX7_become 22 = .ok (.getfield 19, 3) := by decide +kernel
theorem dX7_become_25 : decode cX7_become 25 = .ok (.aload_n 0, 1) := by decide +kernel
theorem dX7_become_26 : decode cX7_become 26 = .ok (.getfield 19, 3) := by decide +kernel
theorem dX7_become_29 : decode cX7_become 29 = .ok (.invokevirtual 41, 3) := by decide +kernel
theorem dX7_become_32 : decode cX7_become 32 = .ok (.aload_n 0, 1) := by decide +kernel
theorem dX7_become_33 : decode cX7_become 33 = .ok (.aload_n 1, 1) := by decide +kernel
theorem dX7_become_34 : decode cX7_become 34 = .ok (.getfield 22, 3) := by decide +kernel
theorem dX7_become_37 : decode cX7_become 37 = .ok (.aload_n 0, 1) := by decide +kernel
theorem dX7_become_38 : decode cX7_become 38 = .ok (.getfield 22, 3) := by decide +kernel
theorem dX7_become_41 : decode cX7_become 41 = .ok (.invokevirtual 41, 3) := by decide +kernel
theorem dX7_become_44 : decode cX7_become 44 = .ok (.aload_n 0, 1) := by decide +kernel
theorem dX7_become_45 : decode cX7_become 45 = .ok (.aload_n 1, 1) := by decide +kernel
theorem dX7_become_46 : decode cX7_become 46 = .ok (.getfield 25, 3) := by decide +kernel
theorem dX7_become_49 : decode cX7_become 49 = .ok (.aload_n 0, 1) := by decide +kernel
theorem dX7_become_50 : decode cX7_become 50 = .ok (.getfield 25, 3) := by decide +kernel
theorem dX7_become_53 : decode cX7_become 53 = .ok (.invokevirtual 41, 3) := by decide +kernel
theorem dX7_become_56 : decode cX7_become 56 = .ok (.aload_n 0, 1) := by decide +kernel
theorem dX7_become_57 : decode cX7_become 57 = .ok (.aload_n 1, 1) := by decide +kernel
theorem dX7_become_58 : decode cX7_become 58 = .ok (.getfield 28, 3) := by decide +kernel
theorem dX7_become_61 : decode cX7_become 61 = .ok (.aload_n 0, 1) := by decide +kernel
theorem dX7_become_62 : decode cX7_become 62 = .ok (.getfield 28, 3) := by decide +kernel
theorem dX7_become_65 : decode cX7_become 65 = .ok (.invokevirtual 41, 3) := by decide +kernel
theorem dX7_become_68 : decode cX7_become 68 = .ok (.return_, 1) := by decide +kernel
theorem dX7_holdsOf_0 : decode cX7_holdsOf 0 = .ok (.aload_n 0, 1) := by decide +kernel
theorem dX7_holdsOf_1 : decode cX7_holdsOf 1 = .ok (.getfield 19, 3) := by decide +kernel
theorem dX7_holdsOf_4 : decode cX7_holdsOf 4 = .ok (.iload_n 1, 1) := by decide +kernel
theorem dX7_holdsOf_5 : decode cX7_holdsOf 5 = .ok (.iaload, 1) := by decide +kernel
theorem dX7_holdsOf_6 : decode cX7_holdsOf 6 = .ok (.iconst 1, 1) := by decide +kernel
theorem dX7_holdsOf_7 : decode cX7_holdsOf 7 = .ok (.if_icmp .ne 22, 3) := by decide +kernel
theorem dX7_holdsOf_10 : decode cX7_holdsOf 10 = .ok (.iconst 4, 1) := by decide +kernel
theorem dX7_holdsOf_11 : decode cX7_holdsOf 11 = .ok (.aload_n 0, 1) := by decide +kernel
theorem dX7_holdsOf_12 : decode cX7_holdsOf 12 = .ok (.getfield 15, 3) := by decide +kernel
theorem dX7_holdsOf_15 : decode cX7_holdsOf 15 = .ok (.aload_n 0, 1) := by decide +kernel
theorem dX7_holdsOf_16 : decode cX7_holdsOf 16 = .ok (.getfield 3, 3) := by decide +kernel
theorem dX7_holdsOf_19 : decode cX7_holdsOf 19 = .ok (.getfield 45, 3) := by decide +kernel
theorem dX7_holdsOf_22 : decode cX7_holdsOf 22 = .ok (.iload_n 1, 1) := by decide +kernel
theorem dX7_holdsOf_23 : decode cX7_holdsOf 23 = .ok (.iaload, 1) := by decide +kernel
theorem dX7_holdsOf_24 : decode cX7_holdsOf 24 = .ok (.iaload, 1) := by decide +kernel
theorem dX7_holdsOf_25 : decode cX7_holdsOf 25 = .ok (.imul, 1) := by decide +kernel
theorem dX7_holdsOf_26 : decode cX7_holdsOf 26 = .ok (.goto 4, 3) := by decide +kernel
theorem dX7_holdsOf_29 : decode cX7_holdsOf 29 = .ok (.iconst 0, 1) := by decide +kernel
theorem dX7_holdsOf_30 : decode cX7_holdsOf 30 = .ok (.ireturn, 1) := by decide +kernel
theorem dX7_isTied_0 : decode cX7_isTied 0 = .ok (.aload_n 0, 1) := by decide +kernel
theorem dX7_isTied_1 : decode cX7_isTied 1 = .ok (.getfield 28, 3) := by decide +kernel
theorem dX7_isTied_4 : decode cX7_isTied 4 = .ok (.iload_n 1, 1) := by decide +kernel
theorem dX7_isTied_5 : decode cX7_isTied 5 = .ok (.iaload, 1) := by decide +kernel
theorem dX7_isTied_6 : decode cX7_isTied 6 = .ok (.iload_n 2, 1) := by decide +kernel
theorem dX7_isTied_7 : decode cX7_isTied 7 = .ok (.ishr, 1) := by decide +kernel
theorem dX7_isTied_8 : decode cX7_isTied 8 = .ok (.iconst 1, 1) := by decide +kernel
theorem dX7_isTied_9 : decode cX7_isTied 9 = .ok (.iand, 1) := by decide +kernel
theorem dX7_isTied_10 : decode cX7_isTied 10 = .ok (.iconst 1, 1) := by decide +kernel
theorem dX7_isTied_11 : decode cX7_isTied 11 = .ok (.if_icmp .ne 7, 3) := by decide +kernel
theorem dX7_isTied_14 : decode cX7_isTied 14 = .ok (.iconst 1, 1) := by decide +kernel
theorem dX7_isTied_15 : decode cX7_isTied 15 = .ok (.goto 4, 3) := by decide +kernel
theorem dX7_isTied_18 : decode cX7_isTied 18 = .ok (.iconst 0, 1) := by decide +kernel
theorem dX7_isTied_19 : decode cX7_isTied 19 = .ok (.ireturn, 1) := by decide +kernel
theorem dX7_isHeld_0 : decode cX7_isHeld 0 = .ok (.aload_n 0, 1) := by decide +kernel
theorem dX7_isHeld_1 : decode cX7_isHeld 1 = .ok (.iload_n 1, 1) := by decide +kernel
theorem dX7_isHeld_2 : decode cX7_isHeld 2 = .ok (.iload_n 2, 1) := by decide +kernel
theorem dX7_isHeld_3 : decode cX7_isHeld 3 = .ok (.invokevirtual 48, 3) := by decide +kernel
theorem dX7_isHeld_6 : decode cX7_isHeld 6 = .ok (.ifCond .eq 42, 3) := by decide +kernel
theorem dX7_isHeld_9 : decode cX7_isHeld 9 = .ok (.aload_n 0, 1) := by decide +kernel
theorem dX7_isHeld_10 : decode cX7_isHeld 10 = .ok (.getfield 19, 3) := by decide +kernel
theorem dX7_isHeld_13 : decode cX7_isHeld 13 = .ok (.iload_n 2, 1) := by decide +kernel
theorem dX7_isHeld_14 : decode cX7_isHeld 14 = .ok (.iaload, 1) := by decide +kernel
theorem dX7_isHeld_15 : decode cX7_isHeld 15 = .ok (.iconst 1, 1) := by decide +kernel
theorem dX7_isHeld_16 : decode cX7_isHeld 16 = .ok (.if_icmp .ne 32, 3) := by decide +kernel
theorem dX7_isHeld_19 : decode cX7_isHeld 19 = .ok (.aload_n 0, 1) := by decide +kernel
theorem dX7_isHeld_20 : decode cX7_isHeld 20 = .ok (.getfield 3, 3) := by decide +kernel
theorem dX7_isHeld_23 : decode cX7_isHeld 23 = .ok (.getfield 52, 3) := by decide +kernel
theorem dX7_isHeld_26 : decode cX7_isHeld 26 = .ok (.iload_n 1, 1) := by decide +kernel
theorem dX7_isHeld_27 : decode cX7_isHeld 27 = .ok (.iaload, 1) := by decide +kernel
theorem dX7_isHeld_28 : decode cX7_isHeld 28 = .ok (.aload_n 0, 1) := by decide +kernel
theorem dX7_isHeld_29 : decode cX7_isHeld 29 = .ok (.getfield 3, 3) := by decide +kernel
theorem dX7_isHeld_32 : decode cX7_isHeld 32 = .ok (.getfield 45, 3) := by decide +kernel
theorem dX7_isHeld_35 : decode cX7_isHeld 35 = .ok (.iload_n 2, 1) := by decide +kernel
theorem dX7_isHeld_36 : decode cX7_isHeld 36 = .ok (.iaload, 1) := by decide +kernel
theorem dX7_isHeld_37 : decode cX7_isHeld 37 = .ok (.iload_n 3, 1) := by decide +kernel
theorem dX7_isHeld_38 : decode cX7_isHeld 38 = .ok (.invokestatic 55, 3) := by decide +kernel
theorem dX7_isHeld_41 : decode cX7_isHeld 41 = .ok (.ifCond .eq 7, 3) := by decide +kernel
theorem dX7_isHeld_44 : decode cX7_isHeld 44 = .ok (.iconst 1, 1) := by decide +kernel
theorem dX7_isHeld_45 : decode cX7_isHeld 45 = .ok (.goto 4, 3) := by decide +kernel
theorem dX7_isHeld_48 : decode cX7_isHeld 48 = .ok (.iconst 0, 1) := by decide +kernel
theorem dX7_isHeld_49 : decode cX7_isHeld 49 = .ok (.ireturn, 1) := by decide +kernel
theorem dX7_held_0 : decode cX7_held 0 = .ok (.iconst 0, 1) := by decide +kernel
theorem dX7_held_1 : decode cX7_held 1 = .ok (.istore_n 3, 1) := by decide +kernel
theorem dX7_held_2 : decode cX7_held 2 = .ok (.iconst 0, 1) := by decide +kernel
theorem dX7_held_3 : decode cX7_held 3 = .ok (.istore 4, 2) := by decide +kernel
theorem dX7_held_5 : decode cX7_held 5 = .ok (.iload 4, 2) := by decide +kernel
theorem dX7_held_7 : decode cX7_held 7 = .ok (.aload_n 0, 1) := by decide +kernel
theorem dX7_held_8 : decode cX7_held 8 = .ok (.getfield 3, 3) := by decide +kernel
theorem dX7_held_11 : decode cX7_held 11 = .ok (.getfield 59, 3) := by decide +kernel
theorem dX7_held_14 : decode cX7_held 14 = .ok (.if_icmp .ge 28, 3) := by decide +kernel
theorem dX7_held_17 : decode cX7_held 17 = .ok (.iload_n 3, 1) := by decide +kernel
theorem dX7_held_18 : decode cX7_held 18 = .ok (.aload_n 0, 1) := by decide +kernel
theorem dX7_held_19 : decode cX7_held 19 = .ok (.iload_n 1, 1) := by decide +kernel
theorem dX7_held_20 : decode cX7_held 20 = .ok (.iload 4, 2) := by decide +kernel
theorem dX7_held_22 : decode cX7_held 22 = .ok (.iload_n 2, 1) := by decide +kernel
theorem dX7_held_23 : decode cX7_held 23 = .ok (.invokevirtual 62, 3) := by decide +kernel
theorem dX7_held_26 : decode cX7_held 26 = .ok (.ifCond .eq 7, 3) := by decide +kernel
theorem dX7_held_29 : decode cX7_held 29 = .ok (.iconst 1, 1) := by decide +kernel
theorem dX7_held_30 : decode cX7_held 30 = .ok (.goto 4, 3) := by decide +kernel
theorem dX7_held_33 : decode cX7_held 33 = .ok (.iconst 0, 1) := by decide +kernel
theorem dX7_held_34 : decode cX7_held 34 = .ok (.iadd, 1) := by decide +kernel
theorem dX7_held_35 : decode cX7_held 35 = .ok (.istore_n 3, 1) := by decide +kernel
theorem dX7_held_36 : decode cX7_held 36 = .ok (.iinc 4 1, 3) := by decide +kernel
theorem dX7_held_39 : decode cX7_held 39 = .ok (.goto (-34), 3) := by decide +kernel
theorem dX7_held_42 : decode cX7_held 42 = .ok (.iload_n 3, 1) := by decide +kernel
theorem dX7_held_43 : decode cX7_held 43 = .ok (.ireturn, 1) := by decide +kernel
theorem dX7_pulls_0 : decode cX7_pulls 0 = .ok (.iconst 0, 1) := by decide +kernel
theorem dX7_pulls_1 : decode cX7_pulls 1 = .ok (.istore 4, 2) := by decide +kernel
theorem dX7_pulls_3 : decode cX7_pulls 3 = .ok (.iconst 0, 1) := by decide +kernel
theorem dX7_pulls_4 : decode cX7_pulls 4 = .ok (.istore 5, 2) := by decide +kernel
theorem dX7_pulls_6 : decode cX7_pulls 6 = .ok (.iload 5, 2) := by decide +kernel
theorem dX7_pulls_8 : decode cX7_pulls 8 = .ok (.aload_n 0, 1) := by decide +kernel
theorem dX7_pulls_9 : decode cX7_pulls 9 = .ok (.getfield 3, 3) := by decide +kernel
theorem dX7_pulls_12 : decode cX7_pulls 12 = .ok (.getfield 65, 3) := by decide +kernel
theorem dX7_pulls_15 : decode cX7_pulls 15 = .ok (.if_icmp .ge 56, 3) := by decide +kernel
theorem dX7_pulls_18 : decode cX7_pulls 18 = .ok (.aload_n 0, 1) := by decide +kernel
theorem dX7_pulls_19 : decode cX7_pulls 19 = .ok (.getfield 22, 3) := by decide +kernel
theorem dX7_pulls_22 : decode cX7_pulls 22 = .ok (.iload 5, 2) := by decide +kernel
theorem dX7_pulls_24 : decode cX7_pulls 24 = .ok (.iaload, 1) := by decide +kernel
theorem dX7_pulls_25 : decode cX7_pulls 25 = .ok (.iconst 1, 1) := by decide +kernel
theorem dX7_pulls_26 : decode cX7_pulls 26 = .ok (.if_icmp .ne 39, 3) := by decide +kernel
theorem dX7_pulls_29 : decode cX7_pulls 29 = .ok (.aload_n 0, 1) := by decide +kernel
theorem dX7_pulls_30 : decode cX7_pulls 30 = .ok (.iload 5, 2) := by decide +kernel
theorem dX7_pulls_32 : decode cX7_pulls 32 = .ok (.iload_n 1, 1) := by decide +kernel
theorem dX7_pulls_33 : decode cX7_pulls 33 = .ok (.iload_n 3, 1) := by decide +kernel
theorem dX7_pulls_34 : decode cX7_pulls 34 = .ok (.invokevirtual 62, 3) := by decide +kernel
theorem dX7_pulls_37 : decode cX7_pulls 37 = .ok (.ifCond .eq 28, 3) := by decide +kernel
theorem dX7_pulls_40 : decode cX7_pulls 40 = .ok (.iload 4, 2) := by decide +kernel
theorem dX7_pulls_42 : decode cX7_pulls 42 = .ok (.aload_n 0, 1) := by decide +kernel
theorem dX7_pulls_43 : decode cX7_pulls 43 = .ok (.getfield 3, 3) := by decide +kernel
theorem dX7_pulls_46 : decode cX7_pulls 46 = .ok (.getfield 68, 3) := by decide +kernel
theorem dX7_pulls_49 : decode cX7_pulls 49 = .ok (.iload 5, 2) := by decide +kernel
theorem dX7_pulls_51 : decode cX7_pulls 51 = .ok (.iaload, 1) := by decide +kernel
theorem dX7_pulls_52 : decode cX7_pulls 52 = .ok (.iload_n 2, 1) := by decide +kernel
theorem dX7_pulls_53 : decode cX7_pulls 53 = .ok (.imul, 1) := by decide +kernel
theorem dX7_pulls_54 : decode cX7_pulls 54 = .ok (.aload_n 0, 1) := by decide +kernel
theorem dX7_pulls_55 : decode cX7_pulls 55 = .ok (.iload 5, 2) := by decide +kernel
theorem dX7_pulls_57 : decode cX7_pulls 57 = .ok (.iload_n 3, 1) := by decide +kernel
theorem dX7_pulls_58 : decode cX7_pulls 58 = .ok (.invokevirtual 71, 3) := by decide +kernel
theorem dX7_pulls_61 : decode cX7_pulls 61 = .ok (.idiv, 1) := by decide +kernel
theorem dX7_pulls_62 : decode cX7_pulls 62 = .ok (.iadd, 1) := by decide +kernel
theorem dX7_pulls_63 : decode cX7_pulls 63 = .ok (.istore 4, 2) := by decide +kernel
theorem dX7_pulls_65 : decode cX7_pulls 65 = .ok (.iinc 5 1, 3) := by decide +kernel
theorem dX7_pulls_68 : decode cX7_pulls 68 = .ok (.goto (-62), 3) := by decide +kernel
theorem dX7_pulls_71 : decode cX7_pulls 71 = .ok (.iload 4, 2) := by decide +kernel
theorem dX7_pulls_73 : decode cX7_pulls 73 = .ok (.ireturn, 1) := by decide +kernel
theorem dX7_round_0 : decode cX7_round 0 = .ok (.iconst 0, 1) := by decide +kernel
theorem dX7_round_1 : decode cX7_round 1 = .ok (.istore_n 3, 1) := by decide +kernel
theorem dX7_round_2 : decode cX7_round 2 = .ok (.iconst 0, 1) := by decide +kernel
theorem dX7_round_3 : decode cX7_round 3 = .ok (.istore 4, 2) := by decide +kernel
theorem dX7_round_5 : decode cX7_round 5 = .ok (.iload 4, 2) := by decide +kernel
theorem dX7_round_7 : decode cX7_round 7 = .ok (.aload_n 0, 1) := by decide +kernel
theorem dX7_round_8 : decode cX7_round 8 = .ok (.getfield 3, 3) := by decide +kernel
theorem dX7_round_11 : decode cX7_round 11 = .ok (.getfield 65, 3) := by decide +kernel
theorem dX7_round_14 : decode cX7_round 14 = .ok (.if_icmp .ge 42, 3) := by decide +kernel
theorem dX7_round_17 : decode cX7_round 17 = .ok (.aload_n 0, 1) := by decide +kernel
theorem dX7_round_18 : decode cX7_round 18 = .ok (.getfield 22, 3) := by decide +kernel
theorem dX7_round_21 : decode cX7_round 21 = .ok (.iload 4, 2) := by decide +kernel
theorem dX7_round_23 : decode cX7_round 23 = .ok (.iaload, 1) := by decide +kernel
theorem dX7_round_24 : decode cX7_round 24 = .ok (.ifCond .eq 26, 3) := by decide +kernel
theorem dX7_round_27 : decode cX7_round 27 = .ok (.aload_n 0, 1) := by decide +kernel
theorem dX7_round_28 : decode cX7_round 28 = .ok (.iload 4, 2) := by decide +kernel
theorem dX7_round_30 : decode cX7_round 30 = .ok (.iload_n 2, 1) := by decide +kernel
theorem dX7_round_31 : decode cX7_round 31 = .ok (.invokevirtual 71, 3) := by decide +kernel
theorem dX7_round_34 : decode cX7_round 34 = .ok (.ifCond .le 6, 3) := by decide +kernel
theorem dX7_round_37 : decode cX7_round 37 = .ok (.goto 13, 3) := by decide +kernel
theorem dX7_round_40 : decode cX7_round 40 = .ok (.aload_n 0, 1) := by decide +kernel
theorem dX7_round_41 : decode cX7_round 41 = .ok (.getfield 22, 3) := by decide +kernel
theorem dX7_round_44 : decode cX7_round 44 = .ok (.iload 4, 2) := by decide +kernel
theorem dX7_round_46 : decode cX7_round 46 = .ok (.iconst 0, 1) := by decide +kernel
theorem dX7_round_47 : decode cX7_round 47 = .ok (.iastore, 1) := by decide +kernel
theorem dX7_round_48 : decode cX7_round 48 = .ok (.iconst 1, 1) := by decide +kernel
theorem dX7_round_49 : decode cX7_round 49 = .ok (.istore_n 3, 1) := by decide +kernel
theorem dX7_round_50 : decode cX7_round 50 = .ok (.iinc 4 1, 3) := by decide +kernel
theorem dX7_round_53 : decode cX7_round 53 = .ok (.goto (-48), 3) := by decide +kernel
theorem dX7_round_56 : decode cX7_round 56 = .ok (.iconst 0, 1) := by decide +kernel
theorem dX7_round_57 : decode cX7_round 57 = .ok (.istore 4, 2) := by decide +kernel
theorem dX7_round_59 : decode cX7_round 59 = .ok (.iconst 0, 1) := by decide +kernel
theorem dX7_round_60 : decode cX7_round 60 = .ok (.istore 5, 2) := by decide +kernel
theorem dX7_round_62 : decode cX7_round 62 = .ok (.iload 5, 2) := by decide +kernel
theorem dX7_round_64 : decode cX7_round 64 = .ok (.aload_n 0, 1) := by decide +kernel
theorem dX7_round_65 : decode cX7_round 65 = .ok (.getfield 3, 3) := by decide +kernel
theorem dX7_round_68 : decode cX7_round 68 = .ok (.getfield 59, 3) := by decide +kernel
theorem dX7_round_71 : decode cX7_round 71 = .ok (.if_icmp .ge 46, 3) := by decide +kernel
theorem dX7_round_74 : decode cX7_round 74 = .ok (.aload_n 0, 1) := by decide +kernel
theorem dX7_round_75 : decode cX7_round 75 = .ok (.getfield 19, 3) := by decide +kernel
theorem dX7_round_78 : decode cX7_round 78 = .ok (.iload 5, 2) := by decide +kernel
theorem dX7_round_80 : decode cX7_round 80 = .ok (.iaload, 1) := by decide +kernel
theorem dX7_round_81 : decode cX7_round 81 = .ok (.iconst 1, 1) := by decide +kernel
theorem dX7_round_82 : decode cX7_round 82 = .ok (.if_icmp .ne 29, 3) := by decide +kernel
theorem dX7_round_85 : decode cX7_round 85 = .ok (.aload_n 0, 1) := by decide +kernel
theorem dX7_round_86 : decode cX7_round 86 = .ok (.iload 5, 2) := by decide +kernel
theorem dX7_round_88 : decode cX7_round 88 = .ok (.iload_n 1, 1) := by decide +kernel
theorem dX7_round_89 : decode cX7_round 89 = .ok (.iload_n 2, 1) := by decide +kernel
theorem dX7_round_90 : decode cX7_round 90 = .ok (.invokevirtual 75, 3) := by decide +kernel
theorem dX7_round_93 : decode cX7_round 93 = .ok (.aload_n 0, 1) := by decide +kernel
theorem dX7_round_94 : decode cX7_round 94 = .ok (.iload 5, 2) := by decide +kernel
theorem dX7_round_96 : decode cX7_round 96 = .ok (.invokevirtual 79, 3) := by decide +kernel
theorem dX7_round_99 : decode cX7_round 99 = .ok (.if_icmp .le 12, 3) := by decide +kernel
theorem dX7_round_102 : decode cX7_round 102 = .ok (.iload 4, 2) := by decide +kernel
theorem dX7_round_104 : decode cX7_round 104 = .ok (.iconst 1, 1) := by decide +kernel
theorem dX7_round_105 : decode cX7_round 105 = .ok (.iload 5, 2) := by decide +kernel
theorem dX7_round_107 : decode cX7_round 107 = .ok (.ishl, 1) := by decide +kernel
theorem dX7_round_108 : decode cX7_round 108 = .ok (.ior, 1) := by decide +kernel
theorem dX7_round_109 : decode cX7_round 109 = .ok (.istore 4, 2) := by decide +kernel
theorem dX7_round_111 : decode cX7_round 111 = .ok (.iinc 5 1, 3) := by decide +kernel
theorem dX7_round_114 : decode cX7_round 114 = .ok (.goto (-52), 3) := by decide +kernel
theorem dX7_round_117 : decode cX7_round 117 = .ok (.iconst 0, 1) := by decide +kernel
theorem dX7_round_118 : decode cX7_round 118 = .ok (.istore 5, 2) := by decide +kernel
theorem dX7_round_120 : decode cX7_round 120 = .ok (.iload 5, 2) := by decide +kernel
theorem dX7_round_122 : decode cX7_round 122 = .ok (.aload_n 0, 1) := by decide +kernel
theorem dX7_round_123 : decode cX7_round 123 = .ok (.getfield 3, 3) := by decide +kernel
theorem dX7_round_126 : decode cX7_round 126 = .ok (.getfield 59, 3) := by decide +kernel
theorem dX7_round_129 : decode cX7_round 129 = .ok (.if_icmp .ge 28, 3) := by decide +kernel
theorem dX7_round_132 : decode cX7_round 132 = .ok (.iload 4, 2) := by decide +kernel
theorem dX7_round_134 : decode cX7_round 134 = .ok (.iload 5, 2) := by decide +kernel
theorem dX7_round_136 : decode cX7_round 136 = .ok (.ishr, 1) := by decide +kernel
theorem dX7_round_137 : decode cX7_round 137 = .ok (.iconst 1, 1) := by decide +kernel
theorem dX7_round_138 : decode cX7_round 138 = .ok (.iand, 1) := by decide +kernel
theorem dX7_round_139 : decode cX7_round 139 = .ok (.iconst 1, 1) := by decide +kernel
theorem dX7_round_140 : decode cX7_round 140 = .ok (.if_icmp .ne 11, 3) := by decide +kernel
theorem dX7_round_143 : decode cX7_round 143 = .ok (.aload_n 0, 1) := by decide +kernel
theorem dX7_round_144 : decode cX7_round 144 = .ok (.getfield 19, 3) := by decide +kernel
theorem dX7_round_147 : decode cX7_round 147 = .ok (.iload 5, 2) := by decide +kernel
theorem dX7_round_149 : decode cX7_round 149 = .ok (.iconst 0, 1) := by decide +kernel
theorem dX7_round_150 : decode cX7_round 150 = .ok (.iastore, 1) := by decide +kernel
theorem dX7_round_151 : decode cX7_round 151 = .ok (.iinc 5 1, 3) := by decide +kernel
theorem dX7_round_154 : decode cX7_round 154 = .ok (.goto (-34), 3) := by decide +kernel
theorem dX7_round_157 : decode cX7_round 157 = .ok (.iload_n 3, 1) := by decide +kernel
theorem dX7_round_158 : decode cX7_round 158 = .ok (.ifCond .ne 8, 3) := by decide +kernel
theorem dX7_round_161 : decode cX7_round 161 = .ok (.iload 4, 2) := by decide +kernel
theorem dX7_round_163 : decode cX7_round 163 = .ok (.ifCond .eq 7, 3) := by decide +kernel
theorem dX7_round_166 : decode cX7_round 166 = .ok (.iconst 1, 1) := by decide +kernel
theorem dX7_round_167 : decode cX7_round 167 = .ok (.goto 4, 3) := by decide +kernel
theorem dX7_round_170 : decode cX7_round 170 = .ok (.iconst 0, 1) := by decide +kernel
theorem dX7_round_171 : decode cX7_round 171 = .ok (.ireturn, 1) := by decide +kernel
theorem dX7_storm_0 : decode cX7_storm 0 = .ok (.iconst 0, 1) := by decide +kernel
theorem dX7_storm_1 : decode cX7_storm 1 = .ok (.istore_n 3, 1) := by decide +kernel
theorem dX7_storm_2 : decode cX7_storm 2 = .ok (.iload_n 1, 1) := by decide +kernel
theorem dX7_storm_3 : decode cX7_storm 3 = .ok (.ifCond .le 7, 3) := by decide +kernel
theorem dX7_storm_6 : decode cX7_storm 6 = .ok (.iconst 1, 1) := by decide +kernel
theorem dX7_storm_7 : decode cX7_storm 7 = .ok (.goto 4, 3) := by decide +kernel
theorem dX7_storm_10 : decode cX7_storm 10 = .ok (.iconst 0, 1) := by decide +kernel
theorem dX7_storm_11 : decode cX7_storm 11 = .ok (.istore 4, 2) := by decide +kernel
theorem dX7_storm_13 : decode cX7_storm 13 = .ok (.iload 4, 2) := by decide +kernel
theorem dX7_storm_15 : decode cX7_storm 15 = .ok (.ifCond .eq 17, 3) := by decide +kernel
theorem dX7_storm_18 : decode cX7_storm 18 = .ok (.aload_n 0, 1) := by decide +kernel
theorem dX7_storm_19 : decode cX7_storm 19 = .ok (.iload_n 1, 1) := by decide +kernel
theorem dX7_storm_20 : decode cX7_storm 20 = .ok (.iload_n 2, 1) := by decide +kernel
theorem dX7_storm_21 : decode cX7_storm 21 = .ok (.invokevirtual 83, 3) := by decide +kernel
theorem dX7_storm_24 : decode cX7_storm 24 = .ok (.istore 4, 2) := by decide +kernel
theorem dX7_storm_26 : decode cX7_storm 26 = .ok (.iinc 3 1, 3) := by decide +kernel
theorem dX7_storm_29 : decode cX7_storm 29 = .ok (.goto (-16), 3) := by decide +kernel
theorem dX7_storm_32 : decode cX7_storm 32 = .ok (.iload_n 3, 1) := by decide +kernel
theorem dX7_storm_33 : decode cX7_storm 33 = .ok (.ireturn, 1) := by decide +kernel
theorem dX7_pass_0 : decode cX7_pass 0 = .ok (.aload_n 0, 1) := by decide +kernel
theorem dX7_pass_1 : decode cX7_pass 1 = .ok (.getfield 3, 3) := by decide +kernel
theorem dX7_pass_4 : decode cX7_pass 4 = .ok (.getfield 86, 3) := by decide +kernel
theorem dX7_pass_7 : decode cX7_pass 7 = .ok (.aload_n 0, 1) := by decide +kernel
theorem dX7_pass_8 : decode cX7_pass 8 = .ok (.getfield 37, 3) := by decide +kernel
theorem dX7_pass_11 : decode cX7_pass 11 = .ok (.bipush 7, 2) := by decide +kernel
theorem dX7_pass_13 : decode cX7_pass 13 = .ok (.irem, 1) := by decide +kernel
theorem dX7_pass_14 : decode cX7_pass 14 = .ok (.iaload, 1) := by decide +kernel
theorem dX7_pass_15 : decode cX7_pass 15 = .ok (.istore_n 1, 1) := by decide +kernel
theorem dX7_pass_16 : decode cX7_pass 16 = .ok (.aload_n 0, 1) := by decide +kernel
theorem dX7_pass_17 : decode cX7_pass 17 = .ok (.iload_n 1, 1) := by decide +kernel
theorem dX7_pass_18 : decode cX7_pass 18 = .ok (.bipush 100, 2) := by decide +kernel
theorem dX7_pass_20 : decode cX7_pass 20 = .ok (.idiv, 1) := by decide +kernel
theorem dX7_pass_21 : decode cX7_pass 21 = .ok (.iload_n 1, 1) := by decide +kernel
theorem dX7_pass_22 : decode cX7_pass 22 = .ok (.bipush 10, 2) := by decide +kernel
theorem dX7_pass_24 : decode cX7_pass 24 = .ok (.idiv, 1) := by decide +kernel
theorem dX7_pass_25 : decode cX7_pass 25 = .ok (.bipush 10, 2) := by decide +kernel
theorem dX7_pass_27 : decode cX7_pass 27 = .ok (.irem, 1) := by decide +kernel
theorem dX7_pass_28 : decode cX7_pass 28 = .ok (.invokevirtual 89, 3) := by decide +kernel
theorem dX7_pass_31 : decode cX7_pass 31 = .ok (.pop, 1) := by decide +kernel
theorem dX7_pass_32 : decode cX7_pass 32 = .ok (.iload_n 1, 1) := by decide +kernel
theorem dX7_pass_33 : decode cX7_pass 33 = .ok (.bipush 10, 2) := by decide +kernel
theorem dX7_pass_35 : decode cX7_pass 35 = .ok (.irem, 1) := by decide +kernel
theorem dX7_pass_36 : decode cX7_pass 36 = .ok (.istore_n 2, 1) := by decide +kernel
theorem dX7_pass_37 : decode cX7_pass 37 = .ok (.aload_n 0, 1) := by decide +kernel
theorem dX7_pass_38 : decode cX7_pass 38 = .ok (.getfield 3, 3) := by decide +kernel
theorem dX7_pass_41 : decode cX7_pass 41 = .ok (.iload_n 2, 1) := by decide +kernel
theorem dX7_pass_42 : decode cX7_pass 42 = .ok (.invokevirtual 92, 3) := by decide +kernel
theorem dX7_pass_45 : decode cX7_pass 45 = .ok (.iconst 0, 1) := by decide +kernel
theorem dX7_pass_46 : decode cX7_pass 46 = .ok (.istore_n 3, 1) := by decide +kernel
theorem dX7_pass_47 : decode cX7_pass 47 = .ok (.iload_n 3, 1) := by decide +kernel
theorem dX7_pass_48 : decode cX7_pass 48 = .ok (.aload_n 0, 1) := by decide +kernel
theorem dX7_pass_49 : decode cX7_pass 49 = .ok (.getfield 3, 3) := by decide +kernel
theorem dX7_pass_52 : decode cX7_pass 52 = .ok (.getfield 65, 3) := by decide +kernel
theorem dX7_pass_55 : decode cX7_pass 55 = .ok (.if_icmp .ge 51, 3) := by decide +kernel
theorem dX7_pass_58 : decode cX7_pass 58 = .ok (.aload_n 0, 1) := by decide +kernel
theorem dX7_pass_59 : decode cX7_pass 59 = .ok (.getfield 3, 3) := by decide +kernel
theorem dX7_pass_62 : decode cX7_pass 62 = .ok (.getfield 96, 3) := by decide +kernel
theorem dX7_pass_65 : decode cX7_pass 65 = .ok (.aload_n 0, 1) := by decide +kernel
theorem dX7_pass_66 : decode cX7_pass 66 = .ok (.getfield 3, 3) := by decide +kernel
theorem dX7_pass_69 : decode cX7_pass 69 = .ok (.getfield 52, 3) := by decide +kernel
theorem dX7_pass_72 : decode cX7_pass 72 = .ok (.iload_n 3, 1) := by decide +kernel
theorem dX7_pass_73 : decode cX7_pass 73 = .ok (.iaload, 1) := by decide +kernel
theorem dX7_pass_74 : decode cX7_pass 74 = .ok (.iaload, 1) := by decide +kernel
theorem dX7_pass_75 : decode cX7_pass 75 = .ok (.bipush 10, 2) := by decide +kernel
theorem dX7_pass_77 : decode cX7_pass 77 = .ok (.if_icmp .ge 16, 3) := by decide +kernel
theorem dX7_pass_80 : decode cX7_pass 80 = .ok (.aload_n 0, 1) := by decide +kernel
theorem dX7_pass_81 : decode cX7_pass 81 = .ok (.getfield 22, 3) := by decide +kernel
theorem dX7_pass_84 : decode cX7_pass 84 = .ok (.iload_n 3, 1) := by decide +kernel
theorem dX7_pass_85 : decode cX7_pass 85 = .ok (.iaload, 1) := by decide +kernel
theorem dX7_pass_86 : decode cX7_pass 86 = .ok (.ifCond .ne 14, 3) := by decide +kernel
theorem dX7_pass_89 : decode cX7_pass 89 = .ok (.iload_n 2, 1) := by decide +kernel
theorem dX7_pass_90 : decode cX7_pass 90 = .ok (.ifCond .le 10, 3) := by decide +kernel
theorem dX7_pass_93 : decode cX7_pass 93 = .ok (.aload_n 0, 1) := by decide +kernel
theorem dX7_pass_94 : decode cX7_pass 94 = .ok (.getfield 25, 3) := by decide +kernel
theorem dX7_pass_97 : decode cX7_pass 97 = .ok (.iload_n 3, 1) := by decide +kernel
theorem dX7_pass_98 : decode cX7_pass 98 = .ok (.iconst 1, 1) := by decide +kernel
theorem dX7_pass_99 : decode cX7_pass 99 = .ok (.iastore, 1) := by decide +kernel
theorem dX7_pass_100 : decode cX7_pass 100 = .ok (.iinc 3 1, 3) := by decide +kernel
theorem dX7_pass_103 : decode cX7_pass 103 = .ok (.goto (-56), 3) := by decide +kernel
theorem dX7_pass_106 : decode cX7_pass 106 = .ok (.iconst 0, 1) := by decide +kernel
theorem dX7_pass_107 : decode cX7_pass 107 = .ok (.istore_n 3, 1) := by decide +kernel
theorem dX7_pass_108 : decode cX7_pass 108 = .ok (.iload_n 3, 1) := by decide +kernel
theorem dX7_pass_109 : decode cX7_pass 109 = .ok (.bipush 100, 2) := by decide +kernel
theorem dX7_pass_111 : decode cX7_pass 111 = .ok (.if_icmp .ge 41, 3) := by decide +kernel
theorem dX7_pass_114 : decode cX7_pass 114 = .ok (.aload_n 0, 1) := by decide +kernel
theorem dX7_pass_115 : decode cX7_pass 115 = .ok (.getfield 3, 3) := by decide +kernel
theorem dX7_pass_118 : decode cX7_pass 118 = .ok (.getfield 96, 3) := by decide +kernel
theorem dX7_pass_121 : decode cX7_pass 121 = .ok (.iload_n 3, 1) := by decide +kernel
theorem dX7_pass_122 : decode cX7_pass 122 = .ok (.iaload, 1) := by decide +kernel
theorem dX7_pass_123 : decode cX7_pass 123 = .ok (.bipush 20, 2) := by decide +kernel
theorem dX7_pass_125 : decode cX7_pass 125 = .ok (.if_icmp .lt 21, 3) := by decide +kernel
theorem dX7_pass_128 : decode cX7_pass 128 = .ok (.aload_n 0, 1) := by decide +kernel
theorem dX7_pass_129 : decode cX7_pass 129 = .ok (.getfield 15, 3) := by decide +kernel
theorem dX7_pass_132 : decode cX7_pass 132 = .ok (.iload_n 3, 1) := by decide +kernel
theorem dX7_pass_133 : decode cX7_pass 133 = .ok (.iconst 1, 1) := by decide +kernel
theorem dX7_pass_134 : decode cX7_pass 134 = .ok (.aload_n 0, 1) := by decide +kernel
theorem dX7_pass_135 : decode cX7_pass 135 = .ok (.getfield 15, 3) := by decide +kernel
theorem dX7_pass_138 : decode cX7_pass 138 = .ok (.iload_n 3, 1) := by decide +kernel
theorem dX7_pass_139 : decode cX7_pass 139 = .ok (.iaload, 1) := by decide +kernel
theorem dX7_pass_140 : decode cX7_pass 140 = .ok (.iconst 1, 1) := by decide +kernel
theorem dX7_pass_141 : decode cX7_pass 141 = .ok (.isub, 1) := by decide +kernel
theorem dX7_pass_142 : decode cX7_pass 142 = .ok (.invokestatic 99, 3) := by decide +kernel
theorem dX7_pass_145 : decode cX7_pass 145 = .ok (.iastore, 1) := by decide +kernel
theorem dX7_pass_146 : decode cX7_pass 146 = .ok (.iinc 3 1, 3) := by decide +kernel
theorem dX7_pass_149 : decode cX7_pass 149 = .ok (.goto (-41), 3) := by decide +kernel
theorem dX7_pass_152 : decode cX7_pass 152 = .ok (.aload_n 0, 1) := by decide +kernel
theorem dX7_pass_153 : decode cX7_pass 153 = .ok (.dup, 1) := by decide +kernel
theorem dX7_pass_154 : decode cX7_pass 154 = .ok (.getfield 37, 3) := by decide +kernel
theorem dX7_pass_157 : decode cX7_pass 157 = .ok (.iconst 1, 1) := by decide +kernel
theorem dX7_pass_158 : decode cX7_pass 158 = .ok (.iadd, 1) := by decide +kernel
theorem dX7_pass_159 : decode cX7_pass 159 = .ok (.putfield 37, 3) := by decide +kernel
theorem dX7_pass_162 : decode cX7_pass 162 = .ok (.return_, 1) := by decide +kernel
theorem dX7_standing_0 : decode cX7_standing 0 = .ok (.aload_n 0, 1) := by decide +kernel
theorem dX7_standing_1 : decode cX7_standing 1 = .ok (.getfield 22, 3) := by decide +kernel
theorem dX7_standing_4 : decode cX7_standing 4 = .ok (.aload_n 0, 1) := by decide +kernel
theorem dX7_standing_5 : decode cX7_standing 5 = .ok (.getfield 3, 3) := by decide +kernel
theorem dX7_standing_8 : decode cX7_standing 8 = .ok (.getfield 65, 3) := by decide +kernel
theorem dX7_standing_11 : decode cX7_standing 11 = .ok (.invokestatic 104, 3) := by decide +kernel
theorem dX7_standing_14 : decode cX7_standing 14 = .ok (.ireturn, 1) := by decide +kernel
theorem dX7_dry_0 : decode cX7_dry 0 = .ok (.aload_n 0, 1) := by decide +kernel
theorem dX7_dry_1 : decode cX7_dry 1 = .ok (.getfield 3, 3) := by decide +kernel
theorem dX7_dry_4 : decode cX7_dry 4 = .ok (.getfield 65, 3) := by decide +kernel
theorem dX7_dry_7 : decode cX7_dry 7 = .ok (.aload_n 0, 1) := by decide +kernel
theorem dX7_dry_8 : decode cX7_dry 8 = .ok (.getfield 25, 3) := by decide +kernel
theorem dX7_dry_11 : decode cX7_dry 11 = .ok (.aload_n 0, 1) := by decide +kernel
theorem dX7_dry_12 : decode cX7_dry 12 = .ok (.getfield 3, 3) := by decide +kernel
theorem dX7_dry_15 : decode cX7_dry 15 = .ok (.getfield 65, 3) := by decide +kernel
theorem dX7_dry_18 : decode cX7_dry 18 = .ok (.invokestatic 104, 3) := by decide +kernel
theorem dX7_dry_21 : decode cX7_dry 21 = .ok (.isub, 1) := by decide +kernel
theorem dX7_dry_22 : decode cX7_dry 22 = .ok (.ireturn, 1) := by decide +kernel
theorem dX7_in_0 : decode cX7_in 0 = .ok (.aload_n 0, 1) := by decide +kernel
theorem dX7_in_1 : decode cX7_in 1 = .ok (.getfield 19, 3) := by decide +kernel
theorem dX7_in_4 : decode cX7_in 4 = .ok (.aload_n 0, 1) := by decide +kernel
theorem dX7_in_5 : decode cX7_in 5 = .ok (.getfield 3, 3) := by decide +kernel
theorem dX7_in_8 : decode cX7_in 8 = .ok (.getfield 59, 3) := by decide +kernel
theorem dX7_in_11 : decode cX7_in 11 = .ok (.invokestatic 104, 3) := by decide +kernel
theorem dX7_in_14 : decode cX7_in 14 = .ok (.ireturn, 1) := by decide +kernel
-- decode rows of X8
theorem dX8_init_0 : decode cX8_init 0 = .ok (.aload_n 0, 1) := by decide +kernel
theorem dX8_init_1 : decode cX8_init 1 = .ok (.invokespecial 1, 3) := by decide +kernel
theorem dX8_init_4 : decode cX8_init 4 = .ok (.aload_n 0, 1) := by decide +kernel
theorem dX8_init_5 : decode cX8_init 5 = .ok (.bipush 100, 2) := by decide +kernel
theorem dX8_init_7 : decode cX8_init 7 = .ok (.newarray .int, 2) := by decide +kernel
theorem dX8_init_9 : decode cX8_init 9 = .ok (.putfield 9, 3) := by decide +kernel
theorem dX8_init_12 : decode cX8_init 12 = .ok (.aload_n 0, 1) := by decide +kernel
theorem dX8_init_13 : decode cX8_init 13 = .ok (.bipush 100, 2) := by decide +kernel
theorem dX8_init_15 : decode cX8_init 15 = .ok (.newarray .int, 2) := by decide +kernel
theorem dX8_init_17 : decode cX8_init 17 = .ok (.putfield 13, 3) := by decide +kernel
theorem dX8_init_20 : decode cX8_init 20 = .ok (.aload_n 0, 1) := by decide +kernel
theorem dX8_init_21 : decode cX8_init 21 = .ok (.bipush 7, 2) := by decide +kernel
theorem dX8_init_23 : decode cX8_init 23 = .ok (.newarray .int, 2) := by decide +kernel
theorem dX8_init_25 : decode cX8_init 25 = .ok (.putfield 16, 3) := by decide +kernel
theorem dX8_init_28 : decode cX8_init 28 = .ok (.aload_n 0, 1) := by decide +kernel
theorem dX8_init_29 : decode cX8_init 29 = .ok (.bipush 16, 2) := by decide +kernel
theorem dX8_init_31 : decode cX8_init 31 = .ok (.newarray .int, 2) := by decide +kernel
theorem dX8_init_33 : decode cX8_init 33 = .ok (.putfield 19, 3) := by decide +kernel
theorem dX8_init_36 : decode cX8_init 36 = .ok (.aload_n 0, 1) := by decide +kernel
theorem dX8_init_37 : decode cX8_init 37 = .ok (.bipush 8, 2) := by decide +kernel
theorem dX8_init_39 : decode cX8_init 39 = .ok (.newarray .int, 2) := by decide +kernel
theorem dX8_init_41 : decode cX8_init 41 = .ok (.putfield 22, 3) := by decide +kernel
theorem dX8_init_44 : decode cX8_init 44 = .ok (.aload_n 0, 1) := by decide +kernel
theorem dX8_init_45 : decode cX8_init 45 = .ok (.bipush 8, 2) := by decide +kernel
theorem dX8_init_47 : decode cX8_init 47 = .ok (.newarray .int, 2) := by decide +kernel
theorem dX8_init_49 : decode cX8_init 49 = .ok (.putfield 25, 3) := by decide +kernel
theorem dX8_init_52 : decode cX8_init 52 = .ok (.aload_n 0, 1) := by decide +kernel
theorem dX8_init_53 : decode cX8_init 53 = .ok (.bipush 100, 2) := by decide +kernel
theorem dX8_init_55 : decode cX8_init 55 = .ok (.newarray .int, 2) := by decide +kernel
theorem dX8_init_57 : decode cX8_init 57 = .ok (.putfield 28, 3) := by decide +kernel
theorem dX8_init_60 : decode cX8_init 60 = .ok (.aload_n 0, 1) := by decide +kernel
theorem dX8_init_61 : decode cX8_init 61 = .ok (.new 31, 3) := by decide +kernel
theorem dX8_init_64 : decode cX8_init 64 = .ok (.dup, 1) := by decide +kernel
theorem dX8_init_65 : decode cX8_init 65 = .ok (.aload_n 0, 1) := by decide +kernel
theorem dX8_init_66 : decode cX8_init 66 = .ok (.invokespecial 33, 3) := by decide +kernel
theorem dX8_init_69 : decode cX8_init 69 = .ok (.putfield 36, 3) := by decide +kernel
theorem dX8_init_72 : decode cX8_init 72 = .ok (.aload_n 0, 1) := by decide +kernel
theorem dX8_init_73 : decode cX8_init 73 = .ok (.new 31, 3) := by decide +kernel
theorem dX8_init_76 : decode cX8_init 76 = .ok (.dup, 1) := by decide +kernel
theorem dX8_init_77 : decode cX8_init 77 = .ok (.aload_n 0, 1) := by decide +kernel
theorem dX8_init_78 : decode cX8_init 78 = .ok (.invokespecial 33, 3) := by decide +kernel
theorem dX8_init_81 : decode cX8_init 81 = .ok (.putfield 40, 3) := by decide +kernel
theorem dX8_init_84 : decode cX8_init 84 = .ok (.iconst 0, 1) := by decide +kernel
theorem dX8_init_85 : decode cX8_init 85 = .ok (.istore_n 1, 1) := by decide +kernel
theorem dX8_init_86 : decode cX8_init 86 = .ok (.iload_n 1, 1) := by decide +kernel
theorem dX8_init_87 : decode cX8_init 87 = .ok (.bipush 100, 2) := by decide +kernel
theorem dX8_init_89 : decode cX8_init 89 = .ok (.if_icmp .ge 32, 3) := by decide +kernel
theorem dX8_init_92 : decode cX8_init 92 = .ok (.aload_n 0, 1) := by decide +kernel
theorem dX8_init_93 : decode cX8_init 93 = .ok (.getfield 9, 3) := by decide +kernel
theorem dX8_init_96 : decode cX8_init 96 = .ok (.iload_n 1, 1) := by decide +kernel
theorem dX8_init_97 : decode cX8_init 97 = .ok (.bipush 9, 2) := by decide +kernel
theorem dX8_init_99 : decode cX8_init 99 = .ok (.iload_n 1, 1) := by decide +kernel
theorem dX8_init_100 : decode cX8_init 100 = .ok (.bipush 10, 2) := by decide +kernel
theorem dX8_init_102 : decode cX8_init 102 = .ok (.idiv, 1) := by decide +kernel
theorem dX8_init_103 : decode cX8_init 103 = .ok (.isub, 1) := by decide +kernel
theorem dX8_init_104 : decode cX8_init 104 = .ok (.iastore, 1) := by decide +kernel
theorem dX8_init_105 : decode cX8_init 105 = .ok (.aload_n 0, 1) := by decide +kernel
theorem dX8_init_106 : decode cX8_init 106 = .ok (.getfield 36, 3) := by decide +kernel
theorem dX8_init_109 : decode cX8_init 109 = .ok (.getfield 43, 3) := by decide +kernel
theorem dX8_init_112 : decode cX8_init 112 = .ok (.iload_n 1, 1) := by decide +kernel
theorem dX8_init_113 : decode cX8_init 113 = .ok (.iconst 5, 1) := by decide +kernel
theorem dX8_init_114 : decode cX8_init 114 = .ok (.iastore, 1) := by decide +kernel
theorem dX8_init_115 : decode cX8_init 115 = .ok (.iinc 1 1, 3) := by decide +kernel
theorem dX8_init_118 : decode cX8_init 118 = .ok (.goto (-32), 3) := by decide +kernel
theorem dX8_init_121 : decode cX8_init 121 = .ok (.return_, 1) := by decide +kernel
theorem dX8_thrown_0 : decode cX8_thrown 0 = .ok (.aload_n 0, 1) := by decide +kernel
theorem dX8_thrown_1 : decode cX8_thrown 1 = .ok (.getfield 46, 3) := by decide +kernel
theorem dX8_thrown_4 : decode cX8_thrown 4 = .ok (.ireturn, 1) := by decide +kernel
theorem dX8_no_0 : decode cX8_no 0 = .ok (.aload_n 0, 1) := by decide +kernel
theorem dX8_no_1 : decode cX8_no 1 = .ok (.iload_n 1, 1) := by decide +kernel
theorem dX8_no_2 : decode cX8_no 2 = .ok (.putfield 46, 3) := by decide +kernel
theorem dX8_no_5 : decode cX8_no 5 = .ok (.iconst 0, 1) := by decide +kernel
theorem dX8_no_6 : decode cX8_no 6 = .ok (.ireturn, 1) := by decide +kernel
theorem dX8_sum_0 : decode cX8_sum 0 = .ok (.iconst 0, 1) := by decide +kernel
theorem dX8_sum_1 : decode cX8_sum 1 = .ok (.istore_n 2, 1) := by decide +kernel
theorem dX8_sum_2 : decode cX8_sum 2 = .ok (.iconst 0, 1) := by decide +kernel
theorem dX8_sum_3 : decode cX8_sum 3 = .ok (.istore_n 3, 1) := by decide +kernel
theorem dX8_sum_4 : decode cX8_sum 4 = .ok (.iload_n 3, 1) := by decide +kernel
theorem dX8_sum_5 : decode cX8_sum 5 = .ok (.iload_n 1, 1) := by decide +kernel
theorem dX8_sum_6 : decode cX8_sum 6 = .ok (.if_icmp .ge 15, 3) := by decide +kernel
theorem dX8_sum_9 : decode cX8_sum 9 = .ok (.iload_n 2, 1) := by decide +kernel
theorem dX8_sum_10 : decode cX8_sum 10 = .ok (.aload_n 0, 1) := by decide +kernel
theorem dX8_sum_11 : decode cX8_sum 11 = .ok (.iload_n 3, 1) := by decide +kernel
theorem dX8_sum_12 : decode cX8_sum 12 = .ok (.iaload, 1) := by decide +kernel
theorem dX8_sum_13 : decode cX8_sum 13 = .ok (.iadd, 1) := by decide +kernel
theorem dX8_sum_14 : decode cX8_sum 14 = .ok (.istore_n 2, 1) := by decide +kernel
theorem dX8_sum_15 : decode cX8_sum 15 = .ok (.iinc 3 1, 3) := by decide +kernel
theorem dX8_sum_18 : decode cX8_sum 18 = .ok (.goto (-14), 3) := by decide +kernel
theorem dX8_sum_21 : decode cX8_sum 21 = .ok (.iload_n 2, 1) := by decide +kernel
theorem dX8_sum_22 : decode cX8_sum 22 = .ok (.ireturn, 1) := by decide +kernel
theorem dX8_isIn_0 : decode cX8_isIn 0 = .ok (.iload_n 0, 1) := by decide +kernel
theorem dX8_isIn_1 : decode cX8_isIn 1 = .ok (.iload_n 1, 1) := by decide +kernel
theorem dX8_isIn_2 : decode cX8_isIn 2 = .ok (.if_icmp .lt 12, 3) := by decide +kernel
theorem dX8_isIn_5 : decode cX8_isIn 5 = .ok (.iload_n 0, 1) := by decide +kernel
theorem dX8_isIn_6 : decode cX8_isIn 6 = .ok (.iload_n 2, 1) := by decide +kernel
theorem dX8_isIn_7 : decode cX8_isIn 7 = .ok (.if_icmp .gt 7, 3) := by decide +kernel
theorem dX8_isIn_10 : decode cX8_isIn 10 = .ok (.iconst 1, 1) := by decide +kernel
theorem dX8_isIn_11 : decode cX8_isIn 11 = .ok (.goto 4, 3) := by decide +kernel
theorem dX8_isIn_14 : decode cX8_isIn 14 = .ok (.iconst 0, 1) := by decide +kernel
theorem dX8_isIn_15 : decode cX8_isIn 15 = .ok (.ireturn, 1) := by decide +kernel
theorem dX8_isCell_0 : decode cX8_isCell 0 = .ok (.iload_n 0, 1) := by decide +kernel
theorem dX8_isCell_1 : decode cX8_isCell 1 = .ok (.iconst 0, 1) := by decide +kernel
theorem dX8_isCell_2 : decode cX8_isCell 2 = .ok (.bipush 9, 2) := by decide +kernel
theorem dX8_isCell_4 : decode cX8_isCell 4 = .ok (.invokestatic 50, 3) := by decide +kernel
theorem dX8_isCell_7 : decode cX8_isCell 7 = .ok (.ifCond .eq 17, 3) := by decide +kernel
theorem dX8_isCell_10 : decode cX8_isCell 10 = .ok (.iload_n 1, 1) := by decide +kernel
theorem dX8_isCell_11 : decode cX8_isCell 11 = .ok (.iconst 0, 1) := by decide +kernel
theorem dX8_isCell_12 : decode cX8_isCell 12 = .ok (.bipush 9, 2) := by decide +kernel
theorem dX8_isCell_14 : decode cX8_isCell 14 = .ok (.invokestatic 50, 3) := by decide +kernel
theorem dX8_isCell_17 : decode cX8_isCell 17 = .ok (.ifCond .eq 7, 3) := by decide +kernel
theorem dX8_isCell_20 : decode cX8_isCell 20 = .ok (.iconst 1, 1) := by decide +kernel
theorem dX8_isCell_21 : decode cX8_isCell 21 = .ok (.goto 4, 3) := by decide +kernel
theorem dX8_isCell_24 : decode cX8_isCell 24 = .ok (.iconst 0, 1) := by decide +kernel
theorem dX8_isCell_25 : decode cX8_isCell 25 = .ok (.ireturn, 1) := by decide +kernel
theorem dX8_isPeg_0 : decode cX8_isPeg 0 = .ok (.iload_n 1, 1) := by decide +kernel
theorem dX8_isPeg_1 : decode cX8_isPeg 1 = .ok (.iconst 0, 1) := by decide +kernel
theorem dX8_isPeg_2 : decode cX8_isPeg 2 = .ok (.aload_n 0, 1) := by decide +kernel
theorem dX8_isPeg_3 : decode cX8_isPeg 3 = .ok (.getfield 54, 3) := by decide +kernel
theorem dX8_isPeg_6 : decode cX8_isPeg 6 = .ok (.iconst 1, 1) := by decide +kernel
theorem dX8_isPeg_7 : decode cX8_isPeg 7 = .ok (.isub, 1) := by decide +kernel
theorem dX8_isPeg_8 : decode cX8_isPeg 8 = .ok (.invokestatic 50, 3) := by decide +kernel
theorem dX8_isPeg_11 : decode cX8_isPeg 11 = .ok (.ireturn, 1) := by decide +kernel
theorem dX8_isTent_0 : decode cX8_isTent 0 = .ok (.iload_n 1, 1) := by decide +kernel
theorem dX8_isTent_1 : decode cX8_isTent 1 = .ok (.iconst 0, 1) := by decide +kernel
theorem dX8_isTent_2 : decode cX8_isTent 2 = .ok (.aload_n 0, 1) := by decide +kernel
theorem dX8_isTent_3 : decode cX8_isTent 3 = .ok (.getfield 57, 3) := by decide +kernel
theorem dX8_isTent_6 : decode cX8_isTent 6 = .ok (.iconst 1, 1) := by decide +kernel
theorem dX8_isTent_7 : decode cX8_isTent 7 = .ok (.isub, 1) := by decide +kernel
theorem dX8_isTent_8 : decode cX8_isTent 8 = .ok (.invokestatic 50, 3) := by decide +kernel
theorem dX8_isTent_11 : decode cX8_isTent 11 = .ok (.ireturn, 1) := by decide +kernel
theorem dX8_isStorm_0 : decode cX8_isStorm 0 = .ok (.iload_n 0, 1) := by decide +kernel
theorem dX8_isStorm_1 : decode cX8_isStorm 1 = .ok (.iconst 0, 1) := by decide +kernel
theorem dX8_isStorm_2 : decode cX8_isStorm 2 = .ok (.bipush 9, 2) := by decide +kernel
theorem dX8_isStorm_4 : decode cX8_isStorm 4 = .ok (.invokestatic 50, 3) := by decide +kernel
theorem dX8_isStorm_7 : decode cX8_isStorm 7 = .ok (.ifCond .eq 16, 3) := by decide +kernel
theorem dX8_isStorm_10 : decode cX8_isStorm 10 = .ok (.iload_n 1, 1) := by decide +kernel
theorem dX8_isStorm_11 : decode cX8_isStorm 11 = .ok (.iconst 0, 1) := by decide +kernel
theorem dX8_isStorm_12 : decode cX8_isStorm 12 = .ok (.iconst 3, 1) := by decide +kernel
theorem dX8_isStorm_13 : decode cX8_isStorm 13 = .ok (.invokestatic 50, 3) := by decide +kernel
theorem dX8_isStorm_16 : decode cX8_isStorm 16 = .ok (.ifCond .eq 7, 3) := by decide +kernel
theorem dX8_isStorm_19 : decode cX8_isStorm 19 = .ok (.iconst 1, 1) := by decide +kernel
theorem dX8_isStorm_20 : decode cX8_isStorm 20 = .ok (.goto 4, 3) := by decide +kernel
theorem dX8_isStorm_23 : decode cX8_isStorm 23 = .ok (.iconst 0, 1) := by decide +kernel
theorem dX8_isStorm_24 : decode cX8_isStorm 24 = .ok (.ireturn, 1) := by decide +kernel
theorem dX8_isOnSide_0 : decode cX8_isOnSide 0 = .ok (.iload_n 2, 1) := by decide +kernel
theorem dX8_isOnSide_1 : decode cX8_isOnSide 1 = .ok (.ifCond .ne 20, 3) := by decide +kernel
theorem dX8_isOnSide_4 : decode cX8_isOnSide 4 = .ok (.iload_n 1, 1) := by decide +kernel
theorem dX8_isOnSide_5 : decode cX8_isOnSide 5 = .ok (.bipush 10, 2) := by decide +kernel
theorem dX8_isOnSide_7 : decode cX8_isOnSide 7 = .ok (.idiv, 1) := by decide +kernel
theorem dX8_isOnSide_8 : decode cX8_isOnSide 8 = .ok (.iload_n 0, 1) := by decide +kernel
theorem dX8_isOnSide_9 : decode cX8_isOnSide 9 = .ok (.bipush 10, 2) := by decide +kernel
theorem dX8_isOnSide_11 : decode cX8_isOnSide 11 = .ok (.idiv, 1) := by decide +kernel
theorem dX8_isOnSide_12 : decode cX8_isOnSide 12 = .ok (.if_icmp .ge 7, 3) := by decide +kernel
theorem dX8_isOnSide_15 : decode cX8_isOnSide 15 = .ok (.iconst 1, 1) := by decide +kernel
theorem dX8_isOnSide_16 : decode cX8_isOnSide 16 = .ok (.goto 4, 3) := by decide +kernel
theorem dX8_isOnSide_19 : decode cX8_isOnSide 19 = .ok (.iconst 0, 1) := by decide +kernel
theorem dX8_isOnSide_20 : decode cX8_isOnSide 20 = .ok (.ireturn, 1) := by decide +kernel
theorem dX8_isOnSide_21 : decode cX8_isOnSide 21 = .ok (.iload_n 2, 1) := by decide +kernel
theorem dX8_isOnSide_22 : decode cX8_isOnSide 22 = .ok (.iconst 1, 1) := by decide +kernel
theorem dX8_isOnSide_23 : decode cX8_isOnSide 23 = .ok (.if_icmp .ne 20, 3) := by decide +kernel
theorem dX8_isOnSide_26 : decode cX8_isOnSide 26 = .ok (.iload_n 1, 1) := by decide +kernel
theorem dX8_isOnSide_27 : decode cX8_isOnSide 27 = .ok (.bipush 10, 2) := by decide +kernel
theorem dX8_isOnSide_29 : decode cX8_isOnSide 29 = .ok (.irem, 1) := by decide +kernel
theorem dX8_isOnSide_30 : decode cX8_isOnSide 30 = .ok (.iload_n 0, 1) := by decide +kernel
theorem dX8_isOnSide_31 : decode cX8_isOnSide 31 = .ok (.bipush 10, 2) := by decide +kernel
theorem dX8_isOnSide_33 : decode cX8_isOnSide 33 = .ok (.irem, 1) := by decide +kernel
theorem dX8_isOnSide_34 : decode cX8_isOnSide 34 = .ok (.if_icmp .le 7, 3) := by decide +kernel
theorem dX8_isOnSide_37 : decode cX8_isOnSide 37 = .ok (.iconst 1, 1) := by decide +kernel
theorem dX8_isOnSide_38 : decode cX8_isOnSide 38 = .ok (.goto 4, 3) := by decide +kernel
theorem dX8_isOnSide_41 : decode cX8_isOnSide 41 = .ok (.iconst 0, 1) := by decide +kernel
theorem dX8_isOnSide_42 : decode cX8_isOnSide 42 = .ok (.ireturn, 1) := by decide +kernel
theorem dX8_isOnSide_43 : decode cX8_isOnSide 43 = .ok (.iload_n 2, 1) := by decide +kernel
theorem dX8_isOnSide_44 : decode cX8_isOnSide 44 = .ok (.iconst 2, 1) := by decide +kernel
theorem dX8_isOnSide_45 : decode cX8_isOnSide 45 = .ok (.if_icmp .ne 22, 3) := by decide +kernel
theorem dX8_isOnSide_48 : decode cX8_isOnSide 48 = .ok (.iload_n 1, 1) := by decide +kernel
theorem dX8_isOnSide_49 : decode cX8_isOnSide 49 = .ok (.bipush 10, 2) := by decide +kernel
theorem dX8_isOnSide_51 : decode cX8_isOnSide 51 = .ok (.idiv, 1) := by decide +kernel
theorem dX8_isOnSide_52 : decode cX8_isOnSide 52 = .ok (.iload_n 0, 1) := by decide +kernel
theorem dX8_isOnSide_53 : decode cX8_isOnSide 53 = .ok (.bipush 10, 2) := by decide +kernel
theorem dX8_isOnSide_55 : decode cX8_isOnSide 55 = .ok (.idiv, 1) := by decide +kernel
theorem dX8_isOnSide_56 : decode cX8_isOnSide 56 = .ok (.if_icmp .le 7, 3) := by decide +kernel
theorem dX8_isOnSide_59 : decode cX8_isOnSide 59 = .ok (.iconst 1, 1) := by decide +kernel
theorem dX8_isOnSide_60 : decode cX8_isOnSide 60 = .ok (.goto 23, 3) := by decide +kernel
theorem dX8_isOnSide_63 : decode cX8_isOnSide 63 = .ok (.iconst 0, 1) := by decide +kernel
theorem dX8_isOnSide_64 : decode cX8_isOnSide 64 = .ok (.goto 19, 3) := by decide +kernel
theorem dX8_isOnSide_67 : decode cX8_isOnSide 67 = .ok (.iload_n 1, 1) := by decide +kernel
theorem dX8_isOnSide_68 : decode cX8_isOnSide 68 = .ok (.bipush 10, 2) := by decide +kernel
theorem dX8_isOnSide_70 : decode cX8_isOnSide 70 = .ok (.irem, 1) := by decide +kernel
theorem dX8_isOnSide_71 : decode cX8_isOnSide 71 = .ok (.iload_n 0, 1) := by decide +kernel
theorem dX8_isOnSide_72 : decode cX8_isOnSide 72 = .ok (.bipush 10, 2) := by decide +kernel
theorem dX8_isOnSide_74 : decode cX8_isOnSide 74 = .ok (.irem, 1) := by decide +kernel
theorem dX8_isOnSide_75 : decode cX8_isOnSide 75 = .ok (.if_icmp .ge 7, 3) := by decide +kernel
theorem dX8_isOnSide_78 : decode cX8_isOnSide 78 = .ok (.iconst 1, 1) := by decide +kernel
theorem dX8_isOnSide_79 : decode cX8_isOnSide 79 = .ok (.goto 4, 3) := by decide +kernel
theorem dX8_isOnSide_82 : decode cX8_isOnSide 82 = .ok (.iconst 0, 1) := by decide +kernel
theorem dX8_isOnSide_83 : decode cX8_isOnSide 83 = .ok (.ireturn, 1) := by decide +kernel
theorem dX8_at_0 : decode cX8_at 0 = .ok (.iconst 0, 1) := by decide +kernel
theorem dX8_at_1 : decode cX8_at 1 = .ok (.istore_n 3, 1) := by decide +kernel
theorem dX8_at_2 : decode cX8_at 2 = .ok (.iload_n 3, 1) := by decide +kernel
theorem dX8_at_3 : decode cX8_at 3 = .ok (.iload_n 1, 1) := by decide +kernel
theorem dX8_at_4 : decode cX8_at 4 = .ok (.if_icmp .ge 18, 3) := by decide +kernel
theorem dX8_at_7 : decode cX8_at 7 = .ok (.aload_n 0, 1) := by decide +kernel
theorem dX8_at_8 : decode cX8_at 8 = .ok (.iload_n 3, 1) := by decide +kernel
theorem dX8_at_9 : decode cX8_at 9 = .ok (.iaload, 1) := by decide +kernel
theorem dX8_at_10 : decode cX8_at 10 = .ok (.iload_n 2, 1) := by decide +kernel
theorem dX8_at_11 : decode cX8_at 11 = .ok (.if_icmp .ne 5, 3) := by decide +kernel
theorem dX8_at_14 : decode cX8_at 14 = .ok (.iload_n 3, 1) := by decide +kernel
theorem dX8_at_15 : decode cX8_at 15 = .ok (.ireturn, 1) := by decide +kernel
theorem dX8_at_16 : decode cX8_at 16 = .ok (.iinc 3 1, 3) := by decide +kernel
theorem dX8_at_19 : decode cX8_at 19 = .ok (.goto (-17), 3) := by decide +kernel
theorem dX8_at_22 : decode cX8_at 22 = .ok (.iconst (-1), 1) := by decide +kernel
theorem dX8_at_23 : decode cX8_at 23 = .ok (.ireturn, 1) := by decide +kernel
theorem dX8_setGround_0 : decode cX8_setGround 0 = .ok (.aload_n 0, 1) := by decide +kernel
theorem dX8_setGround_1 : decode cX8_setGround 1 = .ok (.iconst 0, 1) := by decide +kernel
theorem dX8_setGround_2 : decode cX8_setGround 2 = .ok (.putfield 46, 3) := by decide +kernel
theorem dX8_setGround_5 : decode cX8_setGround 5 = .ok (.iload_n 1, 1) := by decide +kernel
theorem dX8_setGround_6 : decode cX8_setGround 6 = .ok (.iload_n 2, 1) := by decide +kernel
theorem dX8_setGround_7 : decode cX8_setGround 7 = .ok (.invokestatic 60, 3) := by decide +kernel
theorem dX8_setGround_10 : decode cX8_setGround 10 = .ok (.ifCond .ne 9, 3) := by decide +kernel
theorem dX8_setGround_13 : decode cX8_setGround 13 = .ok (.aload_n 0, 1) := by decide +kernel
theorem dX8_setGround_14 : decode cX8_setGround 14 = .ok (.iconst 1, 1) := by decide +kernel
theorem dX8_setGround_15 : decode cX8_setGround 15 = .ok (.invokevirtual 64, 3) := by decide +kernel
theorem dX8_setGround_18 : decode cX8_setGround 18 = .ok (.ireturn, 1) := by decide +kernel
theorem dX8_setGround_19 : decode cX8_setGround 19 = .ok (.iload_n 3, 1) := by decide +kernel
theorem dX8_setGround_20 : decode cX8_setGround 20 = .ok (.iconst 0, 1) := by decide +kernel
theorem dX8_setGround_21 : decode cX8_setGround 21 = .ok (.bipush 30, 2) := by decide +kernel
theorem dX8_setGround_23 : decode cX8_setGround 23 = .ok (.invokestatic 50, 3) := by decide +kernel
theorem dX8_setGround_26 : decode cX8_setGround 26 = .ok (.ifCond .eq 14, 3) := by decide +kernel
theorem dX8_setGround_29 : decode cX8_setGround 29 = .ok (.iload 4, 2) := by decide +kernel
theorem dX8_setGround_31 : decode cX8_setGround 31 = .ok (.iconst 1, 1) := by decide +kernel
theorem dX8_setGround_32 : decode cX8_setGround 32 = .ok (.bipush 9, 2) := by decide +kernel
theorem dX8_setGround_34 : decode cX8_setGround 34 = .ok (.invokestatic 50, 3) := by decide +kernel
theorem dX8_setGround_37 : decode cX8_setGround 37 = .ok (.ifCond .ne 9, 3) := by decide +kernel
theorem dX8_setGround_40 : decode cX8_setGround 40 = .ok (.aload_n 0, 1) := by decide +kernel
theorem dX8_setGround_41 : decode cX8_setGround 41 = .ok (.iconst 2, 1) := by decide +kernel
theorem dX8_setGround_42 : decode cX8_setGround 42 = .ok (.invokevirtual 64, 3) := by decide +kernel
theorem dX8_setGround_45 : decode cX8_setGround 45 = .ok (.ireturn, 1) := by decide +kernel
theorem dX8_setGround_46 : decode cX8_setGround 46 = .ok (.bipush 10, 2) := by decide +kernel
theorem dX8_setGround_48 : decode cX8_setGround 48 = .ok (.iload_n 2, 1) := by decide +kernel
theorem dX8_setGround_49 : decode cX8_setGround 49 = .ok (.imul, 1) := by decide +kernel
theorem dX8_setGround_50 : decode cX8_setGround 50 = .ok (.iload_n 1, 1) := by decide +kernel
theorem dX8_setGround_51 : decode cX8_setGround 51 = .ok (.iadd, 1) := by decide +kernel
theorem dX8_setGround_52 : decode cX8_setGround 52 = .ok (.istore 5, 2) := by decide +kernel
theorem dX8_setGround_54 : decode cX8_setGround 54 = .ok (.bipush 10, 2) := by decide +kernel
theorem dX8_setGround_56 : decode cX8_setGround 56 = .ok (.aload_n 0, 1) := by decide +kernel
theorem dX8_setGround_57 : decode cX8_setGround 57 = .ok (.getfield 9, 3) := by decide +kernel
theorem dX8_setGround_60 : decode cX8_setGround 60 = .ok (.iload 5, 2) := by decide +kernel
theorem dX8_setGround_62 : decode cX8_setGround 62 = .ok (.iaload, 1) := by decide +kernel
theorem dX8_setGround_63 : decode cX8_setGround 63 = .ok (.imul, 1) := by decide +kernel
theorem dX8_setGround_64 : decode cX8_setGround 64 = .ok (.aload_n 0, 1) := by decide +kernel
theorem dX8_setGround_65 : decode cX8_setGround 65 = .ok (.getfield 36, 3) := by decide +kernel
theorem dX8_setGround_68 : decode cX8_setGround 68 = .ok (.getfield 43, 3) := by decide +kernel
theorem dX8_setGround_71 : decode cX8_setGround 71 = .ok (.iload 5, 2) := by decide +kernel
theorem dX8_setGround_73 : decode cX8_setGround 73 = .ok (.iaload, 1) := by decide +kernel
theorem dX8_setGround_74 : decode cX8_setGround 74 = .ok (.iadd, 1) := by decide +kernel
theorem dX8_setGround_75 : decode cX8_setGround 75 = .ok (.istore 6, 2) := by decide +kernel
theorem dX8_setGround_77 : decode cX8_setGround 77 = .ok (.aload_n 0, 1) := by decide +kernel
theorem dX8_setGround_78 : decode cX8_setGround 78 = .ok (.getfield 9, 3) := by decide +kernel
theorem dX8_setGround_81 : decode cX8_setGround 81 = .ok (.iload 5, 2) := by decide +kernel
theorem dX8_setGround_83 : decode cX8_setGround 83 = .ok (.iload_n 3, 1) := by decide +kernel
theorem dX8_setGround_84 : decode cX8_setGround 84 = .ok (.iastore, 1) := by decide +kernel
theorem dX8_setGround_85 : decode cX8_setGround 85 = .ok (.aload_n 0, 1) := by decide +kernel
theorem dX8_setGround_86 : decode cX8_setGround 86 = .ok (.getfield 36, 3) := by decide +kernel
theorem dX8_setGround_89 : decode cX8_setGround 89 = .ok (.getfield 43, 3) := by decide +kernel
theorem dX8_setGround_92 : decode cX8_setGround 92 = .ok (.iload 5, 2) := by decide +kernel
theorem dX8_setGround_94 : decode cX8_setGround 94 = .ok (.iload 4, 2) := by decide +kernel
theorem dX8_setGround_96 : decode cX8_setGround 96 = .ok (.iastore, 1) := by decide +kernel
theorem dX8_setGround_97 : decode cX8_setGround 97 = .ok (.iload 6, 2) := by decide +kernel
theorem dX8_setGround_99 : decode cX8_setGround 99 = .ok (.ireturn, 1) := by decide +kernel
theorem dX8_ditch_0 : decode cX8_ditch 0 = .ok (.aload_n 0, 1) := by decide +kernel
theorem dX8_ditch_1 : decode cX8_ditch 1 = .ok (.iconst 0, 1) := by decide +kernel
theorem dX8_ditch_2 : decode cX8_ditch 2 = .ok (.putfield 46, 3) := by decide +kernel
theorem dX8_ditch_5 : decode cX8_ditch 5 = .ok (.iload_n 1, 1) := by decide +kernel
theorem dX8_ditch_6 : decode cX8_ditch 6 = .ok (.iload_n 2, 1) := by decide +kernel
theorem dX8_ditch_7 : decode cX8_ditch 7 = .ok (.invokestatic 60, 3) := by decide +kernel
theorem dX8_ditch_10 : decode cX8_ditch 10 = .ok (.ifCond .ne 17, 3) := by decide +kernel
theorem dX8_ditch_13 : decode cX8_ditch 13 = .ok (.aload_n 0, 1) := by decide +kernel
theorem dX8_ditch_14 : decode cX8_ditch 14 = .ok (.iconst 1, 1) := by decide +kernel
theorem dX8_ditch_15 : decode cX8_ditch 15 = .ok (.invokevirtual 64, 3) := by decide +kernel
theorem dX8_ditch_18 : decode cX8_ditch 18 = .ok (.ifCond .eq 7, 3) := by decide +kernel
theorem dX8_ditch_21 : decode cX8_ditch 21 = .ok (.iconst 1, 1) := by decide +kernel
theorem dX8_ditch_22 : decode cX8_ditch 22 = .ok (.goto 4, 3) := by decide +kernel
theorem dX8_ditch_25 : decode cX8_ditch 25 = .ok (.iconst 0, 1) := by decide +kernel
theorem dX8_ditch_26 : decode cX8_ditch 26 = .ok (.ireturn, 1) := by decide +kernel
theorem dX8_ditch_27 : decode cX8_ditch 27 = .ok (.bipush 10, 2) := by decide +kernel
theorem dX8_ditch_29 : decode cX8_ditch 29 = .ok (.iload_n 2, 1) := by decide +kernel
theorem dX8_ditch_30 : decode cX8_ditch 30 = .ok (.imul, 1) := by decide +kernel
theorem dX8_ditch_31 : decode cX8_ditch 31 = .ok (.iload_n 1, 1) := by decide +kernel
theorem dX8_ditch_32 : decode cX8_ditch 32 = .ok (.iadd, 1) := by decide +kernel
theorem dX8_ditch_33 : decode cX8_ditch 33 = .ok (.istore_n 3, 1) := by decide +kernel
theorem dX8_ditch_34 : decode cX8_ditch 34 = .ok (.aload_n 0, 1) := by decide +kernel
theorem dX8_ditch_35 : decode cX8_ditch 35 = .ok (.getfield 13, 3) := by decide +kernel
theorem dX8_ditch_38 : decode cX8_ditch 38 = .ok (.iload_n 3, 1) := by decide +kernel
theorem dX8_ditch_39 : decode cX8_ditch 39 = .ok (.iconst 1, 1) := by decide +kernel
theorem dX8_ditch_40 : decode cX8_ditch 40 = .ok (.aload_n 0, 1) := by decide +kernel
theorem dX8_ditch_41 : decode cX8_ditch 41 = .ok (.getfield 13, 3) := by decide +kernel
theorem dX8_ditch_44 : decode cX8_ditch 44 = .ok (.iload_n 3, 1) := by decide +kernel
theorem dX8_ditch_45 : decode cX8_ditch 45 = .ok (.iaload, 1) := by decide +kernel
theorem dX8_ditch_46 : decode cX8_ditch 46 = .ok (.isub, 1) := by decide +kernel
theorem dX8_ditch_47 : decode cX8_ditch 47 = .ok (.iastore, 1) := by decide +kernel
theorem dX8_ditch_48 : decode cX8_ditch 48 = .ok (.aload_n 0, 1) := by decide +kernel
theorem dX8_ditch_49 : decode cX8_ditch 49 = .ok (.getfield 13, 3) := by decide +kernel
theorem dX8_ditch_52 : decode cX8_ditch 52 = .ok (.iload_n 3, 1) := by decide +kernel
theorem dX8_ditch_53 : decode cX8_ditch 53 = .ok (.iaload, 1) := by decide +kernel
theorem dX8_ditch_54 : decode cX8_ditch 54 = .ok (.iconst 1, 1) := by decide +kernel
theorem dX8_ditch_55 : decode cX8_ditch 55 = .ok (.if_icmp .ne 7, 3) := by decide +kernel
theorem dX8_ditch_58 : decode cX8_ditch 58 = .ok (.iconst 1, 1) := by decide +kernel
theorem dX8_ditch_59 : decode cX8_ditch 59 = .ok (.goto 4, 3) := by decide +kernel
theorem dX8_ditch_62 : decode cX8_ditch 62 = .ok (.iconst 0, 1) := by decide +kernel
theorem dX8_ditch_63 : decode cX8_ditch 63 = .ok (.ireturn, 1) := by decide +kernel
theorem dX8_setNight_0 : decode cX8_setNight 0 = .ok (.aload_n 0, 1) := by decide +kernel
theorem dX8_setNight_1 : decode cX8_setNight 1 = .ok (.iconst 0, 1) := by decide +kernel
theorem dX8_setNight_2 : decode cX8_setNight 2 = .ok (.putfield 46, 3) := by decide +kernel
theorem dX8_setNight_5 : decode cX8_setNight 5 = .ok (.iload_n 1, 1) := by decide +kernel
theorem dX8_setNight_6 : decode cX8_setNight 6 = .ok (.iconst 0, 1) := by decide +kernel
theorem dX8_setNight_7 : decode cX8_setNight 7 = .ok (.bipush 6, 2) := by decide +kernel
theorem dX8_setNight_9 : decode cX8_setNight 9 = .ok (.invokestatic 50, 3) := by decide +kernel
theorem dX8_setNight_12 : decode cX8_setNight 12 = .ok (.ifCond .ne 9, 3) := by decide +kernel
theorem dX8_setNight_15 : decode cX8_setNight 15 = .ok (.aload_n 0, 1) := by decide +kernel
theorem dX8_setNight_16 : decode cX8_setNight 16 = .ok (.iconst 1, 1) := by decide +kernel
theorem dX8_setNight_17 : decode cX8_setNight 17 = .ok (.invokevirtual 64, 3) := by decide +kernel
theorem dX8_setNight_20 : decode cX8_setNight 20 = .ok (.ireturn, 1) := by decide +kernel
theorem dX8_setNight_21 : decode cX8_setNight 21 = .ok (.iload_n 2, 1) := by decide +kernel
theorem dX8_setNight_22 : decode cX8_setNight 22 = .ok (.iload_n 3, 1) := by decide +kernel
theorem dX8_setNight_23 : decode cX8_setNight 23 = .ok (.invokestatic 68, 3) := by decide +kernel
theorem dX8_setNight_26 : decode cX8_setNight 26 = .ok (.ifCond .eq 14, 3) := by decide +kernel
theorem dX8_setNight_29 : decode cX8_setNight 29 = .ok (.iload 4, 2) := by decide +kernel
theorem dX8_setNight_31 : decode cX8_setNight 31 = .ok (.iconst 0, 1) := by decide +kernel
theorem dX8_setNight_32 : decode cX8_setNight 32 = .ok (.bipush 9, 2) := by decide +kernel
theorem dX8_setNight_34 : decode cX8_setNight 34 = .ok (.invokestatic 50, 3) := by decide +kernel
theorem dX8_setNight_37 : decode cX8_setNight 37 = .ok (.ifCond .ne 9, 3) := by decide +kernel
theorem dX8_setNight_40 : decode cX8_setNight 40 = .ok (.aload_n 0, 1) := by decide +kernel
theorem dX8_setNight_41 : decode cX8_setNight 41 = .ok (.iconst 2, 1) := by decide +kernel
theorem dX8_setNight_42 : decode cX8_setNight 42 = .ok (.invokevirtual 64, 3) := by decide +kernel
theorem dX8_setNight_45 : decode cX8_setNight 45 = .ok (.ireturn, 1) := by decide +kernel
theorem dX8_setNight_46 : decode cX8_setNight 46 = .ok (.aload_n 0, 1) := by decide +kernel
theorem dX8_setNight_47 : decode cX8_setNight 47 = .ok (.getfield 16, 3) := by decide +kernel
theorem dX8_setNight_50 : decode cX8_setNight 50 = .ok (.iload_n 1, 1) := by decide +kernel
theorem dX8_setNight_51 : decode cX8_setNight 51 = .ok (.iaload, 1) := by decide +kernel
theorem dX8_setNight_52 : decode cX8_setNight 52 = .ok (.istore 5, 2) := by decide +kernel
theorem dX8_setNight_54 : decode cX8_setNight 54 = .ok (.aload_n 0, 1) := by decide +kernel
theorem dX8_setNight_55 : decode cX8_setNight 55 = .ok (.getfield 16, 3) := by decide +kernel
theorem dX8_setNight_58 : decode cX8_setNight 58 = .ok (.iload_n 1, 1) := by decide +kernel
theorem dX8_setNight_59 : decode cX8_setNight 59 = .ok (.bipush 100, 2) := by decide +kernel
theorem dX8_setNight_61 : decode cX8_setNight 61 = .ok (.iload_n 2, 1) := by decide +kernel
theorem dX8_setNight_62 : decode cX8_setNight 62 = .ok (.imul, 1) := by decide +kernel
theorem dX8_setNight_63 : decode cX8_setNight 63 = .ok (.bipush 10, 2) := by decide +kernel
theorem dX8_setNight_65 : decode cX8_setNight 65 = .ok (.iload_n 3, 1) := by decide +kernel
theorem dX8_setNight_66 : decode cX8_setNight 66 = .ok (.imul, 1) := by decide +kernel
theorem dX8_setNight_67 : decode cX8_setNight 67 = .ok (.iadd, 1) := by decide +kernel
theorem dX8_setNight_68 : decode cX8_setNight 68 = .ok (.iload 4, 2) := by decide +kernel
theorem dX8_setNight_70 : decode cX8_setNight 70 = .ok (.iadd, 1) := by decide +kernel
theorem dX8_setNight_71 : decode cX8_setNight 71 = .ok (.iastore, 1) := by decide +kernel
theorem dX8_setNight_72 : decode cX8_setNight 72 = .ok (.iload 5, 2) := by decide +kernel
theorem dX8_setNight_74 : decode cX8_setNight 74 = .ok (.ireturn, 1) := by decide +kernel
theorem dX8_drive_0 : decode cX8_drive 0 = .ok (.aload_n 0, 1) := by decide +kernel
theorem dX8_drive_1 : decode cX8_drive 1 = .ok (.iconst 0, 1) := by decide +kernel
theorem dX8_drive_2 : decode cX8_drive 2 = .ok (.putfield 46, 3) := by decide +kernel
theorem dX8_drive_5 : decode cX8_drive 5 = .ok (.iload_n 1, 1) := by decide +kernel
theorem dX8_drive_6 : decode cX8_drive 6 = .ok (.iload_n 2, 1) := by decide +kernel
theorem dX8_drive_7 : decode cX8_drive 7 = .ok (.invokestatic 60, 3) := by decide +kernel
theorem dX8_drive_10 : decode cX8_drive 10 = .ok (.ifCond .ne 9, 3) := by decide +kernel
theorem dX8_drive_13 : decode cX8_drive 13 = .ok (.aload_n 0, 1) := by decide +kernel
theorem dX8_drive_14 : decode cX8_drive 14 = .ok (.iconst 1, 1) := by decide +kernel
theorem dX8_drive_15 : decode cX8_drive 15 = .ok (.invokevirtual 64, 3) := by decide +kernel
theorem dX8_drive_18 : decode cX8_drive 18 = .ok (.ireturn, 1) := by decide +kernel
theorem dX8_drive_19 : decode cX8_drive 19 = .ok (.aload_n 0, 1) := by decide +kernel
theorem dX8_drive_20 : decode cX8_drive 20 = .ok (.getfield 54, 3) := by decide +kernel
theorem dX8_drive_23 : decode cX8_drive 23 = .ok (.bipush 16, 2) := by decide +kernel
theorem dX8_drive_25 : decode cX8_drive 25 = .ok (.if_icmp .eq 24, 3) := by decide +kernel
theorem dX8_drive_28 : decode cX8_drive 28 = .ok (.aload_n 0, 1) := by decide +kernel
theorem dX8_drive_29 : decode cX8_drive 29 = .ok (.getfield 19, 3) := by decide +kernel
theorem dX8_drive_32 : decode cX8_drive 32 = .ok (.aload_n 0, 1) := by decide +kernel
theorem dX8_drive_33 : decode cX8_drive 33 = .ok (.getfield 54, 3) := by decide +kernel
theorem dX8_drive_36 : decode cX8_drive 36 = .ok (.bipush 10, 2) := by decide +kernel
theorem dX8_drive_38 : decode cX8_drive 38 = .ok (.iload_n 2, 1) := by decide +kernel
theorem dX8_drive_39 : decode cX8_drive 39 = .ok (.imul, 1) := by decide +kernel
theorem dX8_drive_40 : decode cX8_drive 40 = .ok (.iload_n 1, 1) := by decide +kernel
theorem dX8_drive_41 : decode cX8_drive 41 = .ok (.iadd, 1) := by decide +kernel
theorem dX8_drive_42 : decode cX8_drive 42 = .ok (.invokestatic 71, 3) := by decide +kernel
theorem dX8_drive_45 : decode cX8_drive 45 = .ok (.iconst (-1), 1) := by decide +kernel
theorem dX8_drive_46 : decode cX8_drive 46 = .ok (.if_icmp .eq 9, 3) := by decide +kernel
theorem dX8_drive_49 : decode cX8_drive 49 = .ok (.aload_n 0, 1) := by decide +kernel
theorem dX8_drive_50 : decode cX8_drive 50 = .ok (.iconst 2, 1) := by decide +kernel
theorem dX8_drive_51 : decode cX8_drive 51 = .ok (.invokevirtual 64, 3) := by decide +kernel
theorem dX8_drive_54 : decode cX8_drive 54 = .ok (.ireturn, 1) := by decide +kernel
theorem dX8_drive_55 : decode cX8_drive 55 = .ok (.aload_n 0, 1) := by decide +kernel
theorem dX8_drive_56 : decode cX8_drive 56 = .ok (.getfield 19, 3) := by decide +kernel
theorem dX8_drive_59 : decode cX8_drive 59 = .ok (.aload_n 0, 1) := by decide +kernel
theorem dX8_drive_60 : decode cX8_drive 60 = .ok (.getfield 54, 3) := by decide +kernel
theorem dX8_drive_63 : decode cX8_drive 63 = .ok (.bipush 10, 2) := by decide +kernel
theorem dX8_drive_65 : decode cX8_drive 65 = .ok (.iload_n 2, 1) := by decide +kernel
theorem dX8_drive_66 : decode cX8_drive 66 = .ok (.imul, 1) := by decide +kernel
theorem dX8_drive_67 : decode cX8_drive 67 = .ok (.iload_n 1, 1) := by decide +kernel
theorem dX8_drive_68 : decode cX8_drive 68 = .ok (.iadd, 1) := by decide +kernel
theorem dX8_drive_69 : decode cX8_drive 69 = .ok (.iastore, 1) := by decide +kernel
theorem dX8_drive_70 : decode cX8_drive 70 = .ok (.aload_n 0, 1) := by decide +kernel
theorem dX8_drive_71 : decode cX8_drive 71 = .ok (.getfield 36, 3) := by decide +kernel
theorem dX8_drive_74 : decode cX8_drive 74 = .ok (.getfield 75, 3) := by decide +kernel
theorem dX8_drive_77 : decode cX8_drive 77 = .ok (.aload_n 0, 1) := by decide +kernel
theorem dX8_drive_78 : decode cX8_drive 78 = .ok (.getfield 54, 3) := by decide +kernel
theorem dX8_drive_81 : decode cX8_drive 81 = .ok (.iconst 1, 1) := by decide +kernel
theorem dX8_drive_82 : decode cX8_drive 82 = .ok (.iastore, 1) := by decide +kernel
theorem dX8_drive_83 : decode cX8_drive 83 = .ok (.aload_n 0, 1) := by decide +kernel
theorem dX8_drive_84 : decode cX8_drive 84 = .ok (.dup, 1) := by decide +kernel
theorem dX8_drive_85 : decode cX8_drive 85 = .ok (.getfield 54, 3) := by decide +kernel
theorem dX8_drive_88 : decode cX8_drive 88 = .ok (.iconst 1, 1) := by decide +kernel
theorem dX8_drive_89 : decode cX8_drive 89 = .ok (.iadd, 1) := by decide +kernel
theorem dX8_drive_90 : decode cX8_drive 90 = .ok (.putfield 54, 3) := by decide +kernel
theorem dX8_drive_93 : decode cX8_drive 93 = .ok (.aload_n 0, 1) := by decide +kernel
theorem dX8_drive_94 : decode cX8_drive 94 = .ok (.getfield 54, 3) := by decide +kernel
theorem dX8_drive_97 : decode cX8_drive 97 = .ok (.iconst 1, 1) := by decide +kernel
theorem dX8_drive_98 : decode cX8_drive 98 = .ok (.isub, 1) := by decide +kernel
theorem dX8_drive_99 : decode cX8_drive 99 = .ok (.ireturn, 1) := by decide +kernel
theorem dX8_again_0 : decode cX8_again 0 = .ok (.aload_n 0, 1) := by decide +kernel
theorem dX8_again_1 : decode cX8_again 1 = .ok (.iconst 0, 1) := by decide +kernel
theorem dX8_again_2 : decode cX8_again 2 = .ok (.putfield 46, 3) := by decide +kernel
theorem dX8_again_5 : decode cX8_again 5 = .ok (.aload_n 0, 1) := by decide +kernel
theorem dX8_again_6 : decode cX8_again 6 = .ok (.iload_n 1, 1) := by decide +kernel
theorem dX8_again_7 : decode cX8_again 7 = .ok (.invokevirtual 77, 3) := by decide +kernel
theorem dX8_again_10 : decode cX8_again 10 = .ok (.ifCond .ne 9, 3) := by decide +kernel
theorem dX8_again_13 : decode cX8_again 13 = .ok (.aload_n 0, 1) := by decide +kernel
theorem dX8_again_14 : decode cX8_again 14 = .ok (.iconst 1, 1) := by decide +kernel
theorem dX8_again_15 : decode cX8_again 15 = .ok (.invokevirtual 64, 3) := by decide +kernel
theorem dX8_again_18 : decode cX8_again 18 = .ok (.ireturn, 1) := by decide +kernel
theorem dX8_again_19 : decode cX8_again 19 = .ok (.aload_n 0, 1) := by decide +kernel
theorem dX8_again_20 : decode cX8_again 20 = .ok (.getfield 36, 3) := by decide +kernel
theorem dX8_again_23 : decode cX8_again 23 = .ok (.getfield 75, 3) := by decide +kernel
theorem dX8_again_26 : decode cX8_again 26 = .ok (.iload_n 1, 1) := by decide +kernel
theorem dX8_again_27 : decode cX8_again 27 = .ok (.iaload, 1) := by decide +kernel
theorem dX8_again_28 : decode cX8_again 28 = .ok (.iconst 1, 1) := by decide +kernel
theorem dX8_again_29 : decode cX8_again 29 = .ok (.if_icmp .ne 9, 3) := by decide +kernel
theorem dX8_again_32 : decode cX8_again 32 = .ok (.aload_n 0, 1) := by decide +kernel
theorem dX8_again_33 : decode cX8_again 33 = .ok (.iconst 2, 1) := by decide +kernel
theorem dX8_again_34 : decode cX8_again 34 = .ok (.invokevirtual 64, 3) := by decide +kernel
theorem dX8_again_37 : decode cX8_again 37 = .ok (.ireturn, 1) := by decide +kernel
theorem dX8_again_38 : decode cX8_again 38 = .ok (.aload_n 0, 1) := by decide +kernel
theorem dX8_again_39 : decode cX8_again 39 = .ok (.getfield 36, 3) := by decide +kernel
theorem dX8_again_42 : decode cX8_again 42 = .ok (.getfield 75, 3) := by decide +kernel
theorem dX8_again_45 : decode cX8_again 45 = .ok (.iload_n 1, 1) := by decide +kernel
theorem dX8_again_46 : decode cX8_again 46 = .ok (.iconst 1, 1) := by decide +kernel
theorem dX8_again_47 : decode cX8_again 47 = .ok (.iastore, 1) := by decide +kernel
theorem dX8_again_48 : decode cX8_again 48 = .ok (.aload_n 0, 1) := by decide +kernel
theorem dX8_again_49 : decode cX8_again 49 = .ok (.getfield 36, 3) := by decide +kernel
theorem dX8_again_52 : decode cX8_again 52 = .ok (.iload_n 1, 1) := by decide +kernel
theorem dX8_again_53 : decode cX8_again 53 = .ok (.invokevirtual 81, 3) := by decide +kernel
theorem dX8_again_56 : decode cX8_again 56 = .ok (.ireturn, 1) := by decide +kernel
theorem dX8_pitch_0 : decode cX8_pitch 0 = .ok (.aload_n 0, 1) := by decide +kernel
theorem dX8_pitch_1 : decode cX8_pitch 1 = .ok (.iconst 0, 1) := by decide +kernel
theorem dX8_pitch_2 : decode cX8_pitch 2 = .ok (.putfield 46, 3) := by decide +kernel
theorem dX8_pitch_5 : decode cX8_pitch 5 = .ok (.iload_n 1, 1) := by decide +kernel
theorem dX8_pitch_6 : decode cX8_pitch 6 = .ok (.iload_n 2, 1) := by decide +kernel
theorem dX8_pitch_7 : decode cX8_pitch 7 = .ok (.invokestatic 60, 3) := by decide +kernel
theorem dX8_pitch_10 : decode cX8_pitch 10 = .ok (.ifCond .ne 9, 3) := by decide +kernel
theorem dX8_pitch_13 : decode cX8_pitch 13 = .ok (.aload_n 0, 1) := by decide +kernel
theorem dX8_pitch_14 : decode cX8_pitch 14 = .ok (.iconst 1, 1) := by decide +kernel
theorem dX8_pitch_15 : decode cX8_pitch 15 = .ok (.invokevirtual 64, 3) := by decide +kernel
theorem dX8_pitch_18 : decode cX8_pitch 18 = .ok (.ireturn, 1) := by decide +kernel
theorem dX8_pitch_19 : decode cX8_pitch 19 = .ok (.iload_n 3, 1) := by decide +kernel
theorem dX8_pitch_20 : decode cX8_pitch 20 = .ok (.iconst 1, 1) := by decide +kernel
theorem dX8_pitch_21 : decode cX8_pitch 21 = .ok (.bipush 9, 2) := by decide +kernel
theorem dX8_pitch_23 : decode cX8_pitch 23 = .ok (.invokestatic 50, 3) := by decide +kernel
theorem dX8_pitch_26 : decode cX8_pitch 26 = .ok (.ifCond .ne 9, 3) := by decide +kernel
theorem dX8_pitch_29 : decode cX8_pitch 29 = .ok (.aload_n 0, 1) := by decide +kernel
theorem dX8_pitch_30 : decode cX8_pitch 30 = .ok (.iconst 2, 1) := by decide +kernel
theorem dX8_pitch_31 : decode cX8_pitch 31 = .ok (.invokevirtual 64, 3) := by decide +kernel
theorem dX8_pitch_34 : decode cX8_pitch 34 = .ok (.ireturn, 1) := by decide +kernel
theorem dX8_pitch_35 : decode cX8_pitch 35 = .ok (.aload_n 0, 1) := by decide +kernel
theorem dX8_pitch_36 : decode cX8_pitch 36 = .ok (.getfield 57, 3) := by decide +kernel
theorem dX8_pitch_39 : decode cX8_pitch 39 = .ok (.bipush 8, 2) := by decide +kernel
theorem dX8_pitch_41 : decode cX8_pitch 41 = .ok (.if_icmp .eq 24, 3) := by decide +kernel
theorem dX8_pitch_44 : decode cX8_pitch 44 = .ok (.aload_n 0, 1) := by decide +kernel
theorem dX8_pitch_45 : decode cX8_pitch 45 = .ok (.getfield 22, 3) := by decide +kernel
theorem dX8_pitch_48 : decode cX8_pitch 48 = .ok (.aload_n 0, 1) := by decide +kernel
theorem dX8_pitch_49 : decode cX8_pitch 49 = .ok (.getfield 57, 3) := by decide +kernel
theorem dX8_pitch_52 : decode cX8_pitch 52 = .ok (.bipush 10, 2) := by decide +kernel
theorem dX8_pitch_54 : decode cX8_pitch 54 = .ok (.iload_n 2, 1) := by decide +kernel
theorem dX8_pitch_55 : decode cX8_pitch 55 = .ok (.imul, 1) := by decide +kernel
theorem dX8_pitch_56 : decode cX8_pitch 56 = .ok (.iload_n 1, 1) := by decide +kernel
theorem dX8_pitch_57 : decode cX8_pitch 57 = .ok (.iadd, 1) := by decide +kernel
theorem dX8_pitch_58 : decode cX8_pitch 58 = .ok (.invokestatic 71, 3) := by decide +kernel
theorem dX8_pitch_61 : decode cX8_pitch 61 = .ok (.iconst (-1), 1) := by decide +kernel
theorem dX8_pitch_62 : decode cX8_pitch 62 = .ok (.if_icmp .eq 9, 3) := by decide +kernel
theorem dX8_pitch_65 : decode cX8_pitch 65 = .ok (.aload_n 0, 1) := by decide +kernel
theorem dX8_pitch_66 : decode cX8_pitch 66 = .ok (.iconst 3, 1) := by decide +kernel
theorem dX8_pitch_67 : decode cX8_pitch 67 = .ok (.invokevirtual 64, 3) := by decide +kernel
theorem dX8_pitch_70 : decode cX8_pitch 70 = .ok (.ireturn, 1) := by decide +kernel
theorem dX8_pitch_71 : decode cX8_pitch 71 = .ok (.aload_n 0, 1) := by decide +kernel
theorem dX8_pitch_72 : decode cX8_pitch 72 = .ok (.getfield 22, 3) := by decide +kernel
theorem dX8_pitch_75 : decode cX8_pitch 75 = .ok (.aload_n 0, 1) := by decide +kernel
theorem dX8_pitch_76 : decode cX8_pitch 76 = .ok (.getfield 57, 3) := by decide +kernel
theorem dX8_pitch_79 : decode cX8_pitch 79 = .ok (.bipush 10, 2) := by decide +kernel
theorem dX8_pitch_81 : decode cX8_pitch 81 = .ok (.iload_n 2, 1) := by decide +kernel
theorem dX8_pitch_82 : decode cX8_pitch 82 = .ok (.imul, 1) := by decide +kernel
theorem dX8_pitch_83 : decode cX8_pitch 83 = .ok (.iload_n 1, 1) := by decide +kernel
theorem dX8_pitch_84 : decode cX8_pitch 84 = .ok (.iadd, 1) := by decide +kernel
theorem dX8_pitch_85 : decode cX8_pitch 85 = .ok (.iastore, 1) := by decide +kernel
theorem dX8_pitch_86 : decode cX8_pitch 86 = .ok (.aload_n 0, 1) := by decide +kernel
theorem dX8_pitch_87 : decode cX8_pitch 87 = .ok (.getfield 25, 3) := by decide +kernel
theorem dX8_pitch_90 : decode cX8_pitch 90 = .ok (.aload_n 0, 1) := by decide +kernel
theorem dX8_pitch_91 : decode cX8_pitch 91 = .ok (.getfield 57, 3) := by decide +kernel
theorem dX8_pitch_94 : decode cX8_pitch 94 = .ok (.iload_n 3, 1) := by decide +kernel
theorem dX8_pitch_95 : decode cX8_pitch 95 = .ok (.iastore, 1) := by decide +kernel
theorem dX8_pitch_96 : decode cX8_pitch 96 = .ok (.aload_n 0, 1) := by decide +kernel
theorem dX8_pitch_97 : decode cX8_pitch 97 = .ok (.getfield 36, 3) := by decide +kernel
theorem dX8_pitch_100 : decode cX8_pitch 100 = .ok (.getfield 84, 3) := by decide +kernel
theorem dX8_pitch_103 : decode cX8_pitch 103 = .ok (.aload_n 0, 1) := by decide +kernel
theorem dX8_pitch_104 : decode cX8_pitch 104 = .ok (.getfield 57, 3) := by decide +kernel
theorem dX8_pitch_107 : decode cX8_pitch 107 = .ok (.iconst 1, 1) := by decide +kernel
theorem dX8_pitch_108 : decode cX8_pitch 108 = .ok (.iastore, 1) := by decide +kernel
theorem dX8_pitch_109 : decode cX8_pitch 109 = .ok (.aload_n 0, 1) := by decide +kernel
theorem dX8_pitch_110 : decode cX8_pitch 110 = .ok (.dup, 1) := by decide +kernel
theorem dX8_pitch_111 : decode cX8_pitch 111 = .ok (.getfield 57, 3) := by decide +kernel
theorem dX8_pitch_114 : decode cX8_pitch 114 = .ok (.iconst 1, 1) := by decide +kernel
theorem dX8_pitch_115 : decode cX8_pitch 115 = .ok (.iadd, 1) := by decide +kernel
theorem dX8_pitch_116 : decode cX8_pitch 116 = .ok (.putfield 57, 3) := by decide +kernel
theorem dX8_pitch_119 : decode cX8_pitch 119 = .ok (.aload_n 0, 1) := by decide +kernel
theorem dX8_pitch_120 : decode cX8_pitch 120 = .ok (.getfield 57, 3) := by decide +kernel
theorem dX8_pitch_123 : decode cX8_pitch 123 = .ok (.iconst 1, 1) := by decide +kernel
theorem dX8_pitch_124 : decode cX8_pitch 124 = .ok (.isub, 1) := by decide +kernel
theorem dX8_pitch_125 : decode cX8_pitch 125 = .ok (.ireturn, 1) := by decide +kernel
theorem dX8_ropesIn_0 : decode cX8_ropesIn 0 = .ok (.iconst 0, 1) := by decide +kernel
theorem dX8_ropesIn_1 : decode cX8_ropesIn 1 = .ok (.istore_n 2, 1) := by decide +kernel
theorem dX8_ropesIn_2 : decode cX8_ropesIn 2 = .ok (.iconst 0, 1) := by decide +kernel
theorem dX8_ropesIn_3 : decode cX8_ropesIn 3 = .ok (.istore_n 3, 1) := by decide +kernel
theorem dX8_ropesIn_4 : decode cX8_ropesIn 4 = .ok (.iload_n 3, 1) := by decide +kernel
theorem dX8_ropesIn_5 : decode cX8_ropesIn 5 = .ok (.aload_n 0, 1) := by decide +kernel
theorem dX8_ropesIn_6 : decode cX8_ropesIn 6 = .ok (.getfield 54, 3) := by decide +kernel
theorem dX8_ropesIn_9 : decode cX8_ropesIn 9 = .ok (.if_icmp .ge 42, 3) := by decide +kernel
theorem dX8_ropesIn_12 : decode cX8_ropesIn 12 = .ok (.iload_n 2, 1) := by decide +kernel
theorem dX8_ropesIn_13 : decode cX8_ropesIn 13 = .ok (.aload_n 0, 1) := by decide +kernel
theorem dX8_ropesIn_14 : decode cX8_ropesIn 14 = .ok (.getfield 36, 3) := by decide +kernel
theorem dX8_ropesIn_17 : decode cX8_ropesIn 17 = .ok (.iload_n 1, 1) := by decide +kernel
theorem dX8_ropesIn_18 : decode cX8_ropesIn 18 = .ok (.iload_n 3, 1) := by decide +kernel
theorem dX8_ropesIn_19 : decode cX8_ropesIn 19 = .ok (.invokevirtual 87, 3) := by decide +kernel
theorem dX8_ropesIn_22 : decode cX8_ropesIn 22 = .ok (.ifCond .eq 20, 3) := by decide +kernel
theorem dX8_ropesIn_25 : decode cX8_ropesIn 25 = .ok (.aload_n 0, 1) := by decide +kernel
theorem dX8_ropesIn_26 : decode cX8_ropesIn 26 = .ok (.getfield 36, 3) := by decide +kernel
theorem dX8_ropesIn_29 : decode cX8_ropesIn 29 = .ok (.getfield 75, 3) := by decide +kernel
theorem dX8_ropesIn_32 : decode cX8_ropesIn 32 = .ok (.iload_n 3, 1) := by decide +kernel
theorem dX8_ropesIn_33 : decode cX8_ropesIn 33 = .ok (.iaload, 1) := by decide +kernel
theorem dX8_ropesIn_34 : decode cX8_ropesIn 34 = .ok (.iconst 1, 1) := by decide +kernel
theorem dX8_ropesIn_35 : decode cX8_ropesIn 35 = .ok (.if_icmp .ne 7, 3) := by decide +kernel
theorem dX8_ropesIn_38 : decode cX8_ropesIn 38 = .ok (.iconst 1, 1) := by decide +kernel
theorem dX8_ropesIn_39 : decode cX8_ropesIn 39 = .ok (.goto 4, 3) := by decide +kernel
theorem dX8_ropesIn_42 : decode cX8_ropesIn 42 = .ok (.iconst 0, 1) := by decide +kernel
theorem dX8_ropesIn_43 : decode cX8_ropesIn 43 = .ok (.iadd, 1) := by decide +kernel
theorem dX8_ropesIn_44 : decode cX8_ropesIn 44 = .ok (.istore_n 2, 1) := by decide +kernel
theorem dX8_ropesIn_45 : decode cX8_ropesIn 45 = .ok (.iinc 3 1, 3) := by decide +kernel
theorem dX8_ropesIn_48 : decode cX8_ropesIn 48 = .ok (.goto (-44), 3) := by decide +kernel
theorem dX8_ropesIn_51 : decode cX8_ropesIn 51 = .ok (.iload_n 2, 1) := by decide +kernel
theorem dX8_ropesIn_52 : decode cX8_ropesIn 52 = .ok (.ireturn, 1) := by decide +kernel
theorem dX8_raise_0 : decode cX8_raise 0 = .ok (.aload_n 0, 1) := by decide +kernel
theorem dX8_raise_1 : decode cX8_raise 1 = .ok (.iconst 0, 1) := by decide +kernel
theorem dX8_raise_2 : decode cX8_raise 2 = .ok (.putfield 46, 3) := by decide +kernel
theorem dX8_raise_5 : decode cX8_raise 5 = .ok (.aload_n 0, 1) := by decide +kernel
theorem dX8_raise_6 : decode cX8_raise 6 = .ok (.iload_n 1, 1) := by decide +kernel
theorem dX8_raise_7 : decode cX8_raise 7 = .ok (.invokevirtual 90, 3) := by decide +kernel
theorem dX8_raise_10 : decode cX8_raise 10 = .ok (.ifCond .ne 9, 3) := by decide +kernel
theorem dX8_raise_13 : decode cX8_raise 13 = .ok (.aload_n 0, 1) := by decide +kernel
theorem dX8_raise_14 : decode cX8_raise 14 = .ok (.iconst 1, 1) := by decide +kernel
theorem dX8_raise_15 : decode cX8_raise 15 = .ok (.invokevirtual 64, 3) := by decide +kernel
theorem dX8_raise_18 : decode cX8_raise 18 = .ok (.ireturn, 1) := by decide +kernel
theorem dX8_raise_19 : decode cX8_raise 19 = .ok (.aload_n 0, 1) := by decide +kernel
theorem dX8_raise_20 : decode cX8_raise 20 = .ok (.getfield 36, 3) := by decide +kernel
theorem dX8_raise_23 : decode cX8_raise 23 = .ok (.getfield 84, 3) := by decide +kernel
theorem dX8_raise_26 : decode cX8_raise 26 = .ok (.iload_n 1, 1) := by decide +kernel
theorem dX8_raise_27 : decode cX8_raise 27 = .ok (.iaload, 1) := by decide +kernel
theorem dX8_raise_28 : decode cX8_raise 28 = .ok (.iconst 1, 1) := by decide +kernel
theorem dX8_raise_29 : decode cX8_raise 29 = .ok (.if_icmp .ne 9, 3) := by decide +kernel
theorem dX8_raise_32 : decode cX8_raise 32 = .ok (.aload_n 0, 1) := by decide +kernel
theorem dX8_raise_33 : decode cX8_raise 33 = .ok (.iconst 2, 1) := by decide +kernel
theorem dX8_raise_34 : decode cX8_raise 34 = .ok (.invokevirtual 64, 3) := by decide +kernel
theorem dX8_raise_37 : decode cX8_raise 37 = .ok (.ireturn, 1) := by decide +kernel
theorem dX8_raise_38 : decode cX8_raise 38 = .ok (.aload_n 0, 1) := by decide +kernel
theorem dX8_raise_39 : decode cX8_raise 39 = .ok (.getfield 36, 3) := by decide +kernel
theorem dX8_raise_42 : decode cX8_raise 42 = .ok (.getfield 84, 3) := by decide +kernel
theorem dX8_raise_45 : decode cX8_raise 45 = .ok (.iload_n 1, 1) := by decide +kernel
theorem dX8_raise_46 : decode cX8_raise 46 = .ok (.iconst 1, 1) := by decide +kernel
theorem dX8_raise_47 : decode cX8_raise 47 = .ok (.iastore, 1) := by decide +kernel
theorem dX8_raise_48 : decode cX8_raise 48 = .ok (.aload_n 0, 1) := by decide +kernel
theorem dX8_raise_49 : decode cX8_raise 49 = .ok (.getfield 36, 3) := by decide +kernel
theorem dX8_raise_52 : decode cX8_raise 52 = .ok (.getfield 93, 3) := by decide +kernel
theorem dX8_raise_55 : decode cX8_raise 55 = .ok (.iload_n 1, 1) := by decide +kernel
theorem dX8_raise_56 : decode cX8_raise 56 = .ok (.iconst 0, 1) := by decide +kernel
theorem dX8_raise_57 : decode cX8_raise 57 = .ok (.iastore, 1) := by decide +kernel
theorem dX8_raise_58 : decode cX8_raise 58 = .ok (.aload_n 0, 1) := by decide +kernel
theorem dX8_raise_59 : decode cX8_raise 59 = .ok (.iload_n 1, 1) := by decide +kernel
theorem dX8_raise_60 : decode cX8_raise 60 = .ok (.invokevirtual 96, 3) := by decide +kernel
theorem dX8_raise_63 : decode cX8_raise 63 = .ok (.ireturn, 1) := by decide +kernel
theorem dX8_tie_0 : decode cX8_tie 0 = .ok (.aload_n 0, 1) := by decide +kernel
theorem dX8_tie_1 : decode cX8_tie 1 = .ok (.iconst 0, 1) := by decide +kernel
theorem dX8_tie_2 : decode cX8_tie 2 = .ok (.putfield 46, 3) := by decide +kernel
theorem dX8_tie_5 : decode cX8_tie 5 = .ok (.aload_n 0, 1) := by decide +kernel
theorem dX8_tie_6 : decode cX8_tie 6 = .ok (.iload_n 1, 1) := by decide +kernel
theorem dX8_tie_7 : decode cX8_tie 7 = .ok (.invokevirtual 90, 3) := by decide +kernel
theorem dX8_tie_10 : decode cX8_tie 10 = .ok (.ifCond .eq 11, 3) := by decide +kernel
theorem dX8_tie_13 : decode cX8_tie 13 = .ok (.aload_n 0, 1) := by decide +kernel
theorem dX8_tie_14 : decode cX8_tie 14 = .ok (.iload_n 2, 1) := by decide +kernel
theorem dX8_tie_15 : decode cX8_tie 15 = .ok (.invokevirtual 77, 3) := by decide +kernel
theorem dX8_tie_18 : decode cX8_tie 18 = .ok (.ifCond .ne 9, 3) := by decide +kernel
theorem dX8_tie_21 : decode cX8_tie 21 = .ok (.aload_n 0, 1) := by decide +kernel
theorem dX8_tie_22 : decode cX8_tie 22 = .ok (.iconst 1, 1) := by decide +kernel
theorem dX8_tie_23 : decode cX8_tie 23 = .ok (.invokevirtual 64, 3) := by decide +kernel
theorem dX8_tie_26 : decode cX8_tie 26 = .ok (.ireturn, 1) := by decide +kernel
theorem dX8_tie_27 : decode cX8_tie 27 = .ok (.aload_n 0, 1) := by decide +kernel
theorem dX8_tie_28 : decode cX8_tie 28 = .ok (.getfield 36, 3) := by decide +kernel
theorem dX8_tie_31 : decode cX8_tie 31 = .ok (.iload_n 1, 1) := by decide +kernel
theorem dX8_tie_32 : decode cX8_tie 32 = .ok (.iload_n 2, 1) := by decide +kernel
theorem dX8_tie_33 : decode cX8_tie 33 = .ok (.invokevirtual 87, 3) := by decide +kernel
theorem dX8_tie_36 : decode cX8_tie 36 = .ok (.ifCond .ne 26, 3) := by decide +kernel
theorem dX8_tie_39 : decode cX8_tie 39 = .ok (.aload_n 0, 1) := by decide +kernel
theorem dX8_tie_40 : decode cX8_tie 40 = .ok (.getfield 36, 3) := by decide +kernel
theorem dX8_tie_43 : decode cX8_tie 43 = .ok (.getfield 99, 3) := by decide +kernel
theorem dX8_tie_46 : decode cX8_tie 46 = .ok (.iload_n 1, 1) := by decide +kernel
theorem dX8_tie_47 : decode cX8_tie 47 = .ok (.iaload, 1) := by decide +kernel
theorem dX8_tie_48 : decode cX8_tie 48 = .ok (.invokestatic 102, 3) := by decide +kernel
theorem dX8_tie_51 : decode cX8_tie 51 = .ok (.bipush 6, 2) := by decide +kernel
theorem dX8_tie_53 : decode cX8_tie 53 = .ok (.if_icmp .ne 9, 3) := by decide +kernel
theorem dX8_tie_56 : decode cX8_tie 56 = .ok (.aload_n 0, 1) := by decide +kernel
theorem dX8_tie_57 : decode cX8_tie 57 = .ok (.iconst 2, 1) := by decide +kernel
theorem dX8_tie_58 : decode cX8_tie 58 = .ok (.invokevirtual 64, 3) := by decide +kernel
theorem dX8_tie_61 : decode cX8_tie 61 = .ok (.ireturn, 1) := by decide +kernel
theorem dX8_tie_62 : decode cX8_tie 62 = .ok (.aload_n 0, 1) := by decide +kernel
theorem dX8_tie_63 : decode cX8_tie 63 = .ok (.getfield 36, 3) := by decide +kernel
theorem dX8_tie_66 : decode cX8_tie 66 = .ok (.getfield 99, 3) := by decide +kernel
theorem dX8_tie_69 : decode cX8_tie 69 = .ok (.iload_n 1, 1) := by decide +kernel
theorem dX8_tie_70 : decode cX8_tie 70 = .ok (.dup2, 1) := by decide +kernel
theorem dX8_tie_71 : decode cX8_tie 71 = .ok (.iaload, 1) := by decide +kernel
theorem dX8_tie_72 : decode cX8_tie 72 = .ok (.iconst 1, 1) := by decide +kernel
theorem dX8_tie_73 : decode cX8_tie 73 = .ok (.iload_n 2, 1) := by decide +kernel
theorem dX8_tie_74 : decode cX8_tie 74 = .ok (.ishl, 1) := by decide +kernel
theorem dX8_tie_75 : decode cX8_tie 75 = .ok (.ixor, 1) := by decide +kernel
theorem dX8_tie_76 : decode cX8_tie 76 = .ok (.iastore, 1) := by decide +kernel
theorem dX8_tie_77 : decode cX8_tie 77 = .ok (.aload_n 0, 1) := by decide +kernel
theorem dX8_tie_78 : decode cX8_tie 78 = .ok (.getfield 36, 3) := by decide +kernel
theorem dX8_tie_81 : decode cX8_tie 81 = .ok (.getfield 99, 3) := by decide +kernel
theorem dX8_tie_84 : decode cX8_tie 84 = .ok (.iload_n 1, 1) := by decide +kernel
theorem dX8_tie_85 : decode cX8_tie 85 = .ok (.iaload, 1) := by decide +kernel
theorem dX8_tie_86 : decode cX8_tie 86 = .ok (.invokestatic 102, 3) := by decide +kernel
theorem dX8_tie_89 : decode cX8_tie 89 = .ok (.ireturn, 1) := by decide +kernel
theorem dX8_groundTold_0 : decode cX8_groundTold 0 = .ok (.iload_n 2, 1) := by decide +kernel
theorem dX8_groundTold_1 : decode cX8_groundTold 1 = .ok (.ifCond .ne 12, 3) := by decide +kernel
theorem dX8_groundTold_4 : decode cX8_groundTold 4 = .ok (.aload_n 0, 1) := by decide +kernel
theorem dX8_groundTold_5 : decode cX8_groundTold 5 = .ok (.getfield 9, 3) := by decide +kernel
theorem dX8_groundTold_8 : decode cX8_groundTold 8 = .ok (.iload_n 1, 1) := by decide +kernel
theorem dX8_groundTold_9 : decode cX8_groundTold 9 = .ok (.iaload, 1) := by decide +kernel
theorem dX8_groundTold_10 : decode cX8_groundTold 10 = .ok (.goto 66, 3) := by decide +kernel
theorem dX8_groundTold_13 : decode cX8_groundTold 13 = .ok (.iload_n 2, 1) := by decide +kernel
theorem dX8_groundTold_14 : decode cX8_groundTold 14 = .ok (.iconst 1, 1) := by decide +kernel
theorem dX8_groundTold_15 : decode cX8_groundTold 15 = .ok (.if_icmp .ne 15, 3) := by decide +kernel
theorem dX8_groundTold_18 : decode cX8_groundTold 18 = .ok (.aload_n 0, 1) := by decide +kernel
theorem dX8_groundTold_19 : decode cX8_groundTold 19 = .ok (.getfield 36, 3) := by decide +kernel
theorem dX8_groundTold_22 : decode cX8_groundTold 22 = .ok (.getfield 43, 3) := by decide +kernel
theorem dX8_groundTold_25 : decode cX8_groundTold 25 = .ok (.iload_n 1, 1) := by decide +kernel
theorem dX8_groundTold_26 : decode cX8_groundTold 26 = .ok (.iaload, 1) := by decide +kernel
theorem dX8_groundTold_27 : decode cX8_groundTold 27 = .ok (.goto 49, 3) := by decide +kernel
theorem dX8_groundTold_30 : decode cX8_groundTold 30 = .ok (.iload_n 2, 1) := by decide +kernel
theorem dX8_groundTold_31 : decode cX8_groundTold 31 = .ok (.iconst 2, 1) := by decide +kernel
theorem dX8_groundTold_32 : decode cX8_groundTold 32 = .ok (.if_icmp .ne 12, 3) := by decide +kernel
theorem dX8_groundTold_35 : decode cX8_groundTold 35 = .ok (.aload_n 0, 1) := by decide +kernel
theorem dX8_groundTold_36 : decode cX8_groundTold 36 = .ok (.getfield 13, 3) := by decide +kernel
theorem dX8_groundTold_39 : decode cX8_groundTold 39 = .ok (.iload_n 1, 1) := by decide +kernel
theorem dX8_groundTold_40 : decode cX8_groundTold 40 = .ok (.iaload, 1) := by decide +kernel
theorem dX8_groundTold_41 : decode cX8_groundTold 41 = .ok (.goto 35, 3) := by decide +kernel
theorem dX8_groundTold_44 : decode cX8_groundTold 44 = .ok (.iload_n 2, 1) := by decide +kernel
theorem dX8_groundTold_45 : decode cX8_groundTold 45 = .ok (.iconst 3, 1) := by decide +kernel
theorem dX8_groundTold_46 : decode cX8_groundTold 46 = .ok (.if_icmp .ne 18, 3) := by decide +kernel
theorem dX8_groundTold_49 : decode cX8_groundTold 49 = .ok (.aload_n 0, 1) := by decide +kernel
theorem dX8_groundTold_50 : decode cX8_groundTold 50 = .ok (.getfield 19, 3) := by decide +kernel
theorem dX8_groundTold_53 : decode cX8_groundTold 53 = .ok (.aload_n 0, 1) := by decide +kernel
theorem dX8_groundTold_54 : decode cX8_groundTold 54 = .ok (.getfield 54, 3) := by decide +kernel
theorem dX8_groundTold_57 : decode cX8_groundTold 57 = .ok (.iload_n 1, 1) := by decide +kernel
theorem dX8_groundTold_58 : decode cX8_groundTold 58 = .ok (.invokestatic 71, 3) := by decide +kernel
theorem dX8_groundTold_61 : decode cX8_groundTold 61 = .ok (.goto 15, 3) := by decide +kernel
theorem dX8_groundTold_64 : decode cX8_groundTold 64 = .ok (.aload_n 0, 1) := by decide +kernel
theorem dX8_groundTold_65 : decode cX8_groundTold 65 = .ok (.getfield 22, 3) := by decide +kernel
theorem dX8_groundTold_68 : decode cX8_groundTold 68 = .ok (.aload_n 0, 1) := by decide +kernel
theorem dX8_groundTold_69 : decode cX8_groundTold 69 = .ok (.getfield 57, 3) := by decide +kernel
theorem dX8_groundTold_72 : decode cX8_groundTold 72 = .ok (.iload_n 1, 1) := by decide +kernel
theorem dX8_groundTold_73 : decode cX8_groundTold 73 = .ok (.invokestatic 71, 3) := by decide +kernel
theorem dX8_groundTold_76 : decode cX8_groundTold 76 = .ok (.ireturn, 1) := by decide +kernel
theorem dX8_ground_0 : decode cX8_ground 0 = .ok (.aload_n 0, 1) := by decide +kernel
theorem dX8_ground_1 : decode cX8_ground 1 = .ok (.iconst 0, 1) := by decide +kernel
theorem dX8_ground_2 : decode cX8_ground 2 = .ok (.putfield 46, 3) := by decide +kernel
theorem dX8_ground_5 : decode cX8_ground 5 = .ok (.iload_n 1, 1) := by decide +kernel
theorem dX8_ground_6 : decode cX8_ground 6 = .ok (.iload_n 2, 1) := by decide +kernel
theorem dX8_ground_7 : decode cX8_ground 7 = .ok (.invokestatic 60, 3) := by decide +kernel
theorem dX8_ground_10 : decode cX8_ground 10 = .ok (.ifCond .eq 26, 3) := by decide +kernel
theorem dX8_ground_13 : decode cX8_ground 13 = .ok (.iload_n 3, 1) := by decide +kernel
theorem dX8_ground_14 : decode cX8_ground 14 = .ok (.iconst 0, 1) := by decide +kernel
theorem dX8_ground_15 : decode cX8_ground 15 = .ok (.iconst 4, 1) := by decide +kernel
theorem dX8_ground_16 : decode cX8_ground 16 = .ok (.invokestatic 50, 3) := by decide +kernel
theorem dX8_ground_19 : decode cX8_ground 19 = .ok (.ifCond .eq 17, 3) := by decide +kernel
theorem dX8_ground_22 : decode cX8_ground 22 = .ok (.aload_n 0, 1) := by decide +kernel
theorem dX8_ground_23 : decode cX8_ground 23 = .ok (.bipush 10, 2) := by decide +kernel
theorem dX8_ground_25 : decode cX8_ground 25 = .ok (.iload_n 2, 1) := by decide +kernel
theorem dX8_ground_26 : decode cX8_ground 26 = .ok (.imul, 1) := by decide +kernel
theorem dX8_ground_27 : decode cX8_ground 27 = .ok (.iload_n 1, 1) := by decide +kernel
theorem dX8_ground_28 : decode cX8_ground 28 = .ok (.iadd, 1) := by decide +kernel
theorem dX8_ground_29 : decode cX8_ground 29 = .ok (.iload_n 3, 1) := by decide +kernel
theorem dX8_ground_30 : decode cX8_ground 30 = .ok (.invokevirtual 107, 3) := by decide +kernel
theorem dX8_ground_33 : decode cX8_ground 33 = .ok (.goto 8, 3) := by decide +kernel
theorem dX8_ground_36 : decode cX8_ground 36 = .ok (.aload_n 0, 1) := by decide +kernel
theorem dX8_ground_37 : decode cX8_ground 37 = .ok (.iconst 1, 1) := by decide +kernel
theorem dX8_ground_38 : decode cX8_ground 38 = .ok (.invokevirtual 64, 3) := by decide +kernel
theorem dX8_ground_41 : decode cX8_ground 41 = .ok (.ireturn, 1) := by decide +kernel
theorem dX8_pegTold_0 : decode cX8_pegTold 0 = .ok (.iconst 0, 1) := by decide +kernel
theorem dX8_pegTold_1 : decode cX8_pegTold 1 = .ok (.istore_n 3, 1) := by decide +kernel
theorem dX8_pegTold_2 : decode cX8_pegTold 2 = .ok (.iconst 0, 1) := by decide +kernel
theorem dX8_pegTold_3 : decode cX8_pegTold 3 = .ok (.istore 4, 2) := by decide +kernel
theorem dX8_pegTold_5 : decode cX8_pegTold 5 = .ok (.iload 4, 2) := by decide +kernel
theorem dX8_pegTold_7 : decode cX8_pegTold 7 = .ok (.aload_n 0, 1) := by decide +kernel
theorem dX8_pegTold_8 : decode cX8_pegTold 8 = .ok (.getfield 57, 3) := by decide +kernel
theorem dX8_pegTold_11 : decode cX8_pegTold 11 = .ok (.if_icmp .ge 30, 3) := by decide +kernel
theorem dX8_pegTold_14 : decode cX8_pegTold 14 = .ok (.iload_n 3, 1) := by decide +kernel
theorem dX8_pegTold_15 : decode cX8_pegTold 15 = .ok (.aload_n 0, 1) := by decide +kernel
theorem dX8_pegTold_16 : decode cX8_pegTold 16 = .ok (.getfield 36, 3) := by decide +kernel
theorem dX8_pegTold_19 : decode cX8_pegTold 19 = .ok (.iload 4, 2) := by decide +kernel
theorem dX8_pegTold_21 : decode cX8_pegTold 21 = .ok (.iload_n 1, 1) := by decide +kernel
theorem dX8_pegTold_22 : decode cX8_pegTold 22 = .ok (.invokevirtual 87, 3) := by decide +kernel
theorem dX8_pegTold_25 : decode cX8_pegTold 25 = .ok (.ifCond .eq 7, 3) := by decide +kernel
theorem dX8_pegTold_28 : decode cX8_pegTold 28 = .ok (.iconst 1, 1) := by decide +kernel
theorem dX8_pegTold_29 : decode cX8_pegTold 29 = .ok (.goto 4, 3) := by decide +kernel
theorem dX8_pegTold_32 : decode cX8_pegTold 32 = .ok (.iconst 0, 1) := by decide +kernel
theorem dX8_pegTold_33 : decode cX8_pegTold 33 = .ok (.iadd, 1) := by decide +kernel
theorem dX8_pegTold_34 : decode cX8_pegTold 34 = .ok (.istore_n 3, 1) := by decide +kernel
theorem dX8_pegTold_35 : decode cX8_pegTold 35 = .ok (.iinc 4 1, 3) := by decide +kernel
theorem dX8_pegTold_38 : decode cX8_pegTold 38 = .ok (.goto (-33), 3) := by decide +kernel
theorem dX8_pegTold_41 : decode cX8_pegTold 41 = .ok (.iload_n 2, 1) := by decide +kernel
theorem dX8_pegTold_42 : decode cX8_pegTold 42 = .ok (.ifCond .ne 15, 3) := by decide +kernel
theorem dX8_pegTold_45 : decode cX8_pegTold 45 = .ok (.aload_n 0, 1) := by decide +kernel
theorem dX8_pegTold_46 : decode cX8_pegTold 46 = .ok (.getfield 19, 3) := by decide +kernel
theorem dX8_pegTold_49 : decode cX8_pegTold 49 = .ok (.iload_n 1, 1) := by decide +kernel
theorem dX8_pegTold_50 : decode cX8_pegTold 50 = .ok (.iaload, 1) := by decide +kernel
theorem dX8_pegTold_51 : decode cX8_pegTold 51 = .ok (.bipush 10, 2) := by decide +kernel
theorem dX8_pegTold_53 : decode cX8_pegTold 53 = .ok (.irem, 1) := by decide +kernel
theorem dX8_pegTold_54 : decode cX8_pegTold 54 = .ok (.goto 54, 3) := by decide +kernel
theorem dX8_pegTold_57 : decode cX8_pegTold 57 = .ok (.iload_n 2, 1) := by decide +kernel
theorem dX8_pegTold_58 : decode cX8_pegTold 58 = .ok (.iconst 1, 1) := by decide +kernel
theorem dX8_pegTold_59 : decode cX8_pegTold 59 = .ok (.if_icmp .ne 15, 3) := by decide +kernel
theorem dX8_pegTold_62 : decode cX8_pegTold 62 = .ok (.aload_n 0, 1) := by decide +kernel
theorem dX8_pegTold_63 : decode cX8_pegTold 63 = .ok (.getfield 19, 3) := by decide +kernel
theorem dX8_pegTold_66 : decode cX8_pegTold 66 = .ok (.iload_n 1, 1) := by decide +kernel
theorem dX8_pegTold_67 : decode cX8_pegTold 67 = .ok (.iaload, 1) := by decide +kernel
theorem dX8_pegTold_68 : decode cX8_pegTold 68 = .ok (.bipush 10, 2) := by decide +kernel
theorem dX8_pegTold_70 : decode cX8_pegTold 70 = .ok (.idiv, 1) := by decide +kernel
theorem dX8_pegTold_71 : decode cX8_pegTold 71 = .ok (.goto 37, 3) := by decide +kernel
theorem dX8_pegTold_74 : decode cX8_pegTold 74 = .ok (.iload_n 2, 1) := by decide +kernel
theorem dX8_pegTold_75 : decode cX8_pegTold 75 = .ok (.iconst 2, 1) := by decide +kernel
theorem dX8_pegTold_76 : decode cX8_pegTold 76 = .ok (.if_icmp .ne 15, 3) := by decide +kernel
theorem dX8_pegTold_79 : decode cX8_pegTold 79 = .ok (.aload_n 0, 1) := by decide +kernel
theorem dX8_pegTold_80 : decode cX8_pegTold 80 = .ok (.getfield 36, 3) := by decide +kernel
theorem dX8_pegTold_83 : decode cX8_pegTold 83 = .ok (.getfield 75, 3) := by decide +kernel
theorem dX8_pegTold_86 : decode cX8_pegTold 86 = .ok (.iload_n 1, 1) := by decide +kernel
theorem dX8_pegTold_87 : decode cX8_pegTold 87 = .ok (.iaload, 1) := by decide +kernel
theorem dX8_pegTold_88 : decode cX8_pegTold 88 = .ok (.goto 20, 3) := by decide +kernel
theorem dX8_pegTold_91 : decode cX8_pegTold 91 = .ok (.iload_n 2, 1) := by decide +kernel
theorem dX8_pegTold_92 : decode cX8_pegTold 92 = .ok (.iconst 3, 1) := by decide +kernel
theorem dX8_pegTold_93 : decode cX8_pegTold 93 = .ok (.if_icmp .ne 14, 3) := by decide +kernel
theorem dX8_pegTold_96 : decode cX8_pegTold 96 = .ok (.aload_n 0, 1) := by decide +kernel
theorem dX8_pegTold_97 : decode cX8_pegTold 97 = .ok (.getfield 36, 3) := by decide +kernel
theorem dX8_pegTold_100 : decode cX8_pegTold 100 = .ok (.iload_n 1, 1) := by decide +kernel
theorem dX8_pegTold_101 : decode cX8_pegTold 101 = .ok (.invokevirtual 81, 3) := by decide +kernel
theorem dX8_pegTold_104 : decode cX8_pegTold 104 = .ok (.goto 4, 3) := by decide +kernel
theorem dX8_pegTold_107 : decode cX8_pegTold 107 = .ok (.iload_n 3, 1) := by decide +kernel
theorem dX8_pegTold_108 : decode cX8_pegTold 108 = .ok (.ireturn, 1) := by decide +kernel
theorem dX8_peg_0 : decode cX8_peg 0 = .ok (.aload_n 0, 1) := by decide +kernel
theorem dX8_peg_1 : decode cX8_peg 1 = .ok (.iconst 0, 1) := by decide +kernel
theorem dX8_peg_2 : decode cX8_peg 2 = .ok (.putfield 46, 3) := by decide +kernel
theorem dX8_peg_5 : decode cX8_peg 5 = .ok (.aload_n 0, 1) := by decide +kernel
theorem dX8_peg_6 : decode cX8_peg 6 = .ok (.iload_n 1, 1) := by decide +kernel
theorem dX8_peg_7 : decode cX8_peg 7 = .ok (.invokevirtual 77, 3) := by decide +kernel
theorem dX8_peg_10 : decode cX8_peg 10 = .ok (.ifCond .eq 21, 3) := by decide +kernel
theorem dX8_peg_13 : decode cX8_peg 13 = .ok (.iload_n 2, 1) := by decide +kernel
theorem dX8_peg_14 : decode cX8_peg 14 = .ok (.iconst 0, 1) := by decide +kernel
theorem dX8_peg_15 : decode cX8_peg 15 = .ok (.iconst 4, 1) := by decide +kernel
theorem dX8_peg_16 : decode cX8_peg 16 = .ok (.invokestatic 50, 3) := by decide +kernel
theorem dX8_peg_19 : decode cX8_peg 19 = .ok (.ifCond .eq 12, 3) := by decide +kernel
theorem dX8_peg_22 : decode cX8_peg 22 = .ok (.aload_n 0, 1) := by decide +kernel
theorem dX8_peg_23 : decode cX8_peg 23 = .ok (.iload_n 1, 1) := by decide +kernel
theorem dX8_peg_24 : decode cX8_peg 24 = .ok (.iload_n 2, 1) := by decide +kernel
theorem dX8_peg_25 : decode cX8_peg 25 = .ok (.invokevirtual 111, 3) := by decide +kernel
theorem dX8_peg_28 : decode cX8_peg 28 = .ok (.goto 8, 3) := by decide +kernel
theorem dX8_peg_31 : decode cX8_peg 31 = .ok (.aload_n 0, 1) := by decide +kernel
theorem dX8_peg_32 : decode cX8_peg 32 = .ok (.iconst 1, 1) := by decide +kernel
theorem dX8_peg_33 : decode cX8_peg 33 = .ok (.invokevirtual 64, 3) := by decide +kernel
theorem dX8_peg_36 : decode cX8_peg 36 = .ok (.ireturn, 1) := by decide +kernel
theorem dX8_tentTold_0 : decode cX8_tentTold 0 = .ok (.bipush 7, 2) := by decide +kernel
theorem dX8_tentTold_2 : decode cX8_tentTold 2 = .ok (.newarray .int, 2) := by decide +kernel
theorem dX8_tentTold_4 : decode cX8_tentTold 4 = .ok (.dup, 1) := by decide +kernel
theorem dX8_tentTold_5 : decode cX8_tentTold 5 = .ok (.iconst 0, 1) := by decide +kernel
theorem dX8_tentTold_6 : decode cX8_tentTold 6 = .ok (.aload_n 0, 1) := by decide +kernel
theorem dX8_tentTold_7 : decode cX8_tentTold 7 = .ok (.getfield 22, 3) := by decide +kernel
theorem dX8_tentTold_10 : decode cX8_tentTold 10 = .ok (.iload_n 1, 1) := by decide +kernel
theorem dX8_tentTold_11 : decode cX8_tentTold 11 = .ok (.iaload, 1) := by decide +kernel
theorem dX8_tentTold_12 : decode cX8_tentTold 12 = .ok (.bipush 10, 2) := by decide +kernel
theorem dX8_tentTold_14 : decode cX8_tentTold 14 = .ok (.irem, 1) := by decide +kernel
theorem dX8_tentTold_15 : decode cX8_tentTold 15 = .ok (.iastore, 1) := by decide +kernel
theorem dX8_tentTold_16 : decode cX8_tentTold 16 = .ok (.dup, 1) := by decide +kernel
theorem dX8_tentTold_17 : decode cX8_tentTold 17 = .ok (.iconst 1, 1) := by decide +kernel
theorem dX8_tentTold_18 : decode cX8_tentTold 18 = .ok (.aload_n 0, 1) := by decide +kernel
theorem dX8_tentTold_19 : decode cX8_tentTold 19 = .ok (.getfield 22, 3) := by decide +kernel
theorem dX8_tentTold_22 : decode cX8_tentTold 22 = .ok (.iload_n 1, 1) := by decide +kernel
theorem dX8_tentTold_23 : decode cX8_tentTold 23 = .ok (.iaload, 1) := by decide +kernel
theorem dX8_tentTold_24 : decode cX8_tentTold 24 = .ok (.bipush 10, 2) := by decide +kernel
theorem dX8_tentTold_26 : decode cX8_tentTold 26 = .ok (.idiv, 1) := by decide +kernel
theorem dX8_tentTold_27 : decode cX8_tentTold 27 = .ok (.iastore, 1) := by decide +kernel
theorem dX8_tentTold_28 : decode cX8_tentTold 28 = .ok (.dup, 1) := by decide +kernel
theorem dX8_tentTold_29 : decode cX8_tentTold 29 = .ok (.iconst 2, 1) := by decide +kernel
theorem dX8_tentTold_30 : decode cX8_tentTold 30 = .ok (.aload_n 0, 1) := by decide +kernel
theorem dX8_tentTold_31 : decode cX8_tentTold 31 = .ok (.getfield 25, 3) := by decide +kernel
theorem dX8_tentTold_34 : decode cX8_tentTold 34 = .ok (.iload_n 1, 1) := by decide +kernel
theorem dX8_tentTold_35 : decode cX8_tentTold 35 = .ok (.iaload, 1) := by decide +kernel
theorem dX8_tentTold_36 : decode cX8_tentTold 36 = .ok (.iastore, 1) := by decide +kernel
theorem dX8_tentTold_37 : decode cX8_tentTold 37 = .ok (.dup, 1) := by decide +kernel
theorem dX8_tentTold_38 : decode cX8_tentTold 38 = .ok (.iconst 3, 1) := by decide +kernel
theorem dX8_tentTold_39 : decode cX8_tentTold 39 = .ok (.aload_n 0, 1) := by decide +kernel
theorem dX8_tentTold_40 : decode cX8_tentTold 40 = .ok (.getfield 36, 3) := by decide +kernel
theorem dX8_tentTold_43 : decode cX8_tentTold 43 = .ok (.getfield 84, 3) := by decide +kernel
theorem dX8_tentTold_46 : decode cX8_tentTold 46 = .ok (.iload_n 1, 1) := by decide +kernel
theorem dX8_tentTold_47 : decode cX8_tentTold 47 = .ok (.iaload, 1) := by decide +kernel
theorem dX8_tentTold_48 : decode cX8_tentTold 48 = .ok (.iastore, 1) := by decide +kernel
theorem dX8_tentTold_49 : decode cX8_tentTold 49 = .ok (.dup, 1) := by decide +kernel
theorem dX8_tentTold_50 : decode cX8_tentTold 50 = .ok (.iconst 4, 1) := by decide +kernel
theorem dX8_tentTold_51 : decode cX8_tentTold 51 = .ok (.aload_n 0, 1) := by decide +kernel
theorem dX8_tentTold_52 : decode cX8_tentTold 52 = .ok (.getfield 36, 3) := by decide +kernel
theorem dX8_tentTold_55 : decode cX8_tentTold 55 = .ok (.getfield 93, 3) := by decide +kernel
theorem dX8_tentTold_58 : decode cX8_tentTold 58 = .ok (.iload_n 1, 1) := by decide +kernel
theorem dX8_tentTold_59 : decode cX8_tentTold 59 = .ok (.iaload, 1) := by decide +kernel
theorem dX8_tentTold_60 : decode cX8_tentTold 60 = .ok (.iastore, 1) := by decide +kernel
theorem dX8_tentTold_61 : decode cX8_tentTold 61 = .ok (.dup, 1) := by decide +kernel
theorem dX8_tentTold_62 : decode cX8_tentTold 62 = .ok (.iconst 5, 1) := by decide +kernel
theorem dX8_tentTold_63 : decode cX8_tentTold 63 = .ok (.aload_n 0, 1) := by decide +kernel
theorem dX8_tentTold_64 : decode cX8_tentTold 64 = .ok (.getfield 36, 3) := by decide +kernel
theorem dX8_tentTold_67 : decode cX8_tentTold 67 = .ok (.getfield 99, 3) := by decide +kernel
theorem dX8_tentTold_70 : decode cX8_tentTold 70 = .ok (.iload_n 1, 1) := by decide +kernel
theorem dX8_tentTold_71 : decode cX8_tentTold 71 = .ok (.iaload, 1) := by decide +kernel
theorem dX8_tentTold_72 : decode cX8_tentTold 72 = .ok (.invokestatic 102, 3) := by decide +kernel
theorem dX8_tentTold_75 : decode cX8_tentTold 75 = .ok (.iastore, 1) := by decide +kernel
theorem dX8_tentTold_76 : decode cX8_tentTold 76 = .ok (.dup, 1) := by decide +kernel
theorem dX8_tentTold_77 : decode cX8_tentTold 77 = .ok (.bipush 6, 2) := by decide +kernel
theorem dX8_tentTold_79 : decode cX8_tentTold 79 = .ok (.aload_n 0, 1) := by decide +kernel
theorem dX8_tentTold_80 : decode cX8_tentTold 80 = .ok (.iload_n 1, 1) := by decide +kernel
theorem dX8_tentTold_81 : decode cX8_tentTold 81 = .ok (.invokevirtual 96, 3) := by decide +kernel
theorem dX8_tentTold_84 : decode cX8_tentTold 84 = .ok (.iastore, 1) := by decide +kernel
theorem dX8_tentTold_85 : decode cX8_tentTold 85 = .ok (.astore_n 3, 1) := by decide +kernel
theorem dX8_tentTold_86 : decode cX8_tentTold 86 = .ok (.aload_n 3, 1) := by decide +kernel
theorem dX8_tentTold_87 : decode cX8_tentTold 87 = .ok (.iload_n 2, 1) := by decide +kernel
theorem dX8_tentTold_88 : decode cX8_tentTold 88 = .ok (.iaload, 1) := by decide +kernel
theorem dX8_tentTold_89 : decode cX8_tentTold 89 = .ok (.ireturn, 1) := by decide +kernel
theorem dX8_tent_0 : decode cX8_tent 0 = .ok (.aload_n 0, 1) := by decide +kernel
theorem dX8_tent_1 : decode cX8_tent 1 = .ok (.iconst 0, 1) := by decide +kernel
theorem dX8_tent_2 : decode cX8_tent 2 = .ok (.putfield 46, 3) := by decide +kernel
theorem dX8_tent_5 : decode cX8_tent 5 = .ok (.aload_n 0, 1) := by decide +kernel
theorem dX8_tent_6 : decode cX8_tent 6 = .ok (.iload_n 1, 1) := by decide +kernel
theorem dX8_tent_7 : decode cX8_tent 7 = .ok (.invokevirtual 90, 3) := by decide +kernel
theorem dX8_tent_10 : decode cX8_tent 10 = .ok (.ifCond .eq 22, 3) := by decide +kernel
theorem dX8_tent_13 : decode cX8_tent 13 = .ok (.iload_n 2, 1) := by decide +kernel
theorem dX8_tent_14 : decode cX8_tent 14 = .ok (.iconst 0, 1) := by decide +kernel
theorem dX8_tent_15 : decode cX8_tent 15 = .ok (.bipush 6, 2) := by decide +kernel
theorem dX8_tent_17 : decode cX8_tent 17 = .ok (.invokestatic 50, 3) := by decide +kernel
theorem dX8_tent_20 : decode cX8_tent 20 = .ok (.ifCond .eq 12, 3) := by decide +kernel
theorem dX8_tent_23 : decode cX8_tent 23 = .ok (.aload_n 0, 1) := by decide +kernel
theorem dX8_tent_24 : decode cX8_tent 24 = .ok (.iload_n 1, 1) := by decide +kernel
theorem dX8_tent_25 : decode cX8_tent 25 = .ok (.iload_n 2, 1) := by decide +kernel
theorem dX8_tent_26 : decode cX8_tent 26 = .ok (.invokevirtual 114, 3) := by decide +kernel
theorem dX8_tent_29 : decode cX8_tent 29 = .ok (.goto 8, 3) := by decide +kernel
theorem dX8_tent_32 : decode cX8_tent 32 = .ok (.aload_n 0, 1) := by decide +kernel
theorem dX8_tent_33 : decode cX8_tent 33 = .ok (.iconst 1, 1) := by decide +kernel
theorem dX8_tent_34 : decode cX8_tent 34 = .ok (.invokevirtual 64, 3) := by decide +kernel
theorem dX8_tent_37 : decode cX8_tent 37 = .ok (.ireturn, 1) := by decide +kernel
theorem dX8_counted_0 : decode cX8_counted 0 = .ok (.iconst 0, 1) := by decide +kernel
theorem dX8_counted_1 : decode cX8_counted 1 = .ok (.istore_n 2, 1) := by decide +kernel
theorem dX8_counted_2 : decode cX8_counted 2 = .ok (.iconst 0, 1) := by decide +kernel
theorem dX8_counted_3 : decode cX8_counted 3 = .ok (.istore_n 3, 1) := by decide +kernel
theorem dX8_counted_4 : decode cX8_counted 4 = .ok (.iload_n 3, 1) := by decide +kernel
theorem dX8_counted_5 : decode cX8_counted 5 = .ok (.aload_n 0, 1) := by decide +kernel
theorem dX8_counted_6 : decode cX8_counted 6 = .ok (.getfield 57, 3) := by decide +kernel
theorem dX8_counted_9 : decode cX8_counted 9 = .ok (.if_icmp .ge 24, 3) := by decide +kernel
theorem dX8_counted_12 : decode cX8_counted 12 = .ok (.iload_n 2, 1) := by decide +kernel
theorem dX8_counted_13 : decode cX8_counted 13 = .ok (.aload_n 0, 1) := by decide +kernel
theorem dX8_counted_14 : decode cX8_counted 14 = .ok (.getfield 36, 3) := by decide +kernel
theorem dX8_counted_17 : decode cX8_counted 17 = .ok (.getfield 99, 3) := by decide +kernel
theorem dX8_counted_20 : decode cX8_counted 20 = .ok (.iload_n 3, 1) := by decide +kernel
theorem dX8_counted_21 : decode cX8_counted 21 = .ok (.iaload, 1) := by decide +kernel
theorem dX8_counted_22 : decode cX8_counted 22 = .ok (.invokestatic 102, 3) := by decide +kernel
theorem dX8_counted_25 : decode cX8_counted 25 = .ok (.iadd, 1) := by decide +kernel
theorem dX8_counted_26 : decode cX8_counted 26 = .ok (.istore_n 2, 1) := by decide +kernel
theorem dX8_counted_27 : decode cX8_counted 27 = .ok (.iinc 3 1, 3) := by decide +kernel
theorem dX8_counted_30 : decode cX8_counted 30 = .ok (.goto (-26), 3) := by decide +kernel
theorem dX8_counted_33 : decode cX8_counted 33 = .ok (.bipush 8, 2) := by decide +kernel
theorem dX8_counted_35 : decode cX8_counted 35 = .ok (.newarray .int, 2) := by decide +kernel
theorem dX8_counted_37 : decode cX8_counted 37 = .ok (.dup, 1) := by decide +kernel
theorem dX8_counted_38 : decode cX8_counted 38 = .ok (.iconst 0, 1) := by decide +kernel
theorem dX8_counted_39 : decode cX8_counted 39 = .ok (.aload_n 0, 1) := by decide +kernel
theorem dX8_counted_40 : decode cX8_counted 40 = .ok (.getfield 36, 3) := by decide +kernel
theorem dX8_counted_43 : decode cX8_counted 43 = .ok (.getfield 117, 3) := by decide +kernel
theorem dX8_counted_46 : decode cX8_counted 46 = .ok (.iastore, 1) := by decide +kernel
theorem dX8_counted_47 : decode cX8_counted 47 = .ok (.dup, 1) := by decide +kernel
theorem dX8_counted_48 : decode cX8_counted 48 = .ok (.iconst 1, 1) := by decide +kernel
theorem dX8_counted_49 : decode cX8_counted 49 = .ok (.aload_n 0, 1) := by decide +kernel
theorem dX8_counted_50 : decode cX8_counted 50 = .ok (.getfield 54, 3) := by decide +kernel
theorem dX8_counted_53 : decode cX8_counted 53 = .ok (.iastore, 1) := by decide +kernel
theorem dX8_counted_54 : decode cX8_counted 54 = .ok (.dup, 1) := by decide +kernel
theorem dX8_counted_55 : decode cX8_counted 55 = .ok (.iconst 2, 1) := by decide +kernel
theorem dX8_counted_56 : decode cX8_counted 56 = .ok (.aload_n 0, 1) := by decide +kernel
theorem dX8_counted_57 : decode cX8_counted 57 = .ok (.getfield 36, 3) := by decide +kernel
theorem dX8_counted_60 : decode cX8_counted 60 = .ok (.invokevirtual 120, 3) := by decide +kernel
theorem dX8_counted_63 : decode cX8_counted 63 = .ok (.iastore, 1) := by decide +kernel
theorem dX8_counted_64 : decode cX8_counted 64 = .ok (.dup, 1) := by decide +kernel
theorem dX8_counted_65 : decode cX8_counted 65 = .ok (.iconst 3, 1) := by decide +kernel
theorem dX8_counted_66 : decode cX8_counted 66 = .ok (.aload_n 0, 1) := by decide +kernel
theorem dX8_counted_67 : decode cX8_counted 67 = .ok (.getfield 57, 3) := by decide +kernel
theorem dX8_counted_70 : decode cX8_counted 70 = .ok (.iastore, 1) := by decide +kernel
theorem dX8_counted_71 : decode cX8_counted 71 = .ok (.dup, 1) := by decide +kernel
theorem dX8_counted_72 : decode cX8_counted 72 = .ok (.iconst 4, 1) := by decide +kernel
theorem dX8_counted_73 : decode cX8_counted 73 = .ok (.aload_n 0, 1) := by decide +kernel
theorem dX8_counted_74 : decode cX8_counted 74 = .ok (.getfield 36, 3) := by decide +kernel
theorem dX8_counted_77 : decode cX8_counted 77 = .ok (.invokevirtual 124, 3) := by decide +kernel
theorem dX8_counted_80 : decode cX8_counted 80 = .ok (.iastore, 1) := by decide +kernel
theorem dX8_counted_81 : decode cX8_counted 81 = .ok (.dup, 1) := by decide +kernel
theorem dX8_counted_82 : decode cX8_counted 82 = .ok (.iconst 5, 1) := by decide +kernel
theorem dX8_counted_83 : decode cX8_counted 83 = .ok (.aload_n 0, 1) := by decide +kernel
theorem dX8_counted_84 : decode cX8_counted 84 = .ok (.getfield 36, 3) := by decide +kernel
theorem dX8_counted_87 : decode cX8_counted 87 = .ok (.invokevirtual 127, 3) := by decide +kernel
theorem dX8_counted_90 : decode cX8_counted 90 = .ok (.iastore, 1) := by decide +kernel
theorem dX8_counted_91 : decode cX8_counted 91 = .ok (.dup, 1) := by decide +kernel
theorem dX8_counted_92 : decode cX8_counted 92 = .ok (.bipush 6, 2) := by decide +kernel
theorem dX8_counted_94 : decode cX8_counted 94 = .ok (.iload_n 2, 1) := by decide +kernel
theorem dX8_counted_95 : decode cX8_counted 95 = .ok (.iastore, 1) := by decide +kernel
theorem dX8_counted_96 : decode cX8_counted 96 = .ok (.dup, 1) := by decide +kernel
theorem dX8_counted_97 : decode cX8_counted 97 = .ok (.bipush 7, 2) := by decide +kernel
theorem dX8_counted_99 : decode cX8_counted 99 = .ok (.aload_n 0, 1) := by decide +kernel
theorem dX8_counted_100 : decode cX8_counted 100 = .ok (.getfield 13, 3) := by decide +kernel
theorem dX8_counted_103 : decode cX8_counted 103 = .ok (.bipush 100, 2) := by decide +kernel
theorem dX8_counted_105 : decode cX8_counted 105 = .ok (.invokestatic 130, 3) := by decide +kernel
theorem dX8_counted_108 : decode cX8_counted 108 = .ok (.iastore, 1) := by decide +kernel
theorem dX8_counted_109 : decode cX8_counted 109 = .ok (.astore_n 3, 1) := by decide +kernel
theorem dX8_counted_110 : decode cX8_counted 110 = .ok (.aload_n 3, 1) := by decide +kernel
theorem dX8_counted_111 : decode cX8_counted 111 = .ok (.iload_n 1, 1) := by decide +kernel
theorem dX8_counted_112 : decode cX8_counted 112 = .ok (.iaload, 1) := by decide +kernel
theorem dX8_counted_113 : decode cX8_counted 113 = .ok (.ireturn, 1) := by decide +kernel
theorem dX8_count_0 : decode cX8_count 0 = .ok (.aload_n 0, 1) := by decide +kernel
theorem dX8_count_1 : decode cX8_count 1 = .ok (.iconst 0, 1) := by decide +kernel
theorem dX8_count_2 : decode cX8_count 2 = .ok (.putfield 46, 3) := by decide +kernel
theorem dX8_count_5 : decode cX8_count 5 = .ok (.iload_n 1, 1) := by decide +kernel
theorem dX8_count_6 : decode cX8_count 6 = .ok (.iconst 0, 1) := by decide +kernel
theorem dX8_count_7 : decode cX8_count 7 = .ok (.bipush 7, 2) := by decide +kernel
theorem dX8_count_9 : decode cX8_count 9 = .ok (.invokestatic 50, 3) := by decide +kernel
theorem dX8_count_12 : decode cX8_count 12 = .ok (.ifCond .eq 11, 3) := by decide +kernel
theorem dX8_count_15 : decode cX8_count 15 = .ok (.aload_n 0, 1) := by decide +kernel
theorem dX8_count_16 : decode cX8_count 16 = .ok (.iload_n 1, 1) := by decide +kernel
theorem dX8_count_17 : decode cX8_count 17 = .ok (.invokevirtual 134, 3) := by decide +kernel
theorem dX8_count_20 : decode cX8_count 20 = .ok (.goto 8, 3) := by decide +kernel
theorem dX8_count_23 : decode cX8_count 23 = .ok (.aload_n 0, 1) := by decide +kernel
theorem dX8_count_24 : decode cX8_count 24 = .ok (.iconst 1, 1) := by decide +kernel
theorem dX8_count_25 : decode cX8_count 25 = .ok (.invokevirtual 64, 3) := by decide +kernel
theorem dX8_count_28 : decode cX8_count 28 = .ok (.ireturn, 1) := by decide +kernel
theorem dX8_holds_0 : decode cX8_holds 0 = .ok (.aload_n 0, 1) := by decide +kernel
theorem dX8_holds_1 : decode cX8_holds 1 = .ok (.iconst 0, 1) := by decide +kernel
theorem dX8_holds_2 : decode cX8_holds 2 = .ok (.putfield 46, 3) := by decide +kernel
theorem dX8_holds_5 : decode cX8_holds 5 = .ok (.aload_n 0, 1) := by decide +kernel
theorem dX8_holds_6 : decode cX8_holds 6 = .ok (.iload_n 1, 1) := by decide +kernel
theorem dX8_holds_7 : decode cX8_holds 7 = .ok (.invokevirtual 90, 3) := by decide +kernel
theorem dX8_holds_10 : decode cX8_holds 10 = .ok (.ifCond .ne 9, 3) := by decide +kernel
theorem dX8_holds_13 : decode cX8_holds 13 = .ok (.aload_n 0, 1) := by decide +kernel
theorem dX8_holds_14 : decode cX8_holds 14 = .ok (.iconst 1, 1) := by decide +kernel
theorem dX8_holds_15 : decode cX8_holds 15 = .ok (.invokevirtual 64, 3) := by decide +kernel
theorem dX8_holds_18 : decode cX8_holds 18 = .ok (.ireturn, 1) := by decide +kernel
theorem dX8_holds_19 : decode cX8_holds 19 = .ok (.iload_n 2, 1) := by decide +kernel
theorem dX8_holds_20 : decode cX8_holds 20 = .ok (.iload_n 3, 1) := by decide +kernel
theorem dX8_holds_21 : decode cX8_holds 21 = .ok (.invokestatic 68, 3) := by decide +kernel
theorem dX8_holds_24 : decode cX8_holds 24 = .ok (.ifCond .eq 15, 3) := by decide +kernel
theorem dX8_holds_27 : decode cX8_holds 27 = .ok (.aload_n 0, 1) := by decide +kernel
theorem dX8_holds_28 : decode cX8_holds 28 = .ok (.getfield 36, 3) := by decide +kernel
theorem dX8_holds_31 : decode cX8_holds 31 = .ok (.iload_n 1, 1) := by decide +kernel
theorem dX8_holds_32 : decode cX8_holds 32 = .ok (.iload_n 3, 1) := by decide +kernel
theorem dX8_holds_33 : decode cX8_holds 33 = .ok (.invokevirtual 137, 3) := by decide +kernel
theorem dX8_holds_36 : decode cX8_holds 36 = .ok (.goto 8, 3) := by decide +kernel
theorem dX8_holds_39 : decode cX8_holds 39 = .ok (.aload_n 0, 1) := by decide +kernel
theorem dX8_holds_40 : decode cX8_holds 40 = .ok (.iconst 2, 1) := by decide +kernel
theorem dX8_holds_41 : decode cX8_holds 41 = .ok (.invokevirtual 64, 3) := by decide +kernel
theorem dX8_holds_44 : decode cX8_holds 44 = .ok (.ireturn, 1) := by decide +kernel
theorem dX8_storm_0 : decode cX8_storm 0 = .ok (.aload_n 0, 1) := by decide +kernel
theorem dX8_storm_1 : decode cX8_storm 1 = .ok (.iconst 0, 1) := by decide +kernel
theorem dX8_storm_2 : decode cX8_storm 2 = .ok (.putfield 46, 3) := by decide +kernel
theorem dX8_storm_5 : decode cX8_storm 5 = .ok (.iload_n 1, 1) := by decide +kernel
theorem dX8_storm_6 : decode cX8_storm 6 = .ok (.iload_n 2, 1) := by decide +kernel
theorem dX8_storm_7 : decode cX8_storm 7 = .ok (.invokestatic 68, 3) := by decide +kernel
theorem dX8_storm_10 : decode cX8_storm 10 = .ok (.ifCond .ne 9, 3) := by decide +kernel
theorem dX8_storm_13 : decode cX8_storm 13 = .ok (.aload_n 0, 1) := by decide +kernel
theorem dX8_storm_14 : decode cX8_storm 14 = .ok (.iconst 1, 1) := by decide +kernel
theorem dX8_storm_15 : decode cX8_storm 15 = .ok (.invokevirtual 64, 3) := by decide +kernel
theorem dX8_storm_18 : decode cX8_storm 18 = .ok (.ireturn, 1) := by decide +kernel
theorem dX8_storm_19 : decode cX8_storm 19 = .ok (.iload_n 3, 1) := by decide +kernel
theorem dX8_storm_20 : decode cX8_storm 20 = .ok (.iconst 0, 1) := by decide +kernel
theorem dX8_storm_21 : decode cX8_storm 21 = .ok (.iconst 2, 1) := by decide +kernel
theorem dX8_storm_22 : decode cX8_storm 22 = .ok (.invokestatic 50, 3) := by decide +kernel
theorem dX8_storm_25 : decode cX8_storm 25 = .ok (.ifCond .ne 9, 3) := by decide +kernel
theorem dX8_storm_28 : decode cX8_storm 28 = .ok (.aload_n 0, 1) := by decide +kernel
theorem dX8_storm_29 : decode cX8_storm 29 = .ok (.iconst 2, 1) := by decide +kernel
theorem dX8_storm_30 : decode cX8_storm 30 = .ok (.invokevirtual 64, 3) := by decide +kernel
theorem dX8_storm_33 : decode cX8_storm 33 = .ok (.ireturn, 1) := by decide +kernel
theorem dX8_storm_34 : decode cX8_storm 34 = .ok (.aload_n 0, 1) := by decide +kernel
theorem dX8_storm_35 : decode cX8_storm 35 = .ok (.getfield 40, 3) := by decide +kernel
theorem dX8_storm_38 : decode cX8_storm 38 = .ok (.aload_n 0, 1) := by decide +kernel
theorem dX8_storm_39 : decode cX8_storm 39 = .ok (.getfield 36, 3) := by decide +kernel
theorem dX8_storm_42 : decode cX8_storm 42 = .ok (.invokevirtual 140, 3) := by decide +kernel
theorem dX8_storm_45 : decode cX8_storm 45 = .ok (.aload_n 0, 1) := by decide +kernel
theorem dX8_storm_46 : decode cX8_storm 46 = .ok (.getfield 40, 3) := by decide +kernel
theorem dX8_storm_49 : decode cX8_storm 49 = .ok (.iload_n 1, 1) := by decide +kernel
theorem dX8_storm_50 : decode cX8_storm 50 = .ok (.iload_n 2, 1) := by decide +kernel
theorem dX8_storm_51 : decode cX8_storm 51 = .ok (.invokevirtual 144, 3) := by decide +kernel
theorem dX8_storm_54 : decode cX8_storm 54 = .ok (.istore 4, 2) := by decide +kernel
theorem dX8_storm_56 : decode cX8_storm 56 = .ok (.iload_n 3, 1) := by decide +kernel
theorem dX8_storm_57 : decode cX8_storm 57 = .ok (.ifCond .ne 13, 3) := by decide +kernel
theorem dX8_storm_60 : decode cX8_storm 60 = .ok (.aload_n 0, 1) := by decide +kernel
theorem dX8_storm_61 : decode cX8_storm 61 = .ok (.getfield 40, 3) := by decide +kernel
theorem dX8_storm_64 : decode cX8_storm 64 = .ok (.invokevirtual 124, 3) := by decide +kernel
theorem dX8_storm_67 : decode cX8_storm 67 = .ok (.goto 20, 3) := by decide +kernel
theorem dX8_storm_70 : decode cX8_storm 70 = .ok (.iload_n 3, 1) := by decide +kernel
theorem dX8_storm_71 : decode cX8_storm 71 = .ok (.iconst 1, 1) := by decide +kernel
theorem dX8_storm_72 : decode cX8_storm 72 = .ok (.if_icmp .ne 13, 3) := by decide +kernel
theorem dX8_storm_75 : decode cX8_storm 75 = .ok (.aload_n 0, 1) := by decide +kernel
theorem dX8_storm_76 : decode cX8_storm 76 = .ok (.getfield 40, 3) := by decide +kernel
theorem dX8_storm_79 : decode cX8_storm 79 = .ok (.invokevirtual 120, 3) := by decide +kernel
theorem dX8_storm_82 : decode cX8_storm 82 = .ok (.goto 5, 3) := by decide +kernel
theorem dX8_storm_85 : decode cX8_storm 85 = .ok (.iload 4, 2) := by decide +kernel
theorem dX8_storm_87 : decode cX8_storm 87 = .ok (.ireturn, 1) := by decide +kernel
theorem dX8_bears_0 : decode cX8_bears 0 = .ok (.aload_n 0, 1) := by decide +kernel
theorem dX8_bears_1 : decode cX8_bears 1 = .ok (.iconst 0, 1) := by decide +kernel
theorem dX8_bears_2 : decode cX8_bears 2 = .ok (.putfield 46, 3) := by decide +kernel
theorem dX8_bears_5 : decode cX8_bears 5 = .ok (.iload_n 1, 1) := by decide +kernel
theorem dX8_bears_6 : decode cX8_bears 6 = .ok (.iconst 0, 1) := by decide +kernel
theorem dX8_bears_7 : decode cX8_bears 7 = .ok (.iconst 3, 1) := by decide +kernel
theorem dX8_bears_8 : decode cX8_bears 8 = .ok (.invokestatic 50, 3) := by decide +kernel
theorem dX8_bears_11 : decode cX8_bears 11 = .ok (.ifCond .ne 9, 3) := by decide +kernel
theorem dX8_bears_14 : decode cX8_bears 14 = .ok (.aload_n 0, 1) := by decide +kernel
theorem dX8_bears_15 : decode cX8_bears 15 = .ok (.iconst 1, 1) := by decide +kernel
theorem dX8_bears_16 : decode cX8_bears 16 = .ok (.invokevirtual 64, 3) := by decide +kernel
theorem dX8_bears_19 : decode cX8_bears 19 = .ok (.ireturn, 1) := by decide +kernel
theorem dX8_bears_20 : decode cX8_bears 20 = .ok (.bipush 9, 2) := by decide +kernel
theorem dX8_bears_22 : decode cX8_bears 22 = .ok (.istore_n 2, 1) := by decide +kernel
theorem dX8_bears_23 : decode cX8_bears 23 = .ok (.iload_n 2, 1) := by decide +kernel
theorem dX8_bears_24 : decode cX8_bears 24 = .ok (.ifCond .le 49, 3) := by decide +kernel
theorem dX8_bears_27 : decode cX8_bears 27 = .ok (.aload_n 0, 1) := by decide +kernel
theorem dX8_bears_28 : decode cX8_bears 28 = .ok (.getfield 40, 3) := by decide +kernel
theorem dX8_bears_31 : decode cX8_bears 31 = .ok (.aload_n 0, 1) := by decide +kernel
theorem dX8_bears_32 : decode cX8_bears 32 = .ok (.getfield 36, 3) := by decide +kernel
theorem dX8_bears_35 : decode cX8_bears 35 = .ok (.invokevirtual 140, 3) := by decide +kernel
theorem dX8_bears_38 : decode cX8_bears 38 = .ok (.aload_n 0, 1) := by decide +kernel
theorem dX8_bears_39 : decode cX8_bears 39 = .ok (.getfield 40, 3) := by decide +kernel
theorem dX8_bears_42 : decode cX8_bears 42 = .ok (.iload_n 2, 1) := by decide +kernel
theorem dX8_bears_43 : decode cX8_bears 43 = .ok (.iload_n 1, 1) := by decide +kernel
theorem dX8_bears_44 : decode cX8_bears 44 = .ok (.invokevirtual 144, 3) := by decide +kernel
theorem dX8_bears_47 : decode cX8_bears 47 = .ok (.pop, 1) := by decide +kernel
theorem dX8_bears_48 : decode cX8_bears 48 = .ok (.aload_n 0, 1) := by decide +kernel
theorem dX8_bears_49 : decode cX8_bears 49 = .ok (.getfield 40, 3) := by decide +kernel
theorem dX8_bears_52 : decode cX8_bears 52 = .ok (.invokevirtual 124, 3) := by decide +kernel
theorem dX8_bears_55 : decode cX8_bears 55 = .ok (.aload_n 0, 1) := by decide +kernel
theorem dX8_bears_56 : decode cX8_bears 56 = .ok (.getfield 36, 3) := by decide +kernel
theorem dX8_bears_59 : decode cX8_bears 59 = .ok (.invokevirtual 124, 3) := by decide +kernel
theorem dX8_bears_62 : decode cX8_bears 62 = .ok (.if_icmp .ne 5, 3) := by decide +kernel
theorem dX8_bears_65 : decode cX8_bears 65 = .ok (.iload_n 2, 1) := by decide +kernel
theorem dX8_bears_66 : decode cX8_bears 66 = .ok (.ireturn, 1) := by decide +kernel
theorem dX8_bears_67 : decode cX8_bears 67 = .ok (.iinc 2 (-1), 3) := by decide +kernel
theorem dX8_bears_70 : decode cX8_bears 70 = .ok (.goto (-47), 3) := by decide +kernel
theorem dX8_bears_73 : decode cX8_bears 73 = .ok (.iconst 0, 1) := by decide +kernel
theorem dX8_bears_74 : decode cX8_bears 74 = .ok (.ireturn, 1) := by decide +kernel
theorem dX8_runs_0 : decode cX8_runs 0 = .ok (.iconst (-1), 1) := by decide +kernel
theorem dX8_runs_1 : decode cX8_runs 1 = .ok (.istore_n 2, 1) := by decide +kernel
theorem dX8_runs_2 : decode cX8_runs 2 = .ok (.iload_n 1, 1) := by decide +kernel
theorem dX8_runs_3 : decode cX8_runs 3 = .ok (.bipush 10, 2) := by decide +kernel
theorem dX8_runs_5 : decode cX8_runs 5 = .ok (.if_icmp .lt 14, 3) := by decide +kernel
theorem dX8_runs_8 : decode cX8_runs 8 = .ok (.aload_n 0, 1) := by decide +kernel
theorem dX8_runs_9 : decode cX8_runs 9 = .ok (.iload_n 2, 1) := by decide +kernel
theorem dX8_runs_10 : decode cX8_runs 10 = .ok (.iload_n 1, 1) := by decide +kernel
theorem dX8_runs_11 : decode cX8_runs 11 = .ok (.iload_n 1, 1) := by decide +kernel
theorem dX8_runs_12 : decode cX8_runs 12 = .ok (.bipush 10, 2) := by decide +kernel
theorem dX8_runs_14 : decode cX8_runs 14 = .ok (.isub, 1) := by decide +kernel
theorem dX8_runs_15 : decode cX8_runs 15 = .ok (.invokevirtual 147, 3) := by decide +kernel
theorem dX8_runs_18 : decode cX8_runs 18 = .ok (.istore_n 2, 1) := by decide +kernel
theorem dX8_runs_19 : decode cX8_runs 19 = .ok (.iload_n 1, 1) := by decide +kernel
theorem dX8_runs_20 : decode cX8_runs 20 = .ok (.bipush 10, 2) := by decide +kernel
theorem dX8_runs_22 : decode cX8_runs 22 = .ok (.irem, 1) := by decide +kernel
theorem dX8_runs_23 : decode cX8_runs 23 = .ok (.ifCond .le 13, 3) := by decide +kernel
theorem dX8_runs_26 : decode cX8_runs 26 = .ok (.aload_n 0, 1) := by decide +kernel
theorem dX8_runs_27 : decode cX8_runs 27 = .ok (.iload_n 2, 1) := by decide +kernel
theorem dX8_runs_28 : decode cX8_runs 28 = .ok (.iload_n 1, 1) := by decide +kernel
theorem dX8_runs_29 : decode cX8_runs 29 = .ok (.iload_n 1, 1) := by decide +kernel
theorem dX8_runs_30 : decode cX8_runs 30 = .ok (.iconst 1, 1) := by decide +kernel
theorem dX8_runs_31 : decode cX8_runs 31 = .ok (.isub, 1) := by decide +kernel
theorem dX8_runs_32 : decode cX8_runs 32 = .ok (.invokevirtual 147, 3) := by decide +kernel
theorem dX8_runs_35 : decode cX8_runs 35 = .ok (.istore_n 2, 1) := by decide +kernel
theorem dX8_runs_36 : decode cX8_runs 36 = .ok (.iload_n 1, 1) := by decide +kernel
theorem dX8_runs_37 : decode cX8_runs 37 = .ok (.bipush 10, 2) := by decide +kernel
theorem dX8_runs_39 : decode cX8_runs 39 = .ok (.irem, 1) := by decide +kernel
theorem dX8_runs_40 : decode cX8_runs 40 = .ok (.bipush 9, 2) := by decide +kernel
theorem dX8_runs_42 : decode cX8_runs 42 = .ok (.if_icmp .ge 13, 3) := by decide +kernel
theorem dX8_runs_45 : decode cX8_runs 45 = .ok (.aload_n 0, 1) := by decide +kernel
theorem dX8_runs_46 : decode cX8_runs 46 = .ok (.iload_n 2, 1) := by decide +kernel
theorem dX8_runs_47 : decode cX8_runs 47 = .ok (.iload_n 1, 1) := by decide +kernel
theorem dX8_runs_48 : decode cX8_runs 48 = .ok (.iload_n 1, 1) := by decide +kernel
theorem dX8_runs_49 : decode cX8_runs 49 = .ok (.iconst 1, 1) := by decide +kernel
theorem dX8_runs_50 : decode cX8_runs 50 = .ok (.iadd, 1) := by decide +kernel
theorem dX8_runs_51 : decode cX8_runs 51 = .ok (.invokevirtual 147, 3) := by decide +kernel
theorem dX8_runs_54 : decode cX8_runs 54 = .ok (.istore_n 2, 1) := by decide +kernel
theorem dX8_runs_55 : decode cX8_runs 55 = .ok (.iload_n 1, 1) := by decide +kernel
theorem dX8_runs_56 : decode cX8_runs 56 = .ok (.bipush 90, 2) := by decide +kernel
theorem dX8_runs_58 : decode cX8_runs 58 = .ok (.if_icmp .ge 16, 3) := by decide +kernel
theorem dX8_runs_61 : decode cX8_runs 61 = .ok (.aload_n 0, 1) := by decide +kernel
theorem dX8_runs_62 : decode cX8_runs 62 = .ok (.iload_n 2, 1) := by decide +kernel
theorem dX8_runs_63 : decode cX8_runs 63 = .ok (.iload_n 1, 1) := by decide +kernel
theorem dX8_runs_64 : decode cX8_runs 64 = .ok (.iload_n 1, 1) := by decide +kernel
theorem dX8_runs_65 : decode cX8_runs 65 = .ok (.bipush 10, 2) := by decide +kernel
theorem dX8_runs_67 : decode cX8_runs 67 = .ok (.iadd, 1) := by decide +kernel
theorem dX8_runs_68 : decode cX8_runs 68 = .ok (.invokevirtual 147, 3) := by decide +kernel
theorem dX8_runs_71 : decode cX8_runs 71 = .ok (.goto 4, 3) := by decide +kernel
theorem dX8_runs_74 : decode cX8_runs 74 = .ok (.iload_n 2, 1) := by decide +kernel
theorem dX8_runs_75 : decode cX8_runs 75 = .ok (.ireturn, 1) := by decide +kernel
theorem dX8_lower_0 : decode cX8_lower 0 = .ok (.aload_n 0, 1) := by decide +kernel
theorem dX8_lower_1 : decode cX8_lower 1 = .ok (.getfield 9, 3) := by decide +kernel
theorem dX8_lower_4 : decode cX8_lower 4 = .ok (.iload_n 3, 1) := by decide +kernel
theorem dX8_lower_5 : decode cX8_lower 5 = .ok (.iaload, 1) := by decide +kernel
theorem dX8_lower_6 : decode cX8_lower 6 = .ok (.iload_n 1, 1) := by decide +kernel
theorem dX8_lower_7 : decode cX8_lower 7 = .ok (.iconst (-1), 1) := by decide +kernel
theorem dX8_lower_8 : decode cX8_lower 8 = .ok (.if_icmp .ne 12, 3) := by decide +kernel
theorem dX8_lower_11 : decode cX8_lower 11 = .ok (.aload_n 0, 1) := by decide +kernel
theorem dX8_lower_12 : decode cX8_lower 12 = .ok (.getfield 9, 3) := by decide +kernel
theorem dX8_lower_15 : decode cX8_lower 15 = .ok (.iload_n 2, 1) := by decide +kernel
theorem dX8_lower_16 : decode cX8_lower 16 = .ok (.iaload, 1) := by decide +kernel
theorem dX8_lower_17 : decode cX8_lower 17 = .ok (.goto 9, 3) := by decide +kernel
theorem dX8_lower_20 : decode cX8_lower 20 = .ok (.aload_n 0, 1) := by decide +kernel
theorem dX8_lower_21 : decode cX8_lower 21 = .ok (.getfield 9, 3) := by decide +kernel
theorem dX8_lower_24 : decode cX8_lower 24 = .ok (.iload_n 1, 1) := by decide +kernel
theorem dX8_lower_25 : decode cX8_lower 25 = .ok (.iaload, 1) := by decide +kernel
theorem dX8_lower_26 : decode cX8_lower 26 = .ok (.if_icmp .ge 7, 3) := by decide +kernel
theorem dX8_lower_29 : decode cX8_lower 29 = .ok (.iload_n 3, 1) := by decide +kernel
theorem dX8_lower_30 : decode cX8_lower 30 = .ok (.goto 4, 3) := by decide +kernel
theorem dX8_lower_33 : decode cX8_lower 33 = .ok (.iload_n 1, 1) := by decide +kernel
theorem dX8_lower_34 : decode cX8_lower 34 = .ok (.ireturn, 1) := by decide +kernel
theorem dX8_rain_0 : decode cX8_rain 0 = .ok (.iconst 0, 1) := by decide +kernel
theorem dX8_rain_1 : decode cX8_rain 1 = .ok (.istore_n 2, 1) := by decide +kernel
theorem dX8_rain_2 : decode cX8_rain 2 = .ok (.iload_n 2, 1) := by decide +kernel
theorem dX8_rain_3 : decode cX8_rain 3 = .ok (.bipush 100, 2) := by decide +kernel
theorem dX8_rain_5 : decode cX8_rain 5 = .ok (.if_icmp .ge 16, 3) := by decide +kernel
theorem dX8_rain_8 : decode cX8_rain 8 = .ok (.aload_n 0, 1) := by decide +kernel
theorem dX8_rain_9 : decode cX8_rain 9 = .ok (.getfield 28, 3) := by decide +kernel
theorem dX8_rain_12 : decode cX8_rain 12 = .ok (.iload_n 2, 1) := by decide +kernel
theorem dX8_rain_13 : decode cX8_rain 13 = .ok (.iload_n 1, 1) := by decide +kernel
theorem dX8_rain_14 : decode cX8_rain 14 = .ok (.iastore, 1) := by decide +kernel
theorem dX8_rain_15 : decode cX8_rain 15 = .ok (.iinc 2 1, 3) := by decide +kernel
theorem dX8_rain_18 : decode cX8_rain 18 = .ok (.goto (-16), 3) := by decide +kernel
theorem dX8_rain_21 : decode cX8_rain 21 = .ok (.bipush 30, 2) := by decide +kernel
theorem dX8_rain_23 : decode cX8_rain 23 = .ok (.istore_n 2, 1) := by decide +kernel
theorem dX8_rain_24 : decode cX8_rain 24 = .ok (.iload_n 2, 1) := by decide +kernel
theorem dX8_rain_25 : decode cX8_rain 25 = .ok (.ifCond .le 79, 3) := by decide +kernel
theorem dX8_rain_28 : decode cX8_rain 28 = .ok (.iload_n 1, 1) := by decide +kernel
theorem dX8_rain_29 : decode cX8_rain 29 = .ok (.ifCond .le 75, 3) := by decide +kernel
theorem dX8_rain_32 : decode cX8_rain 32 = .ok (.iconst 0, 1) := by decide +kernel
theorem dX8_rain_33 : decode cX8_rain 33 = .ok (.istore_n 3, 1) := by decide +kernel
theorem dX8_rain_34 : decode cX8_rain 34 = .ok (.iload_n 3, 1) := by decide +kernel
theorem dX8_rain_35 : decode cX8_rain 35 = .ok (.bipush 100, 2) := by decide +kernel
theorem dX8_rain_37 : decode cX8_rain 37 = .ok (.if_icmp .ge 61, 3) := by decide +kernel
theorem dX8_rain_40 : decode cX8_rain 40 = .ok (.aload_n 0, 1) := by decide +kernel
theorem dX8_rain_41 : decode cX8_rain 41 = .ok (.getfield 9, 3) := by decide +kernel
theorem dX8_rain_44 : decode cX8_rain 44 = .ok (.iload_n 3, 1) := by decide +kernel
theorem dX8_rain_45 : decode cX8_rain 45 = .ok (.iaload, 1) := by decide +kernel
theorem dX8_rain_46 : decode cX8_rain 46 = .ok (.iload_n 2, 1) := by decide +kernel
theorem dX8_rain_47 : decode cX8_rain 47 = .ok (.if_icmp .ne 45, 3) := by decide +kernel
theorem dX8_rain_50 : decode cX8_rain 50 = .ok (.aload_n 0, 1) := by decide +kernel
theorem dX8_rain_51 : decode cX8_rain 51 = .ok (.getfield 13, 3) := by decide +kernel
theorem dX8_rain_54 : decode cX8_rain 54 = .ok (.iload_n 3, 1) := by decide +kernel
theorem dX8_rain_55 : decode cX8_rain 55 = .ok (.iaload, 1) := by decide +kernel
theorem dX8_rain_56 : decode cX8_rain 56 = .ok (.iconst 1, 1) := by decide +kernel
theorem dX8_rain_57 : decode cX8_rain 57 = .ok (.if_icmp .ne 6, 3) := by decide +kernel
theorem dX8_rain_60 : decode cX8_rain 60 = .ok (.goto 32, 3) := by decide +kernel
theorem dX8_rain_63 : decode cX8_rain 63 = .ok (.aload_n 0, 1) := by decide +kernel
theorem dX8_rain_64 : decode cX8_rain 64 = .ok (.iload_n 3, 1) := by decide +kernel
theorem dX8_rain_65 : decode cX8_rain 65 = .ok (.invokevirtual 151, 3) := by decide +kernel
theorem dX8_rain_68 : decode cX8_rain 68 = .ok (.istore 4, 2) := by decide +kernel
theorem dX8_rain_70 : decode cX8_rain 70 = .ok (.iload 4, 2) := by decide +kernel
theorem dX8_rain_72 : decode cX8_rain 72 = .ok (.iconst (-1), 1) := by decide +kernel
theorem dX8_rain_73 : decode cX8_rain 73 = .ok (.if_icmp .eq 19, 3) := by decide +kernel
theorem dX8_rain_76 : decode cX8_rain 76 = .ok (.aload_n 0, 1) := by decide +kernel
theorem dX8_rain_77 : decode cX8_rain 77 = .ok (.getfield 28, 3) := by decide +kernel
theorem dX8_rain_80 : decode cX8_rain 80 = .ok (.iload 4, 2) := by decide +kernel
theorem dX8_rain_82 : decode cX8_rain 82 = .ok (.dup2, 1) := by decide +kernel
theorem dX8_rain_83 : decode cX8_rain 83 = .ok (.iaload, 1) := by decide +kernel
theorem dX8_rain_84 : decode cX8_rain 84 = .ok (.aload_n 0, 1) := by decide +kernel
theorem dX8_rain_85 : decode cX8_rain 85 = .ok (.getfield 28, 3) := by decide +kernel
theorem dX8_rain_88 : decode cX8_rain 88 = .ok (.iload_n 3, 1) := by decide +kernel
theorem dX8_rain_89 : decode cX8_rain 89 = .ok (.iaload, 1) := by decide +kernel
theorem dX8_rain_90 : decode cX8_rain 90 = .ok (.iadd, 1) := by decide +kernel
theorem dX8_rain_91 : decode cX8_rain 91 = .ok (.iastore, 1) := by decide +kernel
theorem dX8_rain_92 : decode cX8_rain 92 = .ok (.iinc 3 1, 3) := by decide +kernel
theorem dX8_rain_95 : decode cX8_rain 95 = .ok (.goto (-61), 3) := by decide +kernel
theorem dX8_rain_98 : decode cX8_rain 98 = .ok (.iinc 2 (-1), 3) := by decide +kernel
theorem dX8_rain_101 : decode cX8_rain 101 = .ok (.goto (-77), 3) := by decide +kernel
theorem dX8_rain_104 : decode cX8_rain 104 = .ok (.return_, 1) := by decide +kernel
theorem dX8_flood_0 : decode cX8_flood 0 = .ok (.aload_n 0, 1) := by decide +kernel
theorem dX8_flood_1 : decode cX8_flood 1 = .ok (.iconst 0, 1) := by decide +kernel
theorem dX8_flood_2 : decode cX8_flood 2 = .ok (.putfield 46, 3) := by decide +kernel
theorem dX8_flood_5 : decode cX8_flood 5 = .ok (.iload_n 1, 1) := by decide +kernel
theorem dX8_flood_6 : decode cX8_flood 6 = .ok (.iconst 0, 1) := by decide +kernel
theorem dX8_flood_7 : decode cX8_flood 7 = .ok (.bipush 9, 2) := by decide +kernel
theorem dX8_flood_9 : decode cX8_flood 9 = .ok (.invokestatic 50, 3) := by decide +kernel
theorem dX8_flood_12 : decode cX8_flood 12 = .ok (.ifCond .ne 9, 3) := by decide +kernel
theorem dX8_flood_15 : decode cX8_flood 15 = .ok (.aload_n 0, 1) := by decide +kernel
theorem dX8_flood_16 : decode cX8_flood 16 = .ok (.iconst 1, 1) := by decide +kernel
theorem dX8_flood_17 : decode cX8_flood 17 = .ok (.invokevirtual 64, 3) := by decide +kernel
theorem dX8_flood_20 : decode cX8_flood 20 = .ok (.ireturn, 1) := by decide +kernel
theorem dX8_flood_21 : decode cX8_flood 21 = .ok (.iload_n 2, 1) := by decide +kernel
theorem dX8_flood_22 : decode cX8_flood 22 = .ok (.iload_n 3, 1) := by decide +kernel
theorem dX8_flood_23 : decode cX8_flood 23 = .ok (.invokestatic 60, 3) := by decide +kernel
theorem dX8_flood_26 : decode cX8_flood 26 = .ok (.ifCond .ne 9, 3) := by decide +kernel
theorem dX8_flood_29 : decode cX8_flood 29 = .ok (.aload_n 0, 1) := by decide +kernel
theorem dX8_flood_30 : decode cX8_flood 30 = .ok (.iconst 2, 1) := by decide +kernel
theorem dX8_flood_31 : decode cX8_flood 31 = .ok (.invokevirtual 64, 3) := by decide +kernel
theorem dX8_flood_34 : decode cX8_flood 34 = .ok (.ireturn, 1) := by decide +kernel
theorem dX8_flood_35 : decode cX8_flood 35 = .ok (.aload_n 0, 1) := by decide +kernel
theorem dX8_flood_36 : decode cX8_flood 36 = .ok (.iload_n 1, 1) := by decide +kernel
theorem dX8_flood_37 : decode cX8_flood 37 = .ok (.invokevirtual 154, 3) := by decide +kernel
theorem dX8_flood_40 : decode cX8_flood 40 = .ok (.aload_n 0, 1) := by decide +kernel
theorem dX8_flood_41 : decode cX8_flood 41 = .ok (.getfield 28, 3) := by decide +kernel
theorem dX8_flood_44 : decode cX8_flood 44 = .ok (.bipush 10, 2) := by decide +kernel
theorem dX8_flood_46 : decode cX8_flood 46 = .ok (.iload_n 3, 1) := by decide +kernel
theorem dX8_flood_47 : decode cX8_flood 47 = .ok (.imul, 1) := by decide +kernel
theorem dX8_flood_48 : decode cX8_flood 48 = .ok (.iload_n 2, 1) := by decide +kernel
theorem dX8_flood_49 : decode cX8_flood 49 = .ok (.iadd, 1) := by decide +kernel
theorem dX8_flood_50 : decode cX8_flood 50 = .ok (.iaload, 1) := by decide +kernel
theorem dX8_flood_51 : decode cX8_flood 51 = .ok (.ireturn, 1) := by decide +kernel
theorem dX8_greatest_0 : decode cX8_greatest 0 = .ok (.bipush 9, 2) := by decide +kernel
theorem dX8_greatest_2 : decode cX8_greatest 2 = .ok (.istore 4, 2) := by decide +kernel
theorem dX8_greatest_4 : decode cX8_greatest 4 = .ok (.iload 4, 2) := by decide +kernel
theorem dX8_greatest_6 : decode cX8_greatest 6 = .ok (.ifCond .le 60, 3) := by decide +kernel
theorem dX8_greatest_9 : decode cX8_greatest 9 = .ok (.aload_n 0, 1) := by decide +kernel
theorem dX8_greatest_10 : decode cX8_greatest 10 = .ok (.getfield 40, 3) := by decide +kernel
theorem dX8_greatest_13 : decode cX8_greatest 13 = .ok (.aload_n 0, 1) := by decide +kernel
theorem dX8_greatest_14 : decode cX8_greatest 14 = .ok (.getfield 36, 3) := by decide +kernel
theorem dX8_greatest_17 : decode cX8_greatest 17 = .ok (.invokevirtual 140, 3) := by decide +kernel
theorem dX8_greatest_20 : decode cX8_greatest 20 = .ok (.aload_n 0, 1) := by decide +kernel
theorem dX8_greatest_21 : decode cX8_greatest 21 = .ok (.getfield 40, 3) := by decide +kernel
theorem dX8_greatest_24 : decode cX8_greatest 24 = .ok (.getfield 99, 3) := by decide +kernel
theorem dX8_greatest_27 : decode cX8_greatest 27 = .ok (.iload_n 1, 1) := by decide +kernel
theorem dX8_greatest_28 : decode cX8_greatest 28 = .ok (.dup2, 1) := by decide +kernel
theorem dX8_greatest_29 : decode cX8_greatest 29 = .ok (.iaload, 1) := by decide +kernel
theorem dX8_greatest_30 : decode cX8_greatest 30 = .ok (.iload_n 2, 1) := by decide +kernel
theorem dX8_greatest_31 : decode cX8_greatest 31 = .ok (.ior, 1) := by decide +kernel
theorem dX8_greatest_32 : decode cX8_greatest 32 = .ok (.iastore, 1) := by decide +kernel
theorem dX8_greatest_33 : decode cX8_greatest 33 = .ok (.aload_n 0, 1) := by decide +kernel
theorem dX8_greatest_34 : decode cX8_greatest 34 = .ok (.getfield 40, 3) := by decide +kernel
theorem dX8_greatest_37 : decode cX8_greatest 37 = .ok (.iload 4, 2) := by decide +kernel
theorem dX8_greatest_39 : decode cX8_greatest 39 = .ok (.iload_n 3, 1) := by decide +kernel
theorem dX8_greatest_40 : decode cX8_greatest 40 = .ok (.invokevirtual 144, 3) := by decide +kernel
theorem dX8_greatest_43 : decode cX8_greatest 43 = .ok (.pop, 1) := by decide +kernel
theorem dX8_greatest_44 : decode cX8_greatest 44 = .ok (.aload_n 0, 1) := by decide +kernel
theorem dX8_greatest_45 : decode cX8_greatest 45 = .ok (.getfield 40, 3) := by decide +kernel
theorem dX8_greatest_48 : decode cX8_greatest 48 = .ok (.getfield 84, 3) := by decide +kernel
theorem dX8_greatest_51 : decode cX8_greatest 51 = .ok (.iload_n 1, 1) := by decide +kernel
theorem dX8_greatest_52 : decode cX8_greatest 52 = .ok (.iaload, 1) := by decide +kernel
theorem dX8_greatest_53 : decode cX8_greatest 53 = .ok (.iconst 1, 1) := by decide +kernel
theorem dX8_greatest_54 : decode cX8_greatest 54 = .ok (.if_icmp .ne 6, 3) := by decide +kernel
theorem dX8_greatest_57 : decode cX8_greatest 57 = .ok (.iload 4, 2) := by decide +kernel
theorem dX8_greatest_59 : decode cX8_greatest 59 = .ok (.ireturn, 1) := by decide +kernel
theorem dX8_greatest_60 : decode cX8_greatest 60 = .ok (.iinc 4 (-1), 3) := by decide +kernel
theorem dX8_greatest_63 : decode cX8_greatest 63 = .ok (.goto (-59), 3) := by decide +kernel
theorem dX8_greatest_66 : decode cX8_greatest 66 = .ok (.iconst 0, 1) := by decide +kernel
theorem dX8_greatest_67 : decode cX8_greatest 67 = .ok (.ireturn, 1) := by decide +kernel
theorem dX8_advise_0 : decode cX8_advise 0 = .ok (.aload_n 0, 1) := by decide +kernel
theorem dX8_advise_1 : decode cX8_advise 1 = .ok (.iconst 0, 1) := by decide +kernel
theorem dX8_advise_2 : decode cX8_advise 2 = .ok (.putfield 46, 3) := by decide +kernel
theorem dX8_advise_5 : decode cX8_advise 5 = .ok (.aload_n 0, 1) := by decide +kernel
theorem dX8_advise_6 : decode cX8_advise 6 = .ok (.iload_n 1, 1) := by decide +kernel
theorem dX8_advise_7 : decode cX8_advise 7 = .ok (.invokevirtual 90, 3) := by decide +kernel
theorem dX8_advise_10 : decode cX8_advise 10 = .ok (.ifCond .ne 9, 3) := by decide +kernel
theorem dX8_advise_13 : decode cX8_advise 13 = .ok (.aload_n 0, 1) := by decide +kernel
theorem dX8_advise_14 : decode cX8_advise 14 = .ok (.iconst 1, 1) := by decide +kernel
theorem dX8_advise_15 : decode cX8_advise 15 = .ok (.invokevirtual 64, 3) := by decide +kernel
theorem dX8_advise_18 : decode cX8_advise 18 = .ok (.ireturn, 1) := by decide +kernel
theorem dX8_advise_19 : decode cX8_advise 19 = .ok (.iload_n 2, 1) := by decide +kernel
theorem dX8_advise_20 : decode cX8_advise 20 = .ok (.iconst 0, 1) := by decide +kernel
theorem dX8_advise_21 : decode cX8_advise 21 = .ok (.iconst 3, 1) := by decide +kernel
theorem dX8_advise_22 : decode cX8_advise 22 = .ok (.invokestatic 50, 3) := by decide +kernel
theorem dX8_advise_25 : decode cX8_advise 25 = .ok (.ifCond .ne 9, 3) := by decide +kernel
theorem dX8_advise_28 : decode cX8_advise 28 = .ok (.aload_n 0, 1) := by decide +kernel
theorem dX8_advise_29 : decode cX8_advise 29 = .ok (.iconst 2, 1) := by decide +kernel
theorem dX8_advise_30 : decode cX8_advise 30 = .ok (.invokevirtual 64, 3) := by decide +kernel
theorem dX8_advise_33 : decode cX8_advise 33 = .ok (.ireturn, 1) := by decide +kernel
theorem dX8_advise_34 : decode cX8_advise 34 = .ok (.aload_n 0, 1) := by decide +kernel
theorem dX8_advise_35 : decode cX8_advise 35 = .ok (.getfield 36, 3) := by decide +kernel
theorem dX8_advise_38 : decode cX8_advise 38 = .ok (.getfield 84, 3) := by decide +kernel
theorem dX8_advise_41 : decode cX8_advise 41 = .ok (.iload_n 1, 1) := by decide +kernel
theorem dX8_advise_42 : decode cX8_advise 42 = .ok (.iaload, 1) := by decide +kernel
theorem dX8_advise_43 : decode cX8_advise 43 = .ok (.ifCond .eq 20, 3) := by decide +kernel
theorem dX8_advise_46 : decode cX8_advise 46 = .ok (.aload_n 0, 1) := by decide +kernel
theorem dX8_advise_47 : decode cX8_advise 47 = .ok (.getfield 36, 3) := by decide +kernel
theorem dX8_advise_50 : decode cX8_advise 50 = .ok (.getfield 99, 3) := by decide +kernel
theorem dX8_advise_53 : decode cX8_advise 53 = .ok (.iload_n 1, 1) := by decide +kernel
theorem dX8_advise_54 : decode cX8_advise 54 = .ok (.iaload, 1) := by decide +kernel
theorem dX8_advise_55 : decode cX8_advise 55 = .ok (.invokestatic 102, 3) := by decide +kernel
theorem dX8_advise_58 : decode cX8_advise 58 = .ok (.bipush 6, 2) := by decide +kernel
theorem dX8_advise_60 : decode cX8_advise 60 = .ok (.if_icmp .ne 5, 3) := by decide +kernel
theorem dX8_advise_63 : decode cX8_advise 63 = .ok (.iconst (-1), 1) := by decide +kernel
theorem dX8_advise_64 : decode cX8_advise 64 = .ok (.ireturn, 1) := by decide +kernel
theorem dX8_advise_65 : decode cX8_advise 65 = .ok (.aload_n 0, 1) := by decide +kernel
theorem dX8_advise_66 : decode cX8_advise 66 = .ok (.iload_n 1, 1) := by decide +kernel
theorem dX8_advise_67 : decode cX8_advise 67 = .ok (.iconst 0, 1) := by decide +kernel
theorem dX8_advise_68 : decode cX8_advise 68 = .ok (.iload_n 2, 1) := by decide +kernel
theorem dX8_advise_69 : decode cX8_advise 69 = .ok (.invokevirtual 158, 3) := by decide +kernel
theorem dX8_advise_72 : decode cX8_advise 72 = .ok (.istore_n 3, 1) := by decide +kernel
theorem dX8_advise_73 : decode cX8_advise 73 = .ok (.iconst (-1), 1) := by decide +kernel
theorem dX8_advise_74 : decode cX8_advise 74 = .ok (.istore 4, 2) := by decide +kernel
theorem dX8_advise_76 : decode cX8_advise 76 = .ok (.iconst 0, 1) := by decide +kernel
theorem dX8_advise_77 : decode cX8_advise 77 = .ok (.istore 5, 2) := by decide +kernel
theorem dX8_advise_79 : decode cX8_advise 79 = .ok (.iload 5, 2) := by decide +kernel
theorem dX8_advise_81 : decode cX8_advise 81 = .ok (.aload_n 0, 1) := by decide +kernel
theorem dX8_advise_82 : decode cX8_advise 82 = .ok (.getfield 54, 3) := by decide +kernel
theorem dX8_advise_85 : decode cX8_advise 85 = .ok (.if_icmp .ge 37, 3) := by decide +kernel
theorem dX8_advise_88 : decode cX8_advise 88 = .ok (.aload_n 0, 1) := by decide +kernel
theorem dX8_advise_89 : decode cX8_advise 89 = .ok (.iload_n 1, 1) := by decide +kernel
theorem dX8_advise_90 : decode cX8_advise 90 = .ok (.iconst 1, 1) := by decide +kernel
theorem dX8_advise_91 : decode cX8_advise 91 = .ok (.iload 5, 2) := by decide +kernel
theorem dX8_advise_93 : decode cX8_advise 93 = .ok (.ishl, 1) := by decide +kernel
theorem dX8_advise_94 : decode cX8_advise 94 = .ok (.iload_n 2, 1) := by decide +kernel
theorem dX8_advise_95 : decode cX8_advise 95 = .ok (.invokevirtual 158, 3) := by decide +kernel
theorem dX8_advise_98 : decode cX8_advise 98 = .ok (.istore 6, 2) := by decide +kernel
theorem dX8_advise_100 : decode cX8_advise 100 = .ok (.iload 6, 2) := by decide +kernel
theorem dX8_advise_102 : decode cX8_advise 102 = .ok (.iload_n 3, 1) := by decide +kernel
theorem dX8_advise_103 : decode cX8_advise 103 = .ok (.if_icmp .gt 6, 3) := by decide +kernel
theorem dX8_advise_106 : decode cX8_advise 106 = .ok (.goto 10, 3) := by decide +kernel
theorem dX8_advise_109 : decode cX8_advise 109 = .ok (.iload 6, 2) := by decide +kernel
theorem dX8_advise_111 : decode cX8_advise 111 = .ok (.istore_n 3, 1) := by decide +kernel
theorem dX8_advise_112 : decode cX8_advise 112 = .ok (.iload 5, 2) := by decide +kernel
theorem dX8_advise_114 : decode cX8_advise 114 = .ok (.istore 4, 2) := by decide +kernel
theorem dX8_advise_116 : decode cX8_advise 116 = .ok (.iinc 5 1, 3) := by decide +kernel
theorem dX8_advise_119 : decode cX8_advise 119 = .ok (.goto (-40), 3) := by decide +kernel
theorem dX8_advise_122 : decode cX8_advise 122 = .ok (.iload 4, 2) := by decide +kernel
theorem dX8_advise_124 : decode cX8_advise 124 = .ok (.ireturn, 1) := by decide +kernel
theorem dX8_pass_0 : decode cX8_pass 0 = .ok (.aload_n 0, 1) := by decide +kernel
theorem dX8_pass_1 : decode cX8_pass 1 = .ok (.iconst 0, 1) := by decide +kernel
theorem dX8_pass_2 : decode cX8_pass 2 = .ok (.putfield 46, 3) := by decide +kernel
theorem dX8_pass_5 : decode cX8_pass 5 = .ok (.iload_n 1, 1) := by decide +kernel
theorem dX8_pass_6 : decode cX8_pass 6 = .ok (.iconst 1, 1) := by decide +kernel
theorem dX8_pass_7 : decode cX8_pass 7 = .ok (.bipush 30, 2) := by decide +kernel
theorem dX8_pass_9 : decode cX8_pass 9 = .ok (.invokestatic 50, 3) := by decide +kernel
theorem dX8_pass_12 : decode cX8_pass 12 = .ok (.ifCond .ne 9, 3) := by decide +kernel
theorem dX8_pass_15 : decode cX8_pass 15 = .ok (.aload_n 0, 1) := by decide +kernel
theorem dX8_pass_16 : decode cX8_pass 16 = .ok (.iconst 1, 1) := by decide +kernel
theorem dX8_pass_17 : decode cX8_pass 17 = .ok (.invokevirtual 64, 3) := by decide +kernel
theorem dX8_pass_20 : decode cX8_pass 20 = .ok (.ireturn, 1) := by decide +kernel
theorem dX8_pass_21 : decode cX8_pass 21 = .ok (.aload_n 0, 1) := by decide +kernel
theorem dX8_pass_22 : decode cX8_pass 22 = .ok (.getfield 36, 3) := by decide +kernel
theorem dX8_pass_25 : decode cX8_pass 25 = .ok (.invokevirtual 124, 3) := by decide +kernel
theorem dX8_pass_28 : decode cX8_pass 28 = .ok (.istore_n 2, 1) := by decide +kernel
theorem dX8_pass_29 : decode cX8_pass 29 = .ok (.iconst 0, 1) := by decide +kernel
theorem dX8_pass_30 : decode cX8_pass 30 = .ok (.istore_n 3, 1) := by decide +kernel
theorem dX8_pass_31 : decode cX8_pass 31 = .ok (.iload_n 3, 1) := by decide +kernel
theorem dX8_pass_32 : decode cX8_pass 32 = .ok (.iload_n 1, 1) := by decide +kernel
theorem dX8_pass_33 : decode cX8_pass 33 = .ok (.if_icmp .ge 16, 3) := by decide +kernel
theorem dX8_pass_36 : decode cX8_pass 36 = .ok (.aload_n 0, 1) := by decide +kernel
theorem dX8_pass_37 : decode cX8_pass 37 = .ok (.getfield 36, 3) := by decide +kernel
theorem dX8_pass_40 : decode cX8_pass 40 = .ok (.invokevirtual 161, 3) := by decide +kernel
theorem dX8_pass_43 : decode cX8_pass 43 = .ok (.iinc 3 1, 3) := by decide +kernel
theorem dX8_pass_46 : decode cX8_pass 46 = .ok (.goto (-15), 3) := by decide +kernel
theorem dX8_pass_49 : decode cX8_pass 49 = .ok (.iload_n 2, 1) := by decide +kernel
theorem dX8_pass_50 : decode cX8_pass 50 = .ok (.aload_n 0, 1) := by decide +kernel
theorem dX8_pass_51 : decode cX8_pass 51 = .ok (.getfield 36, 3) := by decide +kernel
theorem dX8_pass_54 : decode cX8_pass 54 = .ok (.invokevirtual 124, 3) := by decide +kernel
theorem dX8_pass_57 : decode cX8_pass 57 = .ok (.isub, 1) := by decide +kernel
theorem dX8_pass_58 : decode cX8_pass 58 = .ok (.ireturn, 1) := by decide +kernel
theorem dX8_foresee_0 : decode cX8_foresee 0 = .ok (.aload_n 0, 1) := by decide +kernel
theorem dX8_foresee_1 : decode cX8_foresee 1 = .ok (.iconst 0, 1) := by decide +kernel
theorem dX8_foresee_2 : decode cX8_foresee 2 = .ok (.putfield 46, 3) := by decide +kernel
theorem dX8_foresee_5 : decode cX8_foresee 5 = .ok (.iload_n 1, 1) := by decide +kernel
theorem dX8_foresee_6 : decode cX8_foresee 6 = .ok (.iconst 1, 1) := by decide +kernel
theorem dX8_foresee_7 : decode cX8_foresee 7 = .ok (.bipush 30, 2) := by decide +kernel
theorem dX8_foresee_9 : decode cX8_foresee 9 = .ok (.invokestatic 50, 3) := by decide +kernel
theorem dX8_foresee_12 : decode cX8_foresee 12 = .ok (.ifCond .ne 9, 3) := by decide +kernel
theorem dX8_foresee_15 : decode cX8_foresee 15 = .ok (.aload_n 0, 1) := by decide +kernel
theorem dX8_foresee_16 : decode cX8_foresee 16 = .ok (.iconst 1, 1) := by decide +kernel
theorem dX8_foresee_17 : decode cX8_foresee 17 = .ok (.invokevirtual 64, 3) := by decide +kernel
theorem dX8_foresee_20 : decode cX8_foresee 20 = .ok (.ireturn, 1) := by decide +kernel
theorem dX8_foresee_21 : decode cX8_foresee 21 = .ok (.iload_n 2, 1) := by decide +kernel
theorem dX8_foresee_22 : decode cX8_foresee 22 = .ok (.iconst 0, 1) := by decide +kernel
theorem dX8_foresee_23 : decode cX8_foresee 23 = .ok (.iconst 2, 1) := by decide +kernel
theorem dX8_foresee_24 : decode cX8_foresee 24 = .ok (.invokestatic 50, 3) := by decide +kernel
theorem dX8_foresee_27 : decode cX8_foresee 27 = .ok (.ifCond .ne 9, 3) := by decide +kernel
theorem dX8_foresee_30 : decode cX8_foresee 30 = .ok (.aload_n 0, 1) := by decide +kernel
theorem dX8_foresee_31 : decode cX8_foresee 31 = .ok (.iconst 2, 1) := by decide +kernel
theorem dX8_foresee_32 : decode cX8_foresee 32 = .ok (.invokevirtual 64, 3) := by decide +kernel
theorem dX8_foresee_35 : decode cX8_foresee 35 = .ok (.ireturn, 1) := by decide +kernel
theorem dX8_foresee_36 : decode cX8_foresee 36 = .ok (.aload_n 0, 1) := by decide +kernel
theorem dX8_foresee_37 : decode cX8_foresee 37 = .ok (.getfield 40, 3) := by decide +kernel
theorem dX8_foresee_40 : decode cX8_foresee 40 = .ok (.aload_n 0, 1) := by decide +kernel
theorem dX8_foresee_41 : decode cX8_foresee 41 = .ok (.getfield 36, 3) := by decide +kernel
theorem dX8_foresee_44 : decode cX8_foresee 44 = .ok (.invokevirtual 140, 3) := by decide +kernel
theorem dX8_foresee_47 : decode cX8_foresee 47 = .ok (.iconst 0, 1) := by decide +kernel
theorem dX8_foresee_48 : decode cX8_foresee 48 = .ok (.istore_n 3, 1) := by decide +kernel
theorem dX8_foresee_49 : decode cX8_foresee 49 = .ok (.iload_n 3, 1) := by decide +kernel
theorem dX8_foresee_50 : decode cX8_foresee 50 = .ok (.iload_n 1, 1) := by decide +kernel
theorem dX8_foresee_51 : decode cX8_foresee 51 = .ok (.if_icmp .ge 16, 3) := by decide +kernel
theorem dX8_foresee_54 : decode cX8_foresee 54 = .ok (.aload_n 0, 1) := by decide +kernel
theorem dX8_foresee_55 : decode cX8_foresee 55 = .ok (.getfield 40, 3) := by decide +kernel
theorem dX8_foresee_58 : decode cX8_foresee 58 = .ok (.invokevirtual 161, 3) := by decide +kernel
theorem dX8_foresee_61 : decode cX8_foresee 61 = .ok (.iinc 3 1, 3) := by decide +kernel
theorem dX8_foresee_64 : decode cX8_foresee 64 = .ok (.goto (-15), 3) := by decide +kernel
theorem dX8_foresee_67 : decode cX8_foresee 67 = .ok (.iload_n 2, 1) := by decide +kernel
theorem dX8_foresee_68 : decode cX8_foresee 68 = .ok (.ifCond .ne 13, 3) := by decide +kernel
theorem dX8_foresee_71 : decode cX8_foresee 71 = .ok (.aload_n 0, 1) := by decide +kernel
theorem dX8_foresee_72 : decode cX8_foresee 72 = .ok (.getfield 40, 3) := by decide +kernel
theorem dX8_foresee_75 : decode cX8_foresee 75 = .ok (.invokevirtual 124, 3) := by decide +kernel
theorem dX8_foresee_78 : decode cX8_foresee 78 = .ok (.goto 25, 3) := by decide +kernel
theorem dX8_foresee_81 : decode cX8_foresee 81 = .ok (.iload_n 2, 1) := by decide +kernel
theorem dX8_foresee_82 : decode cX8_foresee 82 = .ok (.iconst 1, 1) := by decide +kernel
theorem dX8_foresee_83 : decode cX8_foresee 83 = .ok (.if_icmp .ne 13, 3) := by decide +kernel
theorem dX8_foresee_86 : decode cX8_foresee 86 = .ok (.aload_n 0, 1) := by decide +kernel
theorem dX8_foresee_87 : decode cX8_foresee 87 = .ok (.getfield 40, 3) := by decide +kernel
theorem dX8_foresee_90 : decode cX8_foresee 90 = .ok (.invokevirtual 127, 3) := by decide +kernel
theorem dX8_foresee_93 : decode cX8_foresee 93 = .ok (.goto 10, 3) := by decide +kernel
theorem dX8_foresee_96 : decode cX8_foresee 96 = .ok (.aload_n 0, 1) := by decide +kernel
theorem dX8_foresee_97 : decode cX8_foresee 97 = .ok (.getfield 40, 3) := by decide +kernel
theorem dX8_foresee_100 : decode cX8_foresee 100 = .ok (.invokevirtual 120, 3) := by decide +kernel
theorem dX8_foresee_103 : decode cX8_foresee 103 = .ok (.ireturn, 1) := by decide +kernel
theorem dX8_mean_0 : decode cX8_mean 0 = .ok (.aload_n 0, 1) := by decide +kernel
theorem dX8_mean_1 : decode cX8_mean 1 = .ok (.iconst 0, 1) := by decide +kernel
theorem dX8_mean_2 : decode cX8_mean 2 = .ok (.putfield 46, 3) := by decide +kernel
theorem dX8_mean_5 : decode cX8_mean 5 = .ok (.aload_n 0, 1) := by decide +kernel
theorem dX8_mean_6 : decode cX8_mean 6 = .ok (.getfield 36, 3) := by decide +kernel
theorem dX8_mean_9 : decode cX8_mean 9 = .ok (.getfield 43, 3) := by decide +kernel
theorem dX8_mean_12 : decode cX8_mean 12 = .ok (.bipush 100, 2) := by decide +kernel
theorem dX8_mean_14 : decode cX8_mean 14 = .ok (.invokestatic 130, 3) := by decide +kernel
theorem dX8_mean_17 : decode cX8_mean 17 = .ok (.i2d, 1) := by decide +kernel
theorem dX8_mean_18 : decode cX8_mean 18 = .ok (.ldc2_w 164, 3) := by decide +kernel
theorem dX8_mean_21 : decode cX8_mean 21 = .ok (.ddiv, 1) := by decide +kernel
theorem dX8_mean_22 : decode cX8_mean 22 = .ok (.dreturn, 1) := by decide +kernel
theorem dX8_digest_0 : decode cX8_digest 0 = .ok (.aload_n 0, 1) := by decide +kernel
theorem dX8_digest_1 : decode cX8_digest 1 = .ok (.iconst 0, 1) := by decide +kernel
theorem dX8_digest_2 : decode cX8_digest 2 = .ok (.putfield 46, 3) := by decide +kernel
theorem dX8_digest_5 : decode cX8_digest 5 = .ok (.ldc2_w 166, 3) := by decide +kernel
theorem dX8_digest_8 : decode cX8_digest 8 = .ok (.lstore_n 1, 1) := by decide +kernel
theorem dX8_digest_9 : decode cX8_digest 9 = .ok (.iconst 0, 1) := by decide +kernel
theorem dX8_digest_10 : decode cX8_digest 10 = .ok (.istore_n 3, 1) := by decide +kernel
theorem dX8_digest_11 : decode cX8_digest 11 = .ok (.iload_n 3, 1) := by decide +kernel
theorem dX8_digest_12 : decode cX8_digest 12 = .ok (.bipush 8, 2) := by decide +kernel
theorem dX8_digest_14 : decode cX8_digest 14 = .ok (.if_icmp .ge 22, 3) := by decide +kernel
theorem dX8_digest_17 : decode cX8_digest 17 = .ok (.lload_n 1, 1) := by decide +kernel
theorem dX8_digest_18 : decode cX8_digest 18 = .ok (.ldc2_w 168, 3) := by decide +kernel
theorem dX8_digest_21 : decode cX8_digest 21 = .ok (.lmul, 1) := by decide +kernel
theorem dX8_digest_22 : decode cX8_digest 22 = .ok (.aload_n 0, 1) := by decide +kernel
theorem dX8_digest_23 : decode cX8_digest 23 = .ok (.iload_n 3, 1) := by decide +kernel
theorem dX8_digest_24 : decode cX8_digest 24 = .ok (.invokevirtual 134, 3) := by decide +kernel
theorem dX8_digest_27 : decode cX8_digest 27 = .ok (.i2l, 1) := by decide +kernel
theorem dX8_digest_28 : decode cX8_digest 28 = .ok (.ladd, 1) := by decide +kernel
theorem dX8_digest_29 : decode cX8_digest 29 = .ok (.lstore_n 1, 1) := by decide +kernel
theorem dX8_digest_30 : decode cX8_digest 30 = .ok (.iinc 3 1, 3) := by decide +kernel
theorem dX8_digest_33 : decode cX8_digest 33 = .ok (.goto (-22), 3) := by decide +kernel
theorem dX8_digest_36 : decode cX8_digest 36 = .ok (.iconst 0, 1) := by decide +kernel
theorem dX8_digest_37 : decode cX8_digest 37 = .ok (.istore_n 3, 1) := by decide +kernel
theorem dX8_digest_38 : decode cX8_digest 38 = .ok (.iload_n 3, 1) := by decide +kernel
theorem dX8_digest_39 : decode cX8_digest 39 = .ok (.bipush 100, 2) := by decide +kernel
theorem dX8_digest_41 : decode cX8_digest 41 = .ok (.if_icmp .ge 39, 3) := by decide +kernel
theorem dX8_digest_44 : decode cX8_digest 44 = .ok (.iconst 0, 1) := by decide +kernel
theorem dX8_digest_45 : decode cX8_digest 45 = .ok (.istore 4, 2) := by decide +kernel
theorem dX8_digest_47 : decode cX8_digest 47 = .ok (.iload 4, 2) := by decide +kernel
theorem dX8_digest_49 : decode cX8_digest 49 = .ok (.iconst 5, 1) := by decide +kernel
theorem dX8_digest_50 : decode cX8_digest 50 = .ok (.if_icmp .ge 24, 3) := by decide +kernel
theorem dX8_digest_53 : decode cX8_digest 53 = .ok (.lload_n 1, 1) := by decide +kernel
theorem dX8_digest_54 : decode cX8_digest 54 = .ok (.ldc2_w 168, 3) := by decide +kernel
theorem dX8_digest_57 : decode cX8_digest 57 = .ok (.lmul, 1) := by decide +kernel
theorem dX8_digest_58 : decode cX8_digest 58 = .ok (.aload_n 0, 1) := by decide +kernel
theorem dX8_digest_59 : decode cX8_digest 59 = .ok (.iload_n 3, 1) := by decide +kernel
theorem dX8_digest_60 : decode cX8_digest 60 = .ok (.iload 4, 2) := by decide +kernel
theorem dX8_digest_62 : decode cX8_digest 62 = .ok (.invokevirtual 107, 3) := by decide +kernel
theorem dX8_digest_65 : decode cX8_digest 65 = .ok (.i2l, 1) := by decide +kernel
theorem dX8_digest_66 : decode cX8_digest 66 = .ok (.ladd, 1) := by decide +kernel
theorem dX8_digest_67 : decode cX8_digest 67 = .ok (.lstore_n 1, 1) := by decide +kernel
theorem dX8_digest_68 : decode cX8_digest 68 = .ok (.iinc 4 1, 3) := by decide +kernel
theorem dX8_digest_71 : decode cX8_digest 71 = .ok (.goto (-24), 3) := by decide +kernel
theorem dX8_digest_74 : decode cX8_digest 74 = .ok (.iinc 3 1, 3) := by decide +kernel
theorem dX8_digest_77 : decode cX8_digest 77 = .ok (.goto (-39), 3) := by decide +kernel
theorem dX8_digest_80 : decode cX8_digest 80 = .ok (.iconst 0, 1) := by decide +kernel
theorem dX8_digest_81 : decode cX8_digest 81 = .ok (.istore_n 3, 1) := by decide +kernel
theorem dX8_digest_82 : decode cX8_digest 82 = .ok (.iload_n 3, 1) := by decide +kernel
theorem dX8_digest_83 : decode cX8_digest 83 = .ok (.bipush 7, 2) := by decide +kernel
theorem dX8_digest_85 : decode cX8_digest 85 = .ok (.if_icmp .ge 23, 3) := by decide +kernel
theorem dX8_digest_88 : decode cX8_digest 88 = .ok (.lload_n 1, 1) := by decide +kernel
theorem dX8_digest_89 : decode cX8_digest 89 = .ok (.ldc2_w 168, 3) := by decide +kernel
theorem dX8_digest_92 : decode cX8_digest 92 = .ok (.lmul, 1) := by decide +kernel
theorem dX8_digest_93 : decode cX8_digest 93 = .ok (.aload_n 0, 1) := by decide +kernel
theorem dX8_digest_94 : decode cX8_digest 94 = .ok (.getfield 16, 3) := by decide +kernel
theorem dX8_digest_97 : decode cX8_digest 97 = .ok (.iload_n 3, 1) := by decide +kernel
theorem dX8_digest_98 : decode cX8_digest 98 = .ok (.iaload, 1) := by decide +kernel
theorem dX8_digest_99 : decode cX8_digest 99 = .ok (.i2l, 1) := by decide +kernel
theorem dX8_digest_100 : decode cX8_digest 100 = .ok (.ladd, 1) := by decide +kernel
theorem dX8_digest_101 : decode cX8_digest 101 = .ok (.lstore_n 1, 1) := by decide +kernel
theorem dX8_digest_102 : decode cX8_digest 102 = .ok (.iinc 3 1, 3) := by decide +kernel
theorem dX8_digest_105 : decode cX8_digest 105 = .ok (.goto (-23), 3) := by decide +kernel
theorem dX8_digest_108 : decode cX8_digest 108 = .ok (.iconst 0, 1) := by decide +kernel
theorem dX8_digest_109 : decode cX8_digest 109 = .ok (.istore_n 3, 1) := by decide +kernel
theorem dX8_digest_110 : decode cX8_digest 110 = .ok (.iload_n 3, 1) := by decide +kernel
theorem dX8_digest_111 : decode cX8_digest 111 = .ok (.aload_n 0, 1) := by decide +kernel
theorem dX8_digest_112 : decode cX8_digest 112 = .ok (.getfield 54, 3) := by decide +kernel
theorem dX8_digest_115 : decode cX8_digest 115 = .ok (.if_icmp .ge 39, 3) := by decide +kernel
theorem dX8_digest_118 : decode cX8_digest 118 = .ok (.iconst 0, 1) := by decide +kernel
theorem dX8_digest_119 : decode cX8_digest 119 = .ok (.istore 4, 2) := by decide +kernel
theorem dX8_digest_121 : decode cX8_digest 121 = .ok (.iload 4, 2) := by decide +kernel
theorem dX8_digest_123 : decode cX8_digest 123 = .ok (.iconst 5, 1) := by decide +kernel
theorem dX8_digest_124 : decode cX8_digest 124 = .ok (.if_icmp .ge 24, 3) := by decide +kernel
theorem dX8_digest_127 : decode cX8_digest 127 = .ok (.lload_n 1, 1) := by decide +kernel
theorem dX8_digest_128 : decode cX8_digest 128 = .ok (.ldc2_w 168, 3) := by decide +kernel
theorem dX8_digest_131 : decode cX8_digest 131 = .ok (.lmul, 1) := by decide +kernel
theorem dX8_digest_132 : decode cX8_digest 132 = .ok (.aload_n 0, 1) := by decide +kernel
theorem dX8_digest_133 : decode cX8_digest 133 = .ok (.iload_n 3, 1) := by decide +kernel
theorem dX8_digest_134 : decode cX8_digest 134 = .ok (.iload 4, 2) := by decide +kernel
theorem dX8_digest_136 : decode cX8_digest 136 = .ok (.invokevirtual 111, 3) := by decide +kernel
theorem dX8_digest_139 : decode cX8_digest 139 = .ok (.i2l, 1) := by decide +kernel
theorem dX8_digest_140 : decode cX8_digest 140 = .ok (.ladd, 1) := by decide +kernel
theorem dX8_digest_141 : decode cX8_digest 141 = .ok (.lstore_n 1, 1) := by decide +kernel
theorem dX8_digest_142 : decode cX8_digest 142 = .ok (.iinc 4 1, 3) := by decide +kernel
theorem dX8_digest_145 : decode cX8_digest 145 = .ok (.goto (-24), 3) := by decide +kernel
theorem dX8_digest_148 : decode cX8_digest 148 = .ok (.iinc 3 1, 3) := by decide +kernel
theorem dX8_digest_151 : decode cX8_digest 151 = .ok (.goto (-41), 3) := by decide +kernel
theorem dX8_digest_154 : decode cX8_digest 154 = .ok (.iconst 0, 1) := by decide +kernel
theorem dX8_digest_155 : decode cX8_digest 155 = .ok (.istore_n 3, 1) := by decide +kernel
theorem dX8_digest_156 : decode cX8_digest 156 = .ok (.iload_n 3, 1) := by decide +kernel
theorem dX8_digest_157 : decode cX8_digest 157 = .ok (.aload_n 0, 1) := by decide +kernel
theorem dX8_digest_158 : decode cX8_digest 158 = .ok (.getfield 57, 3) := by decide +kernel
theorem dX8_digest_161 : decode cX8_digest 161 = .ok (.if_icmp .ge 84, 3) := by decide +kernel
theorem dX8_digest_164 : decode cX8_digest 164 = .ok (.iconst 0, 1) := by decide +kernel
theorem dX8_digest_165 : decode cX8_digest 165 = .ok (.istore 4, 2) := by decide +kernel
theorem dX8_digest_167 : decode cX8_digest 167 = .ok (.iload 4, 2) := by decide +kernel
theorem dX8_digest_169 : decode cX8_digest 169 = .ok (.bipush 7, 2) := by decide +kernel
theorem dX8_digest_171 : decode cX8_digest 171 = .ok (.if_icmp .ge 24, 3) := by decide +kernel
theorem dX8_digest_174 : decode cX8_digest 174 = .ok (.lload_n 1, 1) := by decide +kernel
theorem dX8_digest_175 : decode cX8_digest 175 = .ok (.ldc2_w 168, 3) := by decide +kernel
theorem dX8_digest_178 : decode cX8_digest 178 = .ok (.lmul, 1) := by decide +kernel
theorem dX8_digest_179 : decode cX8_digest 179 = .ok (.aload_n 0, 1) := by decide +kernel
theorem dX8_digest_180 : decode cX8_digest 180 = .ok (.iload_n 3, 1) := by decide +kernel
theorem dX8_digest_181 : decode cX8_digest 181 = .ok (.iload 4, 2) := by decide +kernel
theorem dX8_digest_183 : decode cX8_digest 183 = .ok (.invokevirtual 114, 3) := by decide +kernel
theorem dX8_digest_186 : decode cX8_digest 186 = .ok (.i2l, 1) := by decide +kernel
theorem dX8_digest_187 : decode cX8_digest 187 = .ok (.ladd, 1) := by decide +kernel
theorem dX8_digest_188 : decode cX8_digest 188 = .ok (.lstore_n 1, 1) := by decide +kernel
theorem dX8_digest_189 : decode cX8_digest 189 = .ok (.iinc 4 1, 3) := by decide +kernel
theorem dX8_digest_192 : decode cX8_digest 192 = .ok (.goto (-25), 3) := by decide +kernel
theorem dX8_digest_195 : decode cX8_digest 195 = .ok (.iconst 0, 1) := by decide +kernel
theorem dX8_digest_196 : decode cX8_digest 196 = .ok (.istore 4, 2) := by decide +kernel
theorem dX8_digest_198 : decode cX8_digest 198 = .ok (.iload 4, 2) := by decide +kernel
theorem dX8_digest_200 : decode cX8_digest 200 = .ok (.aload_n 0, 1) := by decide +kernel
theorem dX8_digest_201 : decode cX8_digest 201 = .ok (.getfield 54, 3) := by decide +kernel
theorem dX8_digest_204 : decode cX8_digest 204 = .ok (.if_icmp .ge 35, 3) := by decide +kernel
theorem dX8_digest_207 : decode cX8_digest 207 = .ok (.lload_n 1, 1) := by decide +kernel
theorem dX8_digest_208 : decode cX8_digest 208 = .ok (.ldc2_w 168, 3) := by decide +kernel
theorem dX8_digest_211 : decode cX8_digest 211 = .ok (.lmul, 1) := by decide +kernel
theorem dX8_digest_212 : decode cX8_digest 212 = .ok (.aload_n 0, 1) := by decide +kernel
theorem dX8_digest_213 : decode cX8_digest 213 = .ok (.getfield 36, 3) := by decide +kernel
theorem dX8_digest_216 : decode cX8_digest 216 = .ok (.iload_n 3, 1) := by decide +kernel
theorem dX8_digest_217 : decode cX8_digest 217 = .ok (.iload 4, 2) := by decide +kernel
theorem dX8_digest_219 : decode cX8_digest 219 = .ok (.invokevirtual 87, 3) := by decide +kernel
theorem dX8_digest_222 : decode cX8_digest 222 = .ok (.ifCond .eq 7, 3) := by decide +kernel
theorem dX8_digest_225 : decode cX8_digest 225 = .ok (.iconst 1, 1) := by decide +kernel
theorem dX8_digest_226 : decode cX8_digest 226 = .ok (.goto 4, 3) := by decide +kernel
theorem dX8_digest_229 : decode cX8_digest 229 = .ok (.iconst 0, 1) := by decide +kernel
theorem dX8_digest_230 : decode cX8_digest 230 = .ok (.i2l, 1) := by decide +kernel
theorem dX8_digest_231 : decode cX8_digest 231 = .ok (.ladd, 1) := by decide +kernel
theorem dX8_digest_232 : decode cX8_digest 232 = .ok (.lstore_n 1, 1) := by decide +kernel
theorem dX8_digest_233 : decode cX8_digest 233 = .ok (.iinc 4 1, 3) := by decide +kernel
theorem dX8_digest_236 : decode cX8_digest 236 = .ok (.goto (-38), 3) := by decide +kernel
theorem dX8_digest_239 : decode cX8_digest 239 = .ok (.iinc 3 1, 3) := by decide +kernel
theorem dX8_digest_242 : decode cX8_digest 242 = .ok (.goto (-86), 3) := by decide +kernel
theorem dX8_digest_245 : decode cX8_digest 245 = .ok (.lload_n 1, 1) := by decide +kernel
theorem dX8_digest_246 : decode cX8_digest 246 = .ok (.lreturn, 1) := by decide +kernel
