theorem cm_166 : CM 166 11 3 := CM_of (by decide +kernel)
theorem c166_0 : CF 166 0 (some .boolean) (.iload 0) 0 0 1 0 := CF_of (by decide +kernel)
theorem c166_1 : CF 166 1 (some .boolean) (.iload 1) 0 0 2 0 := CF_of (by decide +kernel)
theorem c166_2 : CF 166 2 (some .boolean) (.if_icmp .lt 12) 0 0 5 14 := CF_of (by decide +kernel)
theorem c166_5 : CF 166 5 (some .boolean) (.iload 0) 0 0 6 0 := CF_of (by decide +kernel)
theorem c166_6 : CF 166 6 (some .boolean) (.iload 2) 0 0 7 0 := CF_of (by decide +kernel)
theorem c166_7 : CF 166 7 (some .boolean) (.if_icmp .gt 7) 0 0 10 14 := CF_of (by decide +kernel)
theorem c166_10 : CF 166 10 (some .boolean) (.iconst 1) 0 0 11 0 := CF_of (by decide +kernel)
theorem c166_11 : CF 166 11 (some .boolean) (.goto 4) 0 0 14 15 := CF_of (by decide +kernel)
theorem c166_14 : CF 166 14 (some .boolean) (.iconst 0) 0 0 15 0 := CF_of (by decide +kernel)
theorem c166_15 : CF 166 15 (some .boolean) .ireturn 0 0 16 0 := CF_of (by decide +kernel)
theorem cm_167 : CM 167 11 1 := CM_of (by decide +kernel)
theorem c167_0 : CF 167 0 (some .boolean) (.iload 0) 0 0 1 0 := CF_of (by decide +kernel)
theorem c167_1 : CF 167 1 (some .boolean) (.ifCond .eq 8) 0 0 4 9 := CF_of (by decide +kernel)
theorem c167_4 : CF 167 4 (some .boolean) (.iload 0) 0 0 5 0 := CF_of (by decide +kernel)
theorem c167_5 : CF 167 5 (some .boolean) (.iconst 1) 0 0 6 0 := CF_of (by decide +kernel)
theorem c167_6 : CF 167 6 (some .boolean) (.if_icmp .ne 7) 0 0 9 13 := CF_of (by decide +kernel)
theorem c167_9 : CF 167 9 (some .boolean) (.iconst 1) 0 0 10 0 := CF_of (by decide +kernel)
theorem c167_10 : CF 167 10 (some .boolean) (.goto 4) 0 0 13 14 := CF_of (by decide +kernel)
theorem c167_13 : CF 167 13 (some .boolean) (.iconst 0) 0 0 14 0 := CF_of (by decide +kernel)
theorem c167_14 : CF 167 14 (some .boolean) .ireturn 0 0 15 0 := CF_of (by decide +kernel)
theorem cm_168 : CM 168 11 2 := CM_of (by decide +kernel)
theorem c168_0 : CF 168 0 (some (.object "HireYard$Kind")) (.iload 1) 0 0 1 0 := CF_of (by decide +kernel)
theorem c168_1 : CF 168 1 (some (.object "HireYard$Kind")) (.ifCond .lt 21) 0 0 4 22 := CF_of (by decide +kernel)
theorem c168_4 : CF 168 4 (some (.object "HireYard$Kind")) (.iload 1) 0 0 5 0 := CF_of (by decide +kernel)
theorem c168_5 : CF 168 5 (some (.object "HireYard$Kind")) (.aload 0) 0 0 6 0 := CF_of (by decide +kernel)
theorem c168_6 : CF 168 6 (some (.object "HireYard$Kind")) (.getfield 22) 11 4 9 0 := CF_of (by decide +kernel)
theorem c168_9 : CF 168 9 (some (.object "HireYard$Kind")) .arraylength 0 0 10 0 := CF_of (by decide +kernel)
theorem c168_10 : CF 168 10 (some (.object "HireYard$Kind")) (.if_icmp .ge 12) 0 0 13 22 := CF_of (by decide +kernel)
theorem c168_13 : CF 168 13 (some (.object "HireYard$Kind")) (.aload 0) 0 0 14 0 := CF_of (by decide +kernel)
theorem c168_14 : CF 168 14 (some (.object "HireYard$Kind")) (.getfield 22) 11 4 17 0 := CF_of (by decide +kernel)
theorem c168_17 : CF 168 17 (some (.object "HireYard$Kind")) (.iload 1) 0 0 18 0 := CF_of (by decide +kernel)
theorem c168_18 : CF 168 18 (some (.object "HireYard$Kind")) .aaload 0 0 19 0 := CF_of (by decide +kernel)
theorem c168_19 : CF 168 19 (some (.object "HireYard$Kind")) (.goto 4) 0 0 22 23 := CF_of (by decide +kernel)
theorem c168_22 : CF 168 22 (some (.object "HireYard$Kind")) .aconst_null 0 0 23 0 := CF_of (by decide +kernel)
theorem c168_23 : CF 168 23 (some (.object "HireYard$Kind")) .areturn 0 0 24 0 := CF_of (by decide +kernel)
theorem cm_169 : CM 169 11 2 := CM_of (by decide +kernel)
theorem c169_0 : CF 169 0 (some (.object "HireYard$Machine")) (.iload 1) 0 0 1 0 := CF_of (by decide +kernel)
theorem c169_1 : CF 169 1 (some (.object "HireYard$Machine")) (.ifCond .lt 21) 0 0 4 22 := CF_of (by decide +kernel)
theorem c169_4 : CF 169 4 (some (.object "HireYard$Machine")) (.iload 1) 0 0 5 0 := CF_of (by decide +kernel)
theorem c169_5 : CF 169 5 (some (.object "HireYard$Machine")) (.aload 0) 0 0 6 0 := CF_of (by decide +kernel)
theorem c169_6 : CF 169 6 (some (.object "HireYard$Machine")) (.getfield 28) 11 6 9 0 := CF_of (by decide +kernel)
theorem c169_9 : CF 169 9 (some (.object "HireYard$Machine")) .arraylength 0 0 10 0 := CF_of (by decide +kernel)
theorem c169_10 : CF 169 10 (some (.object "HireYard$Machine")) (.if_icmp .ge 12) 0 0 13 22 := CF_of (by decide +kernel)
theorem c169_13 : CF 169 13 (some (.object "HireYard$Machine")) (.aload 0) 0 0 14 0 := CF_of (by decide +kernel)
theorem c169_14 : CF 169 14 (some (.object "HireYard$Machine")) (.getfield 28) 11 6 17 0 := CF_of (by decide +kernel)
theorem c169_17 : CF 169 17 (some (.object "HireYard$Machine")) (.iload 1) 0 0 18 0 := CF_of (by decide +kernel)
theorem c169_18 : CF 169 18 (some (.object "HireYard$Machine")) .aaload 0 0 19 0 := CF_of (by decide +kernel)
theorem c169_19 : CF 169 19 (some (.object "HireYard$Machine")) (.goto 4) 0 0 22 23 := CF_of (by decide +kernel)
theorem c169_22 : CF 169 22 (some (.object "HireYard$Machine")) .aconst_null 0 0 23 0 := CF_of (by decide +kernel)
theorem c169_23 : CF 169 23 (some (.object "HireYard$Machine")) .areturn 0 0 24 0 := CF_of (by decide +kernel)
theorem cm_170 : CM 170 11 2 := CM_of (by decide +kernel)
theorem c170_0 : CF 170 0 (some (.object "HireYard$Order")) (.iload 1) 0 0 1 0 := CF_of (by decide +kernel)
theorem c170_1 : CF 170 1 (some (.object "HireYard$Order")) (.ifCond .lt 21) 0 0 4 22 := CF_of (by decide +kernel)
theorem c170_4 : CF 170 4 (some (.object "HireYard$Order")) (.iload 1) 0 0 5 0 := CF_of (by decide +kernel)
theorem c170_5 : CF 170 5 (some (.object "HireYard$Order")) (.aload 0) 0 0 6 0 := CF_of (by decide +kernel)
theorem c170_6 : CF 170 6 (some (.object "HireYard$Order")) (.getfield 41) 11 11 9 0 := CF_of (by decide +kernel)
theorem c170_9 : CF 170 9 (some (.object "HireYard$Order")) .arraylength 0 0 10 0 := CF_of (by decide +kernel)
theorem c170_10 : CF 170 10 (some (.object "HireYard$Order")) (.if_icmp .ge 12) 0 0 13 22 := CF_of (by decide +kernel)
theorem c170_13 : CF 170 13 (some (.object "HireYard$Order")) (.aload 0) 0 0 14 0 := CF_of (by decide +kernel)
theorem c170_14 : CF 170 14 (some (.object "HireYard$Order")) (.getfield 41) 11 11 17 0 := CF_of (by decide +kernel)
theorem c170_17 : CF 170 17 (some (.object "HireYard$Order")) (.iload 1) 0 0 18 0 := CF_of (by decide +kernel)
theorem c170_18 : CF 170 18 (some (.object "HireYard$Order")) .aaload 0 0 19 0 := CF_of (by decide +kernel)
theorem c170_19 : CF 170 19 (some (.object "HireYard$Order")) (.goto 4) 0 0 22 23 := CF_of (by decide +kernel)
theorem c170_22 : CF 170 22 (some (.object "HireYard$Order")) .aconst_null 0 0 23 0 := CF_of (by decide +kernel)
theorem c170_23 : CF 170 23 (some (.object "HireYard$Order")) .areturn 0 0 24 0 := CF_of (by decide +kernel)
theorem cm_85 : CM 85 8 2 := CM_of (by decide +kernel)
theorem c85_0 : CF 85 0 (some .boolean) (.iload 1) 0 0 1 0 := CF_of (by decide +kernel)
theorem c85_1 : CF 85 1 (some .boolean) (.ifCond .lt 15) 0 0 4 16 := CF_of (by decide +kernel)
theorem c85_4 : CF 85 4 (some .boolean) (.iload 1) 0 0 5 0 := CF_of (by decide +kernel)
theorem c85_5 : CF 85 5 (some .boolean) (.aload 0) 0 0 6 0 := CF_of (by decide +kernel)
theorem c85_6 : CF 85 6 (some .boolean) (.getfield 23) 8 3 9 0 := CF_of (by decide +kernel)
theorem c85_9 : CF 85 9 (some .boolean) (.if_icmp .ge 7) 0 0 12 16 := CF_of (by decide +kernel)
theorem c85_12 : CF 85 12 (some .boolean) (.iconst 1) 0 0 13 0 := CF_of (by decide +kernel)
theorem c85_13 : CF 85 13 (some .boolean) (.goto 4) 0 0 16 17 := CF_of (by decide +kernel)
theorem c85_16 : CF 85 16 (some .boolean) (.iconst 0) 0 0 17 0 := CF_of (by decide +kernel)
theorem c85_17 : CF 85 17 (some .boolean) .ireturn 0 0 18 0 := CF_of (by decide +kernel)
theorem cm_86 : CM 86 8 2 := CM_of (by decide +kernel)
theorem c86_0 : CF 86 0 (some .boolean) (.aload 0) 0 0 1 0 := CF_of (by decide +kernel)
theorem c86_1 : CF 86 1 (some .boolean) (.iload 1) 0 0 2 0 := CF_of (by decide +kernel)
theorem c86_2 : CF 86 2 (some .boolean) (.invokevirtual 27) 85 1 5 0 := CF_of (by decide +kernel)
theorem c86_5 : CF 86 5 (some .boolean) (.ifCond .eq 16) 0 0 8 21 := CF_of (by decide +kernel)
theorem c86_8 : CF 86 8 (some .boolean) (.aload 0) 0 0 9 0 := CF_of (by decide +kernel)
theorem c86_9 : CF 86 9 (some .boolean) (.getfield 9) 8 0 12 0 := CF_of (by decide +kernel)
theorem c86_12 : CF 86 12 (some .boolean) (.iload 1) 0 0 13 0 := CF_of (by decide +kernel)
theorem c86_13 : CF 86 13 (some .boolean) .baload 0 0 14 0 := CF_of (by decide +kernel)
theorem c86_14 : CF 86 14 (some .boolean) (.ifCond .eq 7) 0 0 17 21 := CF_of (by decide +kernel)
theorem c86_17 : CF 86 17 (some .boolean) (.iconst 1) 0 0 18 0 := CF_of (by decide +kernel)
theorem c86_18 : CF 86 18 (some .boolean) (.goto 4) 0 0 21 22 := CF_of (by decide +kernel)
theorem c86_21 : CF 86 21 (some .boolean) (.iconst 0) 0 0 22 0 := CF_of (by decide +kernel)
theorem c86_22 : CF 86 22 (some .boolean) .ireturn 0 0 23 0 := CF_of (by decide +kernel)
theorem cm_84 : CM 84 8 3 := CM_of (by decide +kernel)
theorem c84_0 : CF 84 0 (some .int) (.aload 0) 0 0 1 0 := CF_of (by decide +kernel)
theorem c84_1 : CF 84 1 (some .int) (.getfield 23) 8 3 4 0 := CF_of (by decide +kernel)
theorem c84_4 : CF 84 4 (some .int) (.iconst 12) 0 0 6 0 := CF_of (by decide +kernel)
theorem c84_6 : CF 84 6 (some .int) (.if_icmp .lt 6) 0 0 9 12 := CF_of (by decide +kernel)
theorem c84_9 : CF 84 9 (some .int) (.iconst (-3)) 0 0 11 0 := CF_of (by decide +kernel)
theorem c84_11 : CF 84 11 (some .int) .ireturn 0 0 12 0 := CF_of (by decide +kernel)
theorem c84_12 : CF 84 12 (some .int) (.aload 0) 0 0 13 0 := CF_of (by decide +kernel)
theorem c84_13 : CF 84 13 (some .int) (.getfield 9) 8 0 16 0 := CF_of (by decide +kernel)
theorem c84_16 : CF 84 16 (some .int) (.aload 0) 0 0 17 0 := CF_of (by decide +kernel)
theorem c84_17 : CF 84 17 (some .int) (.getfield 23) 8 3 20 0 := CF_of (by decide +kernel)
theorem c84_20 : CF 84 20 (some .int) (.iload 1) 0 0 21 0 := CF_of (by decide +kernel)
theorem c84_21 : CF 84 21 (some .int) (.iconst 1) 0 0 22 0 := CF_of (by decide +kernel)
theorem c84_22 : CF 84 22 (some .int) (.if_icmp .ne 7) 0 0 25 29 := CF_of (by decide +kernel)
theorem c84_25 : CF 84 25 (some .int) (.iconst 1) 0 0 26 0 := CF_of (by decide +kernel)
theorem c84_26 : CF 84 26 (some .int) (.goto 4) 0 0 29 30 := CF_of (by decide +kernel)
theorem c84_29 : CF 84 29 (some .int) (.iconst 0) 0 0 30 0 := CF_of (by decide +kernel)
theorem c84_30 : CF 84 30 (some .int) .bastore 0 0 31 0 := CF_of (by decide +kernel)
theorem c84_31 : CF 84 31 (some .int) (.iconst 0) 0 0 32 0 := CF_of (by decide +kernel)
theorem c84_32 : CF 84 32 (some .int) (.istore 2) 0 0 33 0 := CF_of (by decide +kernel)
theorem c84_33 : CF 84 33 (some .int) (.iload 2) 0 0 34 0 := CF_of (by decide +kernel)
theorem c84_34 : CF 84 34 (some .int) (.aload 0) 0 0 35 0 := CF_of (by decide +kernel)
theorem c84_35 : CF 84 35 (some .int) (.getfield 23) 8 3 38 0 := CF_of (by decide +kernel)
theorem c84_38 : CF 84 38 (some .int) (.if_icmp .ge 33) 0 0 41 71 := CF_of (by decide +kernel)
theorem c84_41 : CF 84 41 (some .int) (.aload 0) 0 0 42 0 := CF_of (by decide +kernel)
theorem c84_42 : CF 84 42 (some .int) (.getfield 20) 8 2 45 0 := CF_of (by decide +kernel)
theorem c84_45 : CF 84 45 (some .int) (.iload 2) 0 0 46 0 := CF_of (by decide +kernel)
theorem c84_46 : CF 84 46 (some .int) .aaload 0 0 47 0 := CF_of (by decide +kernel)
theorem c84_47 : CF 84 47 (some .int) (.aload 0) 0 0 48 0 := CF_of (by decide +kernel)
theorem c84_48 : CF 84 48 (some .int) (.getfield 23) 8 3 51 0 := CF_of (by decide +kernel)
theorem c84_51 : CF 84 51 (some .int) (.iconst (-1)) 0 0 52 0 := CF_of (by decide +kernel)
theorem c84_52 : CF 84 52 (some .int) .iastore 0 0 53 0 := CF_of (by decide +kernel)
theorem c84_53 : CF 84 53 (some .int) (.aload 0) 0 0 54 0 := CF_of (by decide +kernel)
theorem c84_54 : CF 84 54 (some .int) (.getfield 20) 8 2 57 0 := CF_of (by decide +kernel)
theorem c84_57 : CF 84 57 (some .int) (.aload 0) 0 0 58 0 := CF_of (by decide +kernel)
theorem c84_58 : CF 84 58 (some .int) (.getfield 23) 8 3 61 0 := CF_of (by decide +kernel)
theorem c84_61 : CF 84 61 (some .int) .aaload 0 0 62 0 := CF_of (by decide +kernel)
theorem c84_62 : CF 84 62 (some .int) (.iload 2) 0 0 63 0 := CF_of (by decide +kernel)
theorem c84_63 : CF 84 63 (some .int) (.iconst (-1)) 0 0 64 0 := CF_of (by decide +kernel)
theorem c84_64 : CF 84 64 (some .int) .iastore 0 0 65 0 := CF_of (by decide +kernel)
theorem c84_65 : CF 84 65 (some .int) (.iinc 2 1) 0 0 68 0 := CF_of (by decide +kernel)
theorem c84_68 : CF 84 68 (some .int) (.goto (-35)) 0 0 71 33 := CF_of (by decide +kernel)
theorem c84_71 : CF 84 71 (some .int) (.aload 0) 0 0 72 0 := CF_of (by decide +kernel)
theorem c84_72 : CF 84 72 (some .int) .dup 0 0 73 0 := CF_of (by decide +kernel)
theorem c84_73 : CF 84 73 (some .int) (.getfield 23) 8 3 76 0 := CF_of (by decide +kernel)
theorem c84_76 : CF 84 76 (some .int) .dup_x1 0 0 77 0 := CF_of (by decide +kernel)
theorem c84_77 : CF 84 77 (some .int) (.iconst 1) 0 0 78 0 := CF_of (by decide +kernel)
theorem c84_78 : CF 84 78 (some .int) .iadd 0 0 79 0 := CF_of (by decide +kernel)
theorem c84_79 : CF 84 79 (some .int) (.putfield 23) 8 3 82 0 := CF_of (by decide +kernel)
theorem c84_82 : CF 84 82 (some .int) .ireturn 0 0 83 0 := CF_of (by decide +kernel)
theorem cm_88 : CM 88 8 7 := CM_of (by decide +kernel)
theorem c88_0 : CF 88 0 none (.iload 3) 0 0 1 0 := CF_of (by decide +kernel)
theorem c88_1 : CF 88 1 none (.ifCond .lt 24) 0 0 4 25 := CF_of (by decide +kernel)
theorem c88_4 : CF 88 4 none (.iload 5) 0 0 6 0 := CF_of (by decide +kernel)
theorem c88_6 : CF 88 6 none (.ifCond .lt 19) 0 0 9 25 := CF_of (by decide +kernel)
theorem c88_9 : CF 88 9 none (.aload 0) 0 0 10 0 := CF_of (by decide +kernel)
theorem c88_10 : CF 88 10 none (.iload 1) 0 0 11 0 := CF_of (by decide +kernel)
theorem c88_11 : CF 88 11 none (.invokevirtual 27) 85 1 14 0 := CF_of (by decide +kernel)
theorem c88_14 : CF 88 14 none (.ifCond .eq 11) 0 0 17 25 := CF_of (by decide +kernel)
theorem c88_17 : CF 88 17 none (.aload 0) 0 0 18 0 := CF_of (by decide +kernel)
theorem c88_18 : CF 88 18 none (.iload 2) 0 0 19 0 := CF_of (by decide +kernel)
theorem c88_19 : CF 88 19 none (.invokevirtual 27) 85 1 22 0 := CF_of (by decide +kernel)
theorem c88_22 : CF 88 22 none (.ifCond .ne 4) 0 0 25 26 := CF_of (by decide +kernel)
theorem c88_25 : CF 88 25 none .return_ 0 0 26 0 := CF_of (by decide +kernel)
theorem c88_26 : CF 88 26 none (.iload 3) 0 0 27 0 := CF_of (by decide +kernel)
theorem c88_27 : CF 88 27 none (.iload 4) 0 0 29 0 := CF_of (by decide +kernel)
theorem c88_29 : CF 88 29 none .iadd 0 0 30 0 := CF_of (by decide +kernel)
theorem c88_30 : CF 88 30 none (.iload 5) 0 0 32 0 := CF_of (by decide +kernel)
theorem c88_32 : CF 88 32 none .iadd 0 0 33 0 := CF_of (by decide +kernel)
theorem c88_33 : CF 88 33 none (.istore 6) 0 0 35 0 := CF_of (by decide +kernel)
theorem c88_35 : CF 88 35 none (.aload 0) 0 0 36 0 := CF_of (by decide +kernel)
theorem c88_36 : CF 88 36 none (.getfield 20) 8 2 39 0 := CF_of (by decide +kernel)
theorem c88_39 : CF 88 39 none (.iload 1) 0 0 40 0 := CF_of (by decide +kernel)
theorem c88_40 : CF 88 40 none .aaload 0 0 41 0 := CF_of (by decide +kernel)
theorem c88_41 : CF 88 41 none (.iload 2) 0 0 42 0 := CF_of (by decide +kernel)
theorem c88_42 : CF 88 42 none .iaload 0 0 43 0 := CF_of (by decide +kernel)
theorem c88_43 : CF 88 43 none (.ifCond .lt 16) 0 0 46 59 := CF_of (by decide +kernel)
theorem c88_46 : CF 88 46 none (.iload 6) 0 0 48 0 := CF_of (by decide +kernel)
theorem c88_48 : CF 88 48 none (.aload 0) 0 0 49 0 := CF_of (by decide +kernel)
theorem c88_49 : CF 88 49 none (.getfield 20) 8 2 52 0 := CF_of (by decide +kernel)
theorem c88_52 : CF 88 52 none (.iload 1) 0 0 53 0 := CF_of (by decide +kernel)
theorem c88_53 : CF 88 53 none .aaload 0 0 54 0 := CF_of (by decide +kernel)
theorem c88_54 : CF 88 54 none (.iload 2) 0 0 55 0 := CF_of (by decide +kernel)
theorem c88_55 : CF 88 55 none .iaload 0 0 56 0 := CF_of (by decide +kernel)
theorem c88_56 : CF 88 56 none (.if_icmp .ge 13) 0 0 59 69 := CF_of (by decide +kernel)
theorem c88_59 : CF 88 59 none (.aload 0) 0 0 60 0 := CF_of (by decide +kernel)
theorem c88_60 : CF 88 60 none (.getfield 20) 8 2 63 0 := CF_of (by decide +kernel)
theorem c88_63 : CF 88 63 none (.iload 1) 0 0 64 0 := CF_of (by decide +kernel)
theorem c88_64 : CF 88 64 none .aaload 0 0 65 0 := CF_of (by decide +kernel)
theorem c88_65 : CF 88 65 none (.iload 2) 0 0 66 0 := CF_of (by decide +kernel)
theorem c88_66 : CF 88 66 none (.iload 6) 0 0 68 0 := CF_of (by decide +kernel)
theorem c88_68 : CF 88 68 none .iastore 0 0 69 0 := CF_of (by decide +kernel)
theorem c88_69 : CF 88 69 none .return_ 0 0 70 0 := CF_of (by decide +kernel)
theorem cm_87 : CM 87 8 6 := CM_of (by decide +kernel)
theorem c87_0 : CF 87 0 (some .int) (.aload 0) 0 0 1 0 := CF_of (by decide +kernel)
theorem c87_1 : CF 87 1 (some .int) (.iload 1) 0 0 2 0 := CF_of (by decide +kernel)
theorem c87_2 : CF 87 2 (some .int) (.invokevirtual 27) 85 1 5 0 := CF_of (by decide +kernel)
theorem c87_5 : CF 87 5 (some .int) (.ifCond .eq 11) 0 0 8 16 := CF_of (by decide +kernel)
theorem c87_8 : CF 87 8 (some .int) (.aload 0) 0 0 9 0 := CF_of (by decide +kernel)
theorem c87_9 : CF 87 9 (some .int) (.iload 2) 0 0 10 0 := CF_of (by decide +kernel)
theorem c87_10 : CF 87 10 (some .int) (.invokevirtual 27) 85 1 13 0 := CF_of (by decide +kernel)
theorem c87_13 : CF 87 13 (some .int) (.ifCond .ne 5) 0 0 16 18 := CF_of (by decide +kernel)
theorem c87_16 : CF 87 16 (some .int) (.iconst (-1)) 0 0 17 0 := CF_of (by decide +kernel)
theorem c87_17 : CF 87 17 (some .int) .ireturn 0 0 18 0 := CF_of (by decide +kernel)
theorem c87_18 : CF 87 18 (some .int) (.aload 0) 0 0 19 0 := CF_of (by decide +kernel)
theorem c87_19 : CF 87 19 (some .int) (.getfield 17) 8 1 22 0 := CF_of (by decide +kernel)
theorem c87_22 : CF 87 22 (some .int) (.iload 1) 0 0 23 0 := CF_of (by decide +kernel)
theorem c87_23 : CF 87 23 (some .int) .aaload 0 0 24 0 := CF_of (by decide +kernel)
theorem c87_24 : CF 87 24 (some .int) (.iload 2) 0 0 25 0 := CF_of (by decide +kernel)
theorem c87_25 : CF 87 25 (some .int) .iaload 0 0 26 0 := CF_of (by decide +kernel)
theorem c87_26 : CF 87 26 (some .int) (.ifCond .eq 15) 0 0 29 41 := CF_of (by decide +kernel)
theorem c87_29 : CF 87 29 (some .int) (.iload 3) 0 0 30 0 := CF_of (by decide +kernel)
theorem c87_30 : CF 87 30 (some .int) (.aload 0) 0 0 31 0 := CF_of (by decide +kernel)
theorem c87_31 : CF 87 31 (some .int) (.getfield 17) 8 1 34 0 := CF_of (by decide +kernel)
theorem c87_34 : CF 87 34 (some .int) (.iload 1) 0 0 35 0 := CF_of (by decide +kernel)
theorem c87_35 : CF 87 35 (some .int) .aaload 0 0 36 0 := CF_of (by decide +kernel)
theorem c87_36 : CF 87 36 (some .int) (.iload 2) 0 0 37 0 := CF_of (by decide +kernel)
theorem c87_37 : CF 87 37 (some .int) .iaload 0 0 38 0 := CF_of (by decide +kernel)
theorem c87_38 : CF 87 38 (some .int) (.if_icmp .ge 111) 0 0 41 149 := CF_of (by decide +kernel)
theorem c87_41 : CF 87 41 (some .int) (.aload 0) 0 0 42 0 := CF_of (by decide +kernel)
theorem c87_42 : CF 87 42 (some .int) (.getfield 17) 8 1 45 0 := CF_of (by decide +kernel)
theorem c87_45 : CF 87 45 (some .int) (.iload 1) 0 0 46 0 := CF_of (by decide +kernel)
theorem c87_46 : CF 87 46 (some .int) .aaload 0 0 47 0 := CF_of (by decide +kernel)
theorem c87_47 : CF 87 47 (some .int) (.iload 2) 0 0 48 0 := CF_of (by decide +kernel)
theorem c87_48 : CF 87 48 (some .int) (.iload 3) 0 0 49 0 := CF_of (by decide +kernel)
theorem c87_49 : CF 87 49 (some .int) .iastore 0 0 50 0 := CF_of (by decide +kernel)
theorem c87_50 : CF 87 50 (some .int) (.aload 0) 0 0 51 0 := CF_of (by decide +kernel)
theorem c87_51 : CF 87 51 (some .int) (.getfield 17) 8 1 54 0 := CF_of (by decide +kernel)
theorem c87_54 : CF 87 54 (some .int) (.iload 2) 0 0 55 0 := CF_of (by decide +kernel)
theorem c87_55 : CF 87 55 (some .int) .aaload 0 0 56 0 := CF_of (by decide +kernel)
theorem c87_56 : CF 87 56 (some .int) (.iload 1) 0 0 57 0 := CF_of (by decide +kernel)
theorem c87_57 : CF 87 57 (some .int) (.iload 3) 0 0 58 0 := CF_of (by decide +kernel)
theorem c87_58 : CF 87 58 (some .int) .iastore 0 0 59 0 := CF_of (by decide +kernel)
theorem c87_59 : CF 87 59 (some .int) (.iconst 0) 0 0 60 0 := CF_of (by decide +kernel)
theorem c87_60 : CF 87 60 (some .int) (.istore 4) 0 0 62 0 := CF_of (by decide +kernel)
theorem c87_62 : CF 87 62 (some .int) (.iload 4) 0 0 64 0 := CF_of (by decide +kernel)
theorem c87_64 : CF 87 64 (some .int) (.aload 0) 0 0 65 0 := CF_of (by decide +kernel)
theorem c87_65 : CF 87 65 (some .int) (.getfield 23) 8 3 68 0 := CF_of (by decide +kernel)
theorem c87_68 : CF 87 68 (some .int) (.if_icmp .ge 81) 0 0 71 149 := CF_of (by decide +kernel)
theorem c87_71 : CF 87 71 (some .int) (.iconst 0) 0 0 72 0 := CF_of (by decide +kernel)
theorem c87_72 : CF 87 72 (some .int) (.istore 5) 0 0 74 0 := CF_of (by decide +kernel)
theorem c87_74 : CF 87 74 (some .int) (.iload 5) 0 0 76 0 := CF_of (by decide +kernel)
theorem c87_76 : CF 87 76 (some .int) (.aload 0) 0 0 77 0 := CF_of (by decide +kernel)
theorem c87_77 : CF 87 77 (some .int) (.getfield 23) 8 3 80 0 := CF_of (by decide +kernel)
theorem c87_80 : CF 87 80 (some .int) (.if_icmp .ge 63) 0 0 83 143 := CF_of (by decide +kernel)
theorem c87_83 : CF 87 83 (some .int) (.aload 0) 0 0 84 0 := CF_of (by decide +kernel)
theorem c87_84 : CF 87 84 (some .int) (.iload 4) 0 0 86 0 := CF_of (by decide +kernel)
theorem c87_86 : CF 87 86 (some .int) (.iload 5) 0 0 88 0 := CF_of (by decide +kernel)
theorem c87_88 : CF 87 88 (some .int) (.aload 0) 0 0 89 0 := CF_of (by decide +kernel)
theorem c87_89 : CF 87 89 (some .int) (.getfield 20) 8 2 92 0 := CF_of (by decide +kernel)
theorem c87_92 : CF 87 92 (some .int) (.iload 4) 0 0 94 0 := CF_of (by decide +kernel)
theorem c87_94 : CF 87 94 (some .int) .aaload 0 0 95 0 := CF_of (by decide +kernel)
theorem c87_95 : CF 87 95 (some .int) (.iload 1) 0 0 96 0 := CF_of (by decide +kernel)
theorem c87_96 : CF 87 96 (some .int) .iaload 0 0 97 0 := CF_of (by decide +kernel)
theorem c87_97 : CF 87 97 (some .int) (.iload 3) 0 0 98 0 := CF_of (by decide +kernel)
theorem c87_98 : CF 87 98 (some .int) (.aload 0) 0 0 99 0 := CF_of (by decide +kernel)
theorem c87_99 : CF 87 99 (some .int) (.getfield 20) 8 2 102 0 := CF_of (by decide +kernel)
theorem c87_102 : CF 87 102 (some .int) (.iload 2) 0 0 103 0 := CF_of (by decide +kernel)
theorem c87_103 : CF 87 103 (some .int) .aaload 0 0 104 0 := CF_of (by decide +kernel)
theorem c87_104 : CF 87 104 (some .int) (.iload 5) 0 0 106 0 := CF_of (by decide +kernel)
theorem c87_106 : CF 87 106 (some .int) .iaload 0 0 107 0 := CF_of (by decide +kernel)
theorem c87_107 : CF 87 107 (some .int) (.invokevirtual 31) 88 5 110 0 := CF_of (by decide +kernel)
theorem c87_110 : CF 87 110 (some .int) (.aload 0) 0 0 111 0 := CF_of (by decide +kernel)
theorem c87_111 : CF 87 111 (some .int) (.iload 4) 0 0 113 0 := CF_of (by decide +kernel)
theorem c87_113 : CF 87 113 (some .int) (.iload 5) 0 0 115 0 := CF_of (by decide +kernel)
theorem c87_115 : CF 87 115 (some .int) (.aload 0) 0 0 116 0 := CF_of (by decide +kernel)
theorem c87_116 : CF 87 116 (some .int) (.getfield 20) 8 2 119 0 := CF_of (by decide +kernel)
theorem c87_119 : CF 87 119 (some .int) (.iload 4) 0 0 121 0 := CF_of (by decide +kernel)
theorem c87_121 : CF 87 121 (some .int) .aaload 0 0 122 0 := CF_of (by decide +kernel)
theorem c87_122 : CF 87 122 (some .int) (.iload 2) 0 0 123 0 := CF_of (by decide +kernel)
theorem c87_123 : CF 87 123 (some .int) .iaload 0 0 124 0 := CF_of (by decide +kernel)
theorem c87_124 : CF 87 124 (some .int) (.iload 3) 0 0 125 0 := CF_of (by decide +kernel)
theorem c87_125 : CF 87 125 (some .int) (.aload 0) 0 0 126 0 := CF_of (by decide +kernel)
theorem c87_126 : CF 87 126 (some .int) (.getfield 20) 8 2 129 0 := CF_of (by decide +kernel)
theorem c87_129 : CF 87 129 (some .int) (.iload 1) 0 0 130 0 := CF_of (by decide +kernel)
theorem c87_130 : CF 87 130 (some .int) .aaload 0 0 131 0 := CF_of (by decide +kernel)
theorem c87_131 : CF 87 131 (some .int) (.iload 5) 0 0 133 0 := CF_of (by decide +kernel)
theorem c87_133 : CF 87 133 (some .int) .iaload 0 0 134 0 := CF_of (by decide +kernel)
theorem c87_134 : CF 87 134 (some .int) (.invokevirtual 31) 88 5 137 0 := CF_of (by decide +kernel)
theorem c87_137 : CF 87 137 (some .int) (.iinc 5 1) 0 0 140 0 := CF_of (by decide +kernel)
theorem c87_140 : CF 87 140 (some .int) (.goto (-66)) 0 0 143 74 := CF_of (by decide +kernel)
theorem c87_143 : CF 87 143 (some .int) (.iinc 4 1) 0 0 146 0 := CF_of (by decide +kernel)
theorem c87_146 : CF 87 146 (some .int) (.goto (-84)) 0 0 149 62 := CF_of (by decide +kernel)
theorem c87_149 : CF 87 149 (some .int) (.aload 0) 0 0 150 0 := CF_of (by decide +kernel)
theorem c87_150 : CF 87 150 (some .int) (.getfield 17) 8 1 153 0 := CF_of (by decide +kernel)
theorem c87_153 : CF 87 153 (some .int) (.iload 1) 0 0 154 0 := CF_of (by decide +kernel)
theorem c87_154 : CF 87 154 (some .int) .aaload 0 0 155 0 := CF_of (by decide +kernel)
theorem c87_155 : CF 87 155 (some .int) (.iload 2) 0 0 156 0 := CF_of (by decide +kernel)
theorem c87_156 : CF 87 156 (some .int) .iaload 0 0 157 0 := CF_of (by decide +kernel)
theorem c87_157 : CF 87 157 (some .int) .ireturn 0 0 158 0 := CF_of (by decide +kernel)
theorem cm_89 : CM 89 8 3 := CM_of (by decide +kernel)
theorem c89_0 : CF 89 0 (some .int) (.aload 0) 0 0 1 0 := CF_of (by decide +kernel)
theorem c89_1 : CF 89 1 (some .int) (.iload 1) 0 0 2 0 := CF_of (by decide +kernel)
theorem c89_2 : CF 89 2 (some .int) (.invokevirtual 27) 85 1 5 0 := CF_of (by decide +kernel)
theorem c89_5 : CF 89 5 (some .int) (.ifCond .eq 22) 0 0 8 27 := CF_of (by decide +kernel)
theorem c89_8 : CF 89 8 (some .int) (.aload 0) 0 0 9 0 := CF_of (by decide +kernel)
theorem c89_9 : CF 89 9 (some .int) (.iload 2) 0 0 10 0 := CF_of (by decide +kernel)
theorem c89_10 : CF 89 10 (some .int) (.invokevirtual 27) 85 1 13 0 := CF_of (by decide +kernel)
theorem c89_13 : CF 89 13 (some .int) (.ifCond .eq 14) 0 0 16 27 := CF_of (by decide +kernel)
theorem c89_16 : CF 89 16 (some .int) (.aload 0) 0 0 17 0 := CF_of (by decide +kernel)
theorem c89_17 : CF 89 17 (some .int) (.getfield 20) 8 2 20 0 := CF_of (by decide +kernel)
theorem c89_20 : CF 89 20 (some .int) (.iload 1) 0 0 21 0 := CF_of (by decide +kernel)
theorem c89_21 : CF 89 21 (some .int) .aaload 0 0 22 0 := CF_of (by decide +kernel)
theorem c89_22 : CF 89 22 (some .int) (.iload 2) 0 0 23 0 := CF_of (by decide +kernel)
theorem c89_23 : CF 89 23 (some .int) .iaload 0 0 24 0 := CF_of (by decide +kernel)
theorem c89_24 : CF 89 24 (some .int) (.goto 4) 0 0 27 28 := CF_of (by decide +kernel)
theorem c89_27 : CF 89 27 (some .int) (.iconst (-1)) 0 0 28 0 := CF_of (by decide +kernel)
theorem c89_28 : CF 89 28 (some .int) .ireturn 0 0 29 0 := CF_of (by decide +kernel)
theorem cm_90 : CM 90 8 4 := CM_of (by decide +kernel)
theorem c90_0 : CF 90 0 (some .int) (.aload 0) 0 0 1 0 := CF_of (by decide +kernel)
theorem c90_1 : CF 90 1 (some .int) (.iload 1) 0 0 2 0 := CF_of (by decide +kernel)
theorem c90_2 : CF 90 2 (some .int) (.iload 2) 0 0 3 0 := CF_of (by decide +kernel)
theorem c90_3 : CF 90 3 (some .int) (.invokevirtual 35) 89 2 6 0 := CF_of (by decide +kernel)
theorem c90_6 : CF 90 6 (some .int) (.istore 3) 0 0 7 0 := CF_of (by decide +kernel)
theorem c90_7 : CF 90 7 (some .int) (.iload 3) 0 0 8 0 := CF_of (by decide +kernel)
theorem c90_8 : CF 90 8 (some .int) (.ifCond .ge 7) 0 0 11 15 := CF_of (by decide +kernel)
theorem c90_11 : CF 90 11 (some .int) (.iconst (-1)) 0 0 12 0 := CF_of (by decide +kernel)
theorem c90_12 : CF 90 12 (some .int) (.goto 12) 0 0 15 24 := CF_of (by decide +kernel)
theorem c90_15 : CF 90 15 (some .int) (.iload 3) 0 0 16 0 := CF_of (by decide +kernel)
theorem c90_16 : CF 90 16 (some .int) (.iconst 30) 0 0 18 0 := CF_of (by decide +kernel)
theorem c90_18 : CF 90 18 (some .int) .iadd 0 0 19 0 := CF_of (by decide +kernel)
theorem c90_19 : CF 90 19 (some .int) (.iconst 1) 0 0 20 0 := CF_of (by decide +kernel)
theorem c90_20 : CF 90 20 (some .int) .isub 0 0 21 0 := CF_of (by decide +kernel)
theorem c90_21 : CF 90 21 (some .int) (.iconst 30) 0 0 23 0 := CF_of (by decide +kernel)
theorem c90_23 : CF 90 23 (some .int) .idiv 0 0 24 0 := CF_of (by decide +kernel)
theorem c90_24 : CF 90 24 (some .int) .ireturn 0 0 25 0 := CF_of (by decide +kernel)
theorem cm_118 : CM 118 11 2 := CM_of (by decide +kernel)
theorem c118_0 : CF 118 0 (some .int) (.iload 1) 0 0 1 0 := CF_of (by decide +kernel)
theorem c118_1 : CF 118 1 (some .int) (.invokestatic 84) 167 1 4 0 := CF_of (by decide +kernel)
theorem c118_4 : CF 118 4 (some .int) (.ifCond .eq 14) 0 0 7 18 := CF_of (by decide +kernel)
theorem c118_7 : CF 118 7 (some .int) (.aload 0) 0 0 8 0 := CF_of (by decide +kernel)
theorem c118_8 : CF 118 8 (some .int) (.getfield 16) 11 3 11 0 := CF_of (by decide +kernel)
theorem c118_11 : CF 118 11 (some .int) (.iload 1) 0 0 12 0 := CF_of (by decide +kernel)
theorem c118_12 : CF 118 12 (some .int) (.invokevirtual 88) 84 1 15 0 := CF_of (by decide +kernel)
theorem c118_15 : CF 118 15 (some .int) (.goto 4) 0 0 18 19 := CF_of (by decide +kernel)
theorem c118_18 : CF 118 18 (some .int) (.iconst (-1)) 0 0 19 0 := CF_of (by decide +kernel)
theorem c118_19 : CF 118 19 (some .int) .ireturn 0 0 20 0 := CF_of (by decide +kernel)
theorem cm_119 : CM 119 11 4 := CM_of (by decide +kernel)
theorem c119_0 : CF 119 0 (some .int) (.aload 0) 0 0 1 0 := CF_of (by decide +kernel)
theorem c119_1 : CF 119 1 (some .int) (.getfield 16) 11 3 4 0 := CF_of (by decide +kernel)
theorem c119_4 : CF 119 4 (some .int) (.iload 1) 0 0 5 0 := CF_of (by decide +kernel)
theorem c119_5 : CF 119 5 (some .int) (.invokevirtual 92) 85 1 8 0 := CF_of (by decide +kernel)
theorem c119_8 : CF 119 8 (some .int) (.ifCond .eq 30) 0 0 11 38 := CF_of (by decide +kernel)
theorem c119_11 : CF 119 11 (some .int) (.aload 0) 0 0 12 0 := CF_of (by decide +kernel)
theorem c119_12 : CF 119 12 (some .int) (.getfield 16) 11 3 15 0 := CF_of (by decide +kernel)
theorem c119_15 : CF 119 15 (some .int) (.iload 2) 0 0 16 0 := CF_of (by decide +kernel)
theorem c119_16 : CF 119 16 (some .int) (.invokevirtual 92) 85 1 19 0 := CF_of (by decide +kernel)
theorem c119_19 : CF 119 19 (some .int) (.ifCond .eq 19) 0 0 22 38 := CF_of (by decide +kernel)
theorem c119_22 : CF 119 22 (some .int) (.iload 1) 0 0 23 0 := CF_of (by decide +kernel)
theorem c119_23 : CF 119 23 (some .int) (.iload 2) 0 0 24 0 := CF_of (by decide +kernel)
theorem c119_24 : CF 119 24 (some .int) (.if_icmp .eq 14) 0 0 27 38 := CF_of (by decide +kernel)
theorem c119_27 : CF 119 27 (some .int) (.iload 3) 0 0 28 0 := CF_of (by decide +kernel)
theorem c119_28 : CF 119 28 (some .int) (.iconst 1) 0 0 29 0 := CF_of (by decide +kernel)
theorem c119_29 : CF 119 29 (some .int) (.iconst 300) 0 0 32 0 := CF_of (by decide +kernel)
theorem c119_32 : CF 119 32 (some .int) (.invokestatic 95) 166 3 35 0 := CF_of (by decide +kernel)
theorem c119_35 : CF 119 35 (some .int) (.ifCond .ne 5) 0 0 38 40 := CF_of (by decide +kernel)
theorem c119_38 : CF 119 38 (some .int) (.iconst (-1)) 0 0 39 0 := CF_of (by decide +kernel)
theorem c119_39 : CF 119 39 (some .int) .ireturn 0 0 40 0 := CF_of (by decide +kernel)
theorem c119_40 : CF 119 40 (some .int) (.aload 0) 0 0 41 0 := CF_of (by decide +kernel)
theorem c119_41 : CF 119 41 (some .int) (.getfield 16) 11 3 44 0 := CF_of (by decide +kernel)
theorem c119_44 : CF 119 44 (some .int) (.iload 1) 0 0 45 0 := CF_of (by decide +kernel)
theorem c119_45 : CF 119 45 (some .int) (.iload 2) 0 0 46 0 := CF_of (by decide +kernel)
theorem c119_46 : CF 119 46 (some .int) (.iload 3) 0 0 47 0 := CF_of (by decide +kernel)
theorem c119_47 : CF 119 47 (some .int) (.invokevirtual 99) 87 3 50 0 := CF_of (by decide +kernel)
theorem c119_50 : CF 119 50 (some .int) .ireturn 0 0 51 0 := CF_of (by decide +kernel)
theorem cm_120 : CM 120 11 4 := CM_of (by decide +kernel)
theorem c120_0 : CF 120 0 (some .int) (.aload 0) 0 0 1 0 := CF_of (by decide +kernel)
theorem c120_1 : CF 120 1 (some .int) (.getfield 16) 11 3 4 0 := CF_of (by decide +kernel)
theorem c120_4 : CF 120 4 (some .int) (.iload 1) 0 0 5 0 := CF_of (by decide +kernel)
theorem c120_5 : CF 120 5 (some .int) (.invokevirtual 92) 85 1 8 0 := CF_of (by decide +kernel)
theorem c120_8 : CF 120 8 (some .int) (.ifCond .eq 14) 0 0 11 22 := CF_of (by decide +kernel)
theorem c120_11 : CF 120 11 (some .int) (.aload 0) 0 0 12 0 := CF_of (by decide +kernel)
theorem c120_12 : CF 120 12 (some .int) (.getfield 16) 11 3 15 0 := CF_of (by decide +kernel)
theorem c120_15 : CF 120 15 (some .int) (.iload 2) 0 0 16 0 := CF_of (by decide +kernel)
theorem c120_16 : CF 120 16 (some .int) (.invokevirtual 92) 85 1 19 0 := CF_of (by decide +kernel)
theorem c120_19 : CF 120 19 (some .int) (.ifCond .ne 5) 0 0 22 24 := CF_of (by decide +kernel)
theorem c120_22 : CF 120 22 (some .int) (.iconst (-1)) 0 0 23 0 := CF_of (by decide +kernel)
theorem c120_23 : CF 120 23 (some .int) .ireturn 0 0 24 0 := CF_of (by decide +kernel)
theorem c120_24 : CF 120 24 (some .int) (.aload 0) 0 0 25 0 := CF_of (by decide +kernel)
theorem c120_25 : CF 120 25 (some .int) (.getfield 16) 11 3 28 0 := CF_of (by decide +kernel)
theorem c120_28 : CF 120 28 (some .int) (.iload 1) 0 0 29 0 := CF_of (by decide +kernel)
theorem c120_29 : CF 120 29 (some .int) (.iload 2) 0 0 30 0 := CF_of (by decide +kernel)
theorem c120_30 : CF 120 30 (some .int) (.invokevirtual 103) 89 2 33 0 := CF_of (by decide +kernel)
theorem c120_33 : CF 120 33 (some .int) (.istore 3) 0 0 34 0 := CF_of (by decide +kernel)
theorem c120_34 : CF 120 34 (some .int) (.iload 3) 0 0 35 0 := CF_of (by decide +kernel)
theorem c120_35 : CF 120 35 (some .int) (.ifCond .ge 8) 0 0 38 43 := CF_of (by decide +kernel)
theorem c120_38 : CF 120 38 (some .int) (.iconst (-2)) 0 0 40 0 := CF_of (by decide +kernel)
theorem c120_40 : CF 120 40 (some .int) (.goto 4) 0 0 43 44 := CF_of (by decide +kernel)
theorem c120_43 : CF 120 43 (some .int) (.iload 3) 0 0 44 0 := CF_of (by decide +kernel)
theorem c120_44 : CF 120 44 (some .int) .ireturn 0 0 45 0 := CF_of (by decide +kernel)
theorem cm_122 : CM 122 11 4 := CM_of (by decide +kernel)
theorem c122_0 : CF 122 0 (some .int) (.iload 1) 0 0 1 0 := CF_of (by decide +kernel)
theorem c122_1 : CF 122 1 (some .int) (.iconst 0) 0 0 2 0 := CF_of (by decide +kernel)
theorem c122_2 : CF 122 2 (some .int) (.iconst 999) 0 0 5 0 := CF_of (by decide +kernel)
theorem c122_5 : CF 122 5 (some .int) (.invokestatic 95) 166 3 8 0 := CF_of (by decide +kernel)
theorem c122_8 : CF 122 8 (some .int) (.ifCond .eq 10) 0 0 11 18 := CF_of (by decide +kernel)
theorem c122_11 : CF 122 11 (some .int) (.iload 2) 0 0 12 0 := CF_of (by decide +kernel)
theorem c122_12 : CF 122 12 (some .int) (.invokestatic 84) 167 1 15 0 := CF_of (by decide +kernel)
theorem c122_15 : CF 122 15 (some .int) (.ifCond .ne 5) 0 0 18 20 := CF_of (by decide +kernel)
theorem c122_18 : CF 122 18 (some .int) (.iconst (-1)) 0 0 19 0 := CF_of (by decide +kernel)
theorem c122_19 : CF 122 19 (some .int) .ireturn 0 0 20 0 := CF_of (by decide +kernel)
theorem c122_20 : CF 122 20 (some .int) (.aload 0) 0 0 21 0 := CF_of (by decide +kernel)
theorem c122_21 : CF 122 21 (some .int) (.getfield 9) 11 2 24 0 := CF_of (by decide +kernel)
theorem c122_24 : CF 122 24 (some .int) (.iload 1) 0 0 25 0 := CF_of (by decide +kernel)
theorem c122_25 : CF 122 25 (some .int) .baload 0 0 26 0 := CF_of (by decide +kernel)
theorem c122_26 : CF 122 26 (some .int) (.ifCond .eq 7) 0 0 29 33 := CF_of (by decide +kernel)
theorem c122_29 : CF 122 29 (some .int) (.iconst 1) 0 0 30 0 := CF_of (by decide +kernel)
theorem c122_30 : CF 122 30 (some .int) (.goto 4) 0 0 33 34 := CF_of (by decide +kernel)
theorem c122_33 : CF 122 33 (some .int) (.iconst 0) 0 0 34 0 := CF_of (by decide +kernel)
theorem c122_34 : CF 122 34 (some .int) (.istore 3) 0 0 35 0 := CF_of (by decide +kernel)
theorem c122_35 : CF 122 35 (some .int) (.aload 0) 0 0 36 0 := CF_of (by decide +kernel)
theorem c122_36 : CF 122 36 (some .int) (.getfield 9) 11 2 39 0 := CF_of (by decide +kernel)
theorem c122_39 : CF 122 39 (some .int) (.iload 1) 0 0 40 0 := CF_of (by decide +kernel)
theorem c122_40 : CF 122 40 (some .int) (.iload 2) 0 0 41 0 := CF_of (by decide +kernel)
theorem c122_41 : CF 122 41 (some .int) (.iconst 1) 0 0 42 0 := CF_of (by decide +kernel)
theorem c122_42 : CF 122 42 (some .int) (.if_icmp .ne 7) 0 0 45 49 := CF_of (by decide +kernel)
theorem c122_45 : CF 122 45 (some .int) (.iconst 1) 0 0 46 0 := CF_of (by decide +kernel)
theorem c122_46 : CF 122 46 (some .int) (.goto 4) 0 0 49 50 := CF_of (by decide +kernel)
theorem c122_49 : CF 122 49 (some .int) (.iconst 0) 0 0 50 0 := CF_of (by decide +kernel)
theorem c122_50 : CF 122 50 (some .int) .bastore 0 0 51 0 := CF_of (by decide +kernel)
theorem c122_51 : CF 122 51 (some .int) (.iload 3) 0 0 52 0 := CF_of (by decide +kernel)
theorem c122_52 : CF 122 52 (some .int) .ireturn 0 0 53 0 := CF_of (by decide +kernel)
set_option maxHeartbeats 0 in
theorem K166 {Ln : Nat} {xs : Nat → Int32} {τ : List Nat} {h : List mE} {E : EP} (hT : TH E τ h) (p0 : Int) (hp0 : (-2147483648) ≤ p0 ∧ p0 ≤ 2147483647) (p1 : Int) (hp1 : (-2147483648) ≤ p1 ∧ p1 ≤ 2147483647) (p2 : Int) (hp2 : (-2147483648) ≤ p2 ∧ p2 ≤ 2147483647) (d : Nat) (hd : 0 ≤ d) (Q : Option Value → List mE → Prop) (hQ : ∀ v h', ((v = some (vI 0) ∧ h' = h) ∨ (v = some (vI 1) ∧ (p1≤p0) ∧ (p0≤p2) ∧ h' = h)) → Q v h') : MR (mex Ln xs) d 166 0 [some (vI p0), some (vI p1), some (vI p2)] [] h Q := by
  refine st_iload c166_0 rfl ?_
  refine st_iload c166_1 rfl ?_
  refine st_icmp_lt c166_2 (by omega) (by omega) (fun k1 => ?_) (fun k2 => ?_)
  refine st_iconst c166_14 ?_
  refine st_zreturn c166_15 (by omega) ?_
  exact hQ _ _ (Or.inl ⟨rfl, rfl⟩)
  refine st_iload c166_5 rfl ?_
  refine st_iload c166_6 rfl ?_
  refine st_icmp_gt c166_7 (by omega) (by omega) (fun k3 => ?_) (fun k4 => ?_)
  refine st_iconst c166_14 ?_
  refine st_zreturn c166_15 (by omega) ?_
  exact hQ _ _ (Or.inl ⟨rfl, rfl⟩)
  refine st_iconst c166_10 ?_
  refine st_goto c166_11 ?_
  refine st_zreturn c166_15 (by omega) ?_
  exact hQ _ _ (Or.inr ⟨rfl, by omega, by omega, rfl⟩)
set_option maxHeartbeats 0 in
theorem K167 {Ln : Nat} {xs : Nat → Int32} {τ : List Nat} {h : List mE} {E : EP} (hT : TH E τ h) (p0 : Int) (hp0 : (-2147483648) ≤ p0 ∧ p0 ≤ 2147483647) (d : Nat) (hd : 0 ≤ d) (Q : Option Value → List mE → Prop) (hQ : ∀ v h', ((v = some (vI 0) ∧ h' = h) ∨ (v = some (vI 1) ∧ (0≤p0) ∧ (p0≤1) ∧ h' = h)) → Q v h') : MR (mex Ln xs) d 167 0 [some (vI p0)] [] h Q := by
  refine st_iload c167_0 rfl ?_
  refine st_if_eq c167_1 (by omega) (fun k1 => ?_) (fun k2 => ?_)
  refine st_iconst c167_9 ?_
  refine st_goto c167_10 ?_
  refine st_zreturn c167_14 (by omega) ?_
  exact hQ _ _ (Or.inr ⟨rfl, by omega, by omega, rfl⟩)
  refine st_iload c167_4 rfl ?_
  refine st_iconst c167_5 ?_
  refine st_icmp_ne c167_6 (by omega) (by omega) (fun k3 => ?_) (fun k4 => ?_)
  refine st_iconst c167_13 ?_
  refine st_zreturn c167_14 (by omega) ?_
  exact hQ _ _ (Or.inl ⟨rfl, rfl⟩)
  refine st_iconst c167_9 ?_
  refine st_goto c167_10 ?_
  refine st_zreturn c167_14 (by omega) ?_
  exact hQ _ _ (Or.inr ⟨rfl, by omega, by omega, rfl⟩)
set_option maxHeartbeats 0 in
theorem K168 {Ln : Nat} {xs : Nat → Int32} {τ : List Nat} {h : List mE} {E : EP} (hT : TH E τ h) (p1 : Int) (hp1 : (-2147483648) ≤ p1 ∧ p1 ≤ 2147483647) (d : Nat) (hd : 0 ≤ d) (Q : Option Value → List mE → Prop) (hQ : ∀ v h', ((v = some .null ∧ h' = h) ∨ (∃ r : Nat, v = some (.ref r) ∧ ty τ r 9 ∧ (0≤p1) ∧ (p1≤14) ∧ h' = h)) → Q v h') : MR (mex Ln xs) d 168 0 [some (.ref 4), some (vI p1)] [] h Q := by
  refine st_iload c168_0 rfl ?_
  refine st_if_lt c168_1 (by omega) (fun k1 => ?_) (fun k2 => ?_)
  refine st_null c168_22 ?_
  refine st_areturnN c168_23 ?_
  exact hQ _ _ (Or.inl ⟨rfl, rfl⟩)
  refine st_iload c168_4 rfl ?_
  refine st_aload c168_5 rfl ?_
  refine st_getX c168_6 hT (tf hT rfl rfl) fd_1_4 rfl ?_
  refine st_alenC (z := 15) c168_9 hT (tf hT rfl rfl) ay_15 rfl rfl rfl ?_
  refine st_icmp_ge c168_10 (by omega) (by omega) (fun k3 => ?_) (fun k4 => ?_)
  refine st_null c168_22 ?_
  refine st_areturnN c168_23 ?_
  exact hQ _ _ (Or.inl ⟨rfl, rfl⟩)
  refine st_aload c168_13 rfl ?_
  refine st_getX c168_14 hT (tf hT rfl rfl) fd_1_4 rfl ?_
  refine st_iload c168_17 rfl ?_
  refine st_aald c168_18 hT (tf hT rfl rfl) ay_15 rfl (u := 9) rfl (by omega) (fun e6 => ?_) (fun r5 e7 t8 => ?_)
  refine st_goto c168_19 ?_
  refine st_areturnN c168_23 ?_
  exact hQ _ _ (Or.inl ⟨rfl, rfl⟩)
  refine st_goto c168_19 ?_
  refine st_areturn c168_23 ?_
  exact hQ _ _ (Or.inr ⟨_, rfl, t8, by omega, by omega, rfl⟩)
set_option maxHeartbeats 0 in
theorem K169 {Ln : Nat} {xs : Nat → Int32} {τ : List Nat} {h : List mE} {E : EP} (hT : TH E τ h) (p1 : Int) (hp1 : (-2147483648) ≤ p1 ∧ p1 ≤ 2147483647) (d : Nat) (hd : 0 ≤ d) (Q : Option Value → List mE → Prop) (hQ : ∀ v h', ((v = some .null ∧ h' = h) ∨ (∃ r : Nat, v = some (.ref r) ∧ ty τ r 10 ∧ (0≤p1) ∧ (p1≤89) ∧ h' = h)) → Q v h') : MR (mex Ln xs) d 169 0 [some (.ref 4), some (vI p1)] [] h Q := by
  refine st_iload c169_0 rfl ?_
  refine st_if_lt c169_1 (by omega) (fun k1 => ?_) (fun k2 => ?_)
  refine st_null c169_22 ?_
  refine st_areturnN c169_23 ?_
  exact hQ _ _ (Or.inl ⟨rfl, rfl⟩)
  refine st_iload c169_4 rfl ?_
  refine st_aload c169_5 rfl ?_
  refine st_getX c169_6 hT (tf hT rfl rfl) fd_1_6 rfl ?_
  refine st_alenC (z := 90) c169_9 hT (tf hT rfl rfl) ay_16 rfl rfl rfl ?_
  refine st_icmp_ge c169_10 (by omega) (by omega) (fun k3 => ?_) (fun k4 => ?_)
  refine st_null c169_22 ?_
  refine st_areturnN c169_23 ?_
  exact hQ _ _ (Or.inl ⟨rfl, rfl⟩)
  refine st_aload c169_13 rfl ?_
  refine st_getX c169_14 hT (tf hT rfl rfl) fd_1_6 rfl ?_
  refine st_iload c169_17 rfl ?_
  refine st_aald c169_18 hT (tf hT rfl rfl) ay_16 rfl (u := 10) rfl (by omega) (fun e6 => ?_) (fun r5 e7 t8 => ?_)
  refine st_goto c169_19 ?_
  refine st_areturnN c169_23 ?_
  exact hQ _ _ (Or.inl ⟨rfl, rfl⟩)
  refine st_goto c169_19 ?_
  refine st_areturn c169_23 ?_
  exact hQ _ _ (Or.inr ⟨_, rfl, t8, by omega, by omega, rfl⟩)
set_option maxHeartbeats 0 in
theorem K170 {Ln : Nat} {xs : Nat → Int32} {τ : List Nat} {h : List mE} {E : EP} (hT : TH E τ h) (p1 : Int) (hp1 : (-2147483648) ≤ p1 ∧ p1 ≤ 2147483647) (d : Nat) (hd : 0 ≤ d) (Q : Option Value → List mE → Prop) (hQ : ∀ v h', ((v = some .null ∧ h' = h) ∨ (∃ r : Nat, v = some (.ref r) ∧ ty τ r 12 ∧ (0≤p1) ∧ (p1≤99) ∧ h' = h)) → Q v h') : MR (mex Ln xs) d 170 0 [some (.ref 4), some (vI p1)] [] h Q := by
  refine st_iload c170_0 rfl ?_
  refine st_if_lt c170_1 (by omega) (fun k1 => ?_) (fun k2 => ?_)
  refine st_null c170_22 ?_
  refine st_areturnN c170_23 ?_
  exact hQ _ _ (Or.inl ⟨rfl, rfl⟩)
  refine st_iload c170_4 rfl ?_
  refine st_aload c170_5 rfl ?_
  refine st_getX c170_6 hT (tf hT rfl rfl) fd_1_11 rfl ?_
  refine st_alenC (z := 100) c170_9 hT (tf hT rfl rfl) ay_19 rfl rfl rfl ?_
  refine st_icmp_ge c170_10 (by omega) (by omega) (fun k3 => ?_) (fun k4 => ?_)
  refine st_null c170_22 ?_
  refine st_areturnN c170_23 ?_
  exact hQ _ _ (Or.inl ⟨rfl, rfl⟩)
  refine st_aload c170_13 rfl ?_
  refine st_getX c170_14 hT (tf hT rfl rfl) fd_1_11 rfl ?_
  refine st_iload c170_17 rfl ?_
  refine st_aald c170_18 hT (tf hT rfl rfl) ay_19 rfl (u := 12) rfl (by omega) (fun e6 => ?_) (fun r5 e7 t8 => ?_)
  refine st_goto c170_19 ?_
  refine st_areturnN c170_23 ?_
  exact hQ _ _ (Or.inl ⟨rfl, rfl⟩)
  refine st_goto c170_19 ?_
  refine st_areturn c170_23 ?_
  exact hQ _ _ (Or.inr ⟨_, rfl, t8, by omega, by omega, rfl⟩)
set_option maxHeartbeats 0 in
theorem K85 {Ln : Nat} {xs : Nat → Int32} {τ : List Nat} {h : List mE} {E : EP} (hT : TH E τ h) (p1 : Int) (hp1 : (-2147483648) ≤ p1 ∧ p1 ≤ 2147483647) (d : Nat) (hd : 0 ≤ d) (Q : Option Value → List mE → Prop) (hQ : ∀ v h', ((v = some (vI 0) ∧ h' = h) ∨ (v = some (vI 1) ∧ (0≤p1) ∧ (p1<fI h 6 3) ∧ h' = h)) → Q v h') : MR (mex Ln xs) d 85 0 [some (.ref 6), some (vI p1)] [] h Q := by
  refine st_iload c85_0 rfl ?_
  refine st_if_lt c85_1 (by omega) (fun k1 => ?_) (fun k2 => ?_)
  refine st_iconst c85_16 ?_
  refine st_zreturn c85_17 (by omega) ?_
  exact hQ _ _ (Or.inl ⟨rfl, rfl⟩)
  refine st_iload c85_4 rfl ?_
  refine st_aload c85_5 rfl ?_
  refine st_getI c85_6 hT (tf hT rfl rfl) fd_2_3 (fun e3 e4 => ?_)
  refine st_icmp_ge c85_9 (by omega) (by omega) (fun k5 => ?_) (fun k6 => ?_)
  refine st_iconst c85_16 ?_
  refine st_zreturn c85_17 (by omega) ?_
  exact hQ _ _ (Or.inl ⟨rfl, rfl⟩)
  refine st_iconst c85_12 ?_
  refine st_goto c85_13 ?_
  refine st_zreturn c85_17 (by omega) ?_
  exact hQ _ _ (Or.inr ⟨rfl, by omega, by omega, rfl⟩)
set_option maxHeartbeats 0 in
theorem K86 {Ln : Nat} {xs : Nat → Int32} {τ : List Nat} {h : List mE} {E : EP} (hT : TH E τ h) (p1 : Int) (hp1 : (-2147483648) ≤ p1 ∧ p1 ≤ 2147483647) (d : Nat) (hd : 1 ≤ d) (Q : Option Value → List mE → Prop) (hQ : ∀ v h', ((v = some (vI 0) ∧ h' = h) ∨ (v = some (vI 1) ∧ (0≤p1) ∧ (p1<fI h 6 3) ∧ h' = h)) → Q v h') : MR (mex Ln xs) d 86 0 [some (.ref 6), some (vI p1)] [] h Q := by
  refine st_aload c86_0 rfl ?_
  refine st_iload c86_1 rfl ?_
  refine st_callt (as := [vI p1]) c86_2 cm_85 hT (tf hT rfl rfl) fd_2_0 rfl rfl rfl rfl (by omega) (K85 hT p1 (by omega) (d - 1) (by omega) _ (fun v h0 H => H)) (fun v1 h1 H => ?_)
  rcases H with ⟨rfl, rfl⟩ | ⟨rfl, p1, p2, rfl⟩
  refine st_if_eq c86_5 (by omega) (fun k3 => ?_) (fun k4 => False.elim (by omega))
  refine st_iconst c86_21 ?_
  refine st_zreturn c86_22 (by omega) ?_
  exact hQ _ _ (Or.inl ⟨rfl, rfl⟩)
  refine st_if_eq c86_5 (by omega) (fun k5 => False.elim (by omega)) (fun k6 => ?_)
  refine st_aload c86_8 rfl ?_
  refine st_getX c86_9 hT (tf hT rfl rfl) fd_2_0 rfl ?_
  refine st_iload c86_12 rfl ?_
  refine st_bald c86_13 hT (tf hT rfl rfl) ay_20 (Or.inl rfl) (by omega) (fun e7 e8 => ?_)
  refine st_if_eq c86_14 (by omega) (fun k9 => ?_) (fun k10 => ?_)
  refine st_iconst c86_21 ?_
  refine st_zreturn c86_22 (by omega) ?_
  exact hQ _ _ (Or.inl ⟨rfl, rfl⟩)
  refine st_iconst c86_17 ?_
  refine st_goto c86_18 ?_
  refine st_zreturn c86_22 (by omega) ?_
  exact hQ _ _ (Or.inr ⟨rfl, by omega, by omega, rfl⟩)
def W84 : List (Nat × Nat) := [(2, 3), (20, 0), (123, 0)]
set_option maxHeartbeats 0 in
theorem K84 {Ln : Nat} {xs : Nat → Int32} {τ : List Nat} {h : List mE} {E : EP} (hT : TH E τ h) (hS : Stb E W84) (p1 : Int) (hp1 : (-2147483648) ≤ p1 ∧ p1 ≤ 2147483647) (d : Nat) (hd : 0 ≤ d) (Q : Option Value → List mE → Prop) (hQ : ∀ v h', (∃ z : Int, v = some (vI z) ∧ ((-3) ≤ z ∧ z ≤ 11) ∧ TH E τ h' ∧ Fr τ W84 h h') → Q v h') : MR (mex Ln xs) d 84 0 [some (.ref 6), some (vI p1), none] [] h Q := by
  have hF := Fr_rf τ W84 h
  refine st_aload c84_0 rfl ?_
  refine st_getI c84_1 hT (tf hT rfl rfl) fd_2_3 (fun e1 e2 => ?_)
  refine st_iconst c84_4 ?_
  refine st_icmp_lt c84_6 (by omega) (by omega) (fun k3 => ?_) (fun k4 => ?_)
  refine st_aload c84_12 rfl ?_
  refine st_getX c84_13 hT (tf hT rfl rfl) fd_2_0 rfl ?_
  refine st_aload c84_16 rfl ?_
  refine st_getI c84_17 hT (tf hT rfl rfl) fd_2_3 (fun e5 e6 => ?_)
  refine st_iload c84_20 rfl ?_
  refine st_iconst c84_21 ?_
  refine st_icmp_ne c84_22 (by omega) (by omega) (fun k7 => ?_) (fun k8 => ?_)
  refine st_iconst c84_29 ?_
  refine st_zast c84_30 hT (tf hT rfl rfl) ay_20 (by omega) (by omega) (Ext_rf _) hS hF (by decide +kernel) (fun h9 hT10 hF11 hU12 => ?_)
  refine st_iconst c84_31 ?_
  refine st_istore (L' := [some (.ref 6), some (vI p1), some (vI 0)]) c84_32 rfl rfl ?_
  have lp146 : ∀ (n147 : Nat) (z141 : Int) (h142 : List mE), 11 - z141 < (n147 : Int) → 0 ≤ z141 ∧ z141 ≤ 11 → TH E τ h142 → Fr τ W84 h h142 → Fr τ [(123, 0)] h9 h142 → MR (mex Ln xs) d 84 33 [some (.ref 6), none, some (vI z141)] [] h142 Q := by
    intro n147
    induction n147 with
    | zero =>
      intro z141 h142 hm149 b150 hT143 hF144 hL145
      exfalso; omega
    | succ n147 ih148 =>
      intro z141 h142 hm149 b150 hT143 hF144 hL145
      refine st_iload c84_33 rfl ?_
      refine st_aload c84_34 rfl ?_
      refine st_getI c84_35 hT143 (tf hT143 rfl rfl) fd_2_3 (fun e151 e152 => ?_)
      have q153 : fI h142 6 3 = fI h 6 3 := (Fr_fI hL145 (tf hT143 rfl rfl) (by decide +kernel)).trans (AUp_fI hU12)
      refine st_icmp_ge c84_38 (by omega) (by omega) (fun k154 => ?_) (fun k155 => ?_)
      refine st_aload c84_71 rfl ?_
      refine st_dup c84_72 rfl ?_
      refine st_getI c84_73 hT143 (tf hT143 rfl rfl) fd_2_3 (fun e156 e157 => ?_)
      have q158 : fI h142 6 3 = fI h 6 3 := (Fr_fI hL145 (tf hT143 rfl rfl) (by decide +kernel)).trans (AUp_fI hU12)
      refine st_dup_x1 c84_76 rfl rfl ?_
      refine st_iconst c84_77 ?_
      refine st_iadd c84_78 ?_
      refine st_putI c84_79 hT143 (tf hT143 rfl rfl) fd_2_3 (by omega) (by omega) (Ext_rf _) hS hF144 (by decide +kernel) (fun h159 hT160 hF161 hU162 => ?_)
      refine st_ireturn c84_82 ?_
      exact hQ _ _ ⟨fI h142 6 3, rfl, by omega, hT160, hF161⟩
      refine st_aload c84_41 rfl ?_
      refine st_getX c84_42 hT143 (tf hT143 rfl rfl) fd_2_2 rfl ?_
      refine st_iload c84_45 rfl ?_
      refine st_aald2 c84_46 hT143 (tf hT143 rfl rfl) ay_22 rfl (u := 123) rfl (by omega) (fun r163 e165 t166 => ?_)
      refine st_aload c84_47 rfl ?_
      refine st_getI c84_48 hT143 (tf hT143 rfl rfl) fd_2_3 (fun e167 e168 => ?_)
      have q169 : fI h142 6 3 = fI h 6 3 := (Fr_fI hL145 (tf hT143 rfl rfl) (by decide +kernel)).trans (AUp_fI hU12)
      refine st_iconst c84_51 ?_
      refine st_iast c84_52 hT143 t166 ay_123 (by omega) (by omega) (by omega) (Ext_rf _) hS hF144 (by decide +kernel) (fun h170 hT171 hF172 hU173 => ?_)
      refine st_aload c84_53 rfl ?_
      refine st_getX c84_54 hT171 (tf hT171 rfl rfl) fd_2_2 rfl ?_
      refine st_aload c84_57 rfl ?_
      refine st_getI c84_58 hT171 (tf hT171 rfl rfl) fd_2_3 (fun e174 e175 => ?_)
      have q176 : fI h170 6 3 = fI h142 6 3 := AUp_fI hU173
      refine st_aald2 c84_61 hT171 (tf hT171 rfl rfl) ay_22 rfl (u := 123) rfl (by omega) (fun r177 e179 t180 => ?_)
      refine st_iload c84_62 rfl ?_
      refine st_iconst c84_63 ?_
      refine st_iast c84_64 hT171 t180 ay_123 (by omega) (by omega) (by omega) (Ext_rf _) hS hF172 (by decide +kernel) (fun h181 hT182 hF183 hU184 => ?_)
      refine st_iinc (L' := [some (.ref 6), none, some (vI (z141 + 1))]) c84_65 rfl rfl rfl ?_
      refine st_goto c84_68 ?_
      exact ih148 (z141 + 1) h181 (by omega) (by omega) hT182 hF183 (AUp_Fr (AUp_Fr hL145 hU173 (fun u hu => by rw [ty_1 hu t166]; decide)) hU184 (fun u hu => by rw [ty_1 hu t180]; decide))
  refine MR_weak (A := [some (.ref 6), none, some (vI 0)]) (Lle_s (Lle_n (Lle_s (Lle_0)))) ?_
  exact lp146 ((11 - 0 + 1).toNat) 0 h9 (by omega) (by omega) hT10 hF11 (Fr_rf _ _ _)
  refine st_iconst c84_25 ?_
  refine st_goto c84_26 ?_
  refine st_zast c84_30 hT (tf hT rfl rfl) ay_20 (by omega) (by omega) (Ext_rf _) hS hF (by decide +kernel) (fun h185 hT186 hF187 hU188 => ?_)
  refine st_iconst c84_31 ?_
  refine st_istore (L' := [some (.ref 6), some (vI p1), some (vI 0)]) c84_32 rfl rfl ?_
  have lp322 : ∀ (n323 : Nat) (z317 : Int) (h318 : List mE), 11 - z317 < (n323 : Int) → 0 ≤ z317 ∧ z317 ≤ 11 → TH E τ h318 → Fr τ W84 h h318 → Fr τ [(123, 0)] h185 h318 → MR (mex Ln xs) d 84 33 [some (.ref 6), none, some (vI z317)] [] h318 Q := by
    intro n323
    induction n323 with
    | zero =>
      intro z317 h318 hm325 b326 hT319 hF320 hL321
      exfalso; omega
    | succ n323 ih324 =>
      intro z317 h318 hm325 b326 hT319 hF320 hL321
      refine st_iload c84_33 rfl ?_
      refine st_aload c84_34 rfl ?_
      refine st_getI c84_35 hT319 (tf hT319 rfl rfl) fd_2_3 (fun e327 e328 => ?_)
      have q329 : fI h318 6 3 = fI h 6 3 := (Fr_fI hL321 (tf hT319 rfl rfl) (by decide +kernel)).trans (AUp_fI hU188)
      refine st_icmp_ge c84_38 (by omega) (by omega) (fun k330 => ?_) (fun k331 => ?_)
      refine st_aload c84_71 rfl ?_
      refine st_dup c84_72 rfl ?_
      refine st_getI c84_73 hT319 (tf hT319 rfl rfl) fd_2_3 (fun e332 e333 => ?_)
      have q334 : fI h318 6 3 = fI h 6 3 := (Fr_fI hL321 (tf hT319 rfl rfl) (by decide +kernel)).trans (AUp_fI hU188)
      refine st_dup_x1 c84_76 rfl rfl ?_
      refine st_iconst c84_77 ?_
      refine st_iadd c84_78 ?_
      refine st_putI c84_79 hT319 (tf hT319 rfl rfl) fd_2_3 (by omega) (by omega) (Ext_rf _) hS hF320 (by decide +kernel) (fun h335 hT336 hF337 hU338 => ?_)
      refine st_ireturn c84_82 ?_
      exact hQ _ _ ⟨fI h318 6 3, rfl, by omega, hT336, hF337⟩
      refine st_aload c84_41 rfl ?_
      refine st_getX c84_42 hT319 (tf hT319 rfl rfl) fd_2_2 rfl ?_
      refine st_iload c84_45 rfl ?_
      refine st_aald2 c84_46 hT319 (tf hT319 rfl rfl) ay_22 rfl (u := 123) rfl (by omega) (fun r339 e341 t342 => ?_)
      refine st_aload c84_47 rfl ?_
      refine st_getI c84_48 hT319 (tf hT319 rfl rfl) fd_2_3 (fun e343 e344 => ?_)
      have q345 : fI h318 6 3 = fI h 6 3 := (Fr_fI hL321 (tf hT319 rfl rfl) (by decide +kernel)).trans (AUp_fI hU188)
      refine st_iconst c84_51 ?_
      refine st_iast c84_52 hT319 t342 ay_123 (by omega) (by omega) (by omega) (Ext_rf _) hS hF320 (by decide +kernel) (fun h346 hT347 hF348 hU349 => ?_)
      refine st_aload c84_53 rfl ?_
      refine st_getX c84_54 hT347 (tf hT347 rfl rfl) fd_2_2 rfl ?_
      refine st_aload c84_57 rfl ?_
      refine st_getI c84_58 hT347 (tf hT347 rfl rfl) fd_2_3 (fun e350 e351 => ?_)
      have q352 : fI h346 6 3 = fI h318 6 3 := AUp_fI hU349
      refine st_aald2 c84_61 hT347 (tf hT347 rfl rfl) ay_22 rfl (u := 123) rfl (by omega) (fun r353 e355 t356 => ?_)
      refine st_iload c84_62 rfl ?_
      refine st_iconst c84_63 ?_
      refine st_iast c84_64 hT347 t356 ay_123 (by omega) (by omega) (by omega) (Ext_rf _) hS hF348 (by decide +kernel) (fun h357 hT358 hF359 hU360 => ?_)
      refine st_iinc (L' := [some (.ref 6), none, some (vI (z317 + 1))]) c84_65 rfl rfl rfl ?_
      refine st_goto c84_68 ?_
      exact ih324 (z317 + 1) h357 (by omega) (by omega) hT358 hF359 (AUp_Fr (AUp_Fr hL321 hU349 (fun u hu => by rw [ty_1 hu t342]; decide)) hU360 (fun u hu => by rw [ty_1 hu t356]; decide))
  refine MR_weak (A := [some (.ref 6), none, some (vI 0)]) (Lle_s (Lle_n (Lle_s (Lle_0)))) ?_
  exact lp322 ((11 - 0 + 1).toNat) 0 h185 (by omega) (by omega) hT186 hF187 (Fr_rf _ _ _)
  refine st_iconst c84_9 ?_
  refine st_ireturn c84_11 ?_
  exact hQ _ _ ⟨(-3), rfl, by omega, hT, hF⟩
def W88 : List (Nat × Nat) := [(123, 0)]
set_option maxHeartbeats 0 in
theorem K88 {Ln : Nat} {xs : Nat → Int32} {τ : List Nat} {h : List mE} {E : EP} (hT : TH E τ h) (hS : Stb E W88) (p1 : Int) (hp1 : (-2147483648) ≤ p1 ∧ p1 ≤ 2147483647) (p2 : Int) (hp2 : (-2147483648) ≤ p2 ∧ p2 ≤ 2147483647) (p3 : Int) (hp3 : (-2147483648) ≤ p3 ∧ p3 ≤ 2147483647) (p4 : Int) (hp4 : (-2147483648) ≤ p4 ∧ p4 ≤ 2147483647) (p5 : Int) (hp5 : (-2147483648) ≤ p5 ∧ p5 ≤ 2147483647) (d : Nat) (hd : 1 ≤ d) (Q : Option Value → List mE → Prop) (hQ : ∀ v h', (v = none ∧ TH E τ h' ∧ Fr τ W88 h h') → Q v h') : MR (mex Ln xs) d 88 0 [some (.ref 6), some (vI p1), some (vI p2), some (vI p3), some (vI p4), some (vI p5), none] [] h Q := by
  have hF := Fr_rf τ W88 h
  refine st_iload c88_0 rfl ?_
  refine st_if_lt c88_1 (by omega) (fun k1 => ?_) (fun k2 => ?_)
  refine st_return c88_25 ?_
  exact hQ _ _ ⟨rfl, hT, hF⟩
  refine st_iload c88_4 rfl ?_
  refine st_if_lt c88_6 (by omega) (fun k3 => ?_) (fun k4 => ?_)
  refine st_return c88_25 ?_
  exact hQ _ _ ⟨rfl, hT, hF⟩
  refine st_aload c88_9 rfl ?_
  refine st_iload c88_10 rfl ?_
  refine st_callt (as := [vI p1]) c88_11 cm_85 hT (tf hT rfl rfl) fd_2_0 rfl rfl rfl rfl (by omega) (K85 hT p1 (by omega) (d - 1) (by omega) _ (fun v h0 H => H)) (fun v1 h1 H => ?_)
  rcases H with ⟨rfl, rfl⟩ | ⟨rfl, p5, p6, rfl⟩
  refine st_if_eq c88_14 (by omega) (fun k7 => ?_) (fun k8 => False.elim (by omega))
  refine st_return c88_25 ?_
  exact hQ _ _ ⟨rfl, hT, hF⟩
  refine st_if_eq c88_14 (by omega) (fun k9 => False.elim (by omega)) (fun k10 => ?_)
  refine st_aload c88_17 rfl ?_
  refine st_iload c88_18 rfl ?_
  refine st_callt (as := [vI p2]) c88_19 cm_85 hT (tf hT rfl rfl) fd_2_0 rfl rfl rfl rfl (by omega) (K85 hT p2 (by omega) (d - 1) (by omega) _ (fun v h0 H => H)) (fun v1 h1 H => ?_)
  rcases H with ⟨rfl, rfl⟩ | ⟨rfl, p11, p12, rfl⟩
  refine st_if_ne c88_22 (by omega) (fun k13 => False.elim (by omega)) (fun k14 => ?_)
  refine st_return c88_25 ?_
  exact hQ _ _ ⟨rfl, hT, hF⟩
  refine st_if_ne c88_22 (by omega) (fun k15 => ?_) (fun k16 => False.elim (by omega))
  refine st_iload c88_26 rfl ?_
  refine st_iload c88_27 rfl ?_
  refine st_iadd c88_29 ?_
  refine MR_wrap (fun w17 e18 e19 e20 => ?_)
  refine st_iload c88_30 rfl ?_
  refine st_iadd c88_32 ?_
  refine MR_wrap (fun w21 e22 e23 e24 => ?_)
  refine st_istore (L' := [some (.ref 6), some (vI p1), some (vI p2), some (vI p3), some (vI p4), some (vI p5), some (vI w21)]) c88_33 rfl rfl ?_
  refine st_aload c88_35 rfl ?_
  refine st_getX c88_36 hT (tf hT rfl rfl) fd_2_2 rfl ?_
  refine st_iload c88_39 rfl ?_
  refine st_aald2 c88_40 hT (tf hT rfl rfl) ay_22 rfl (u := 123) rfl (by omega) (fun r25 e27 t28 => ?_)
  refine st_iload c88_41 rfl ?_
  refine st_iald c88_42 hT t28 ay_123 (by omega) (fun e29 e30 => ?_)
  refine st_if_lt c88_43 (by omega) (fun k31 => ?_) (fun k32 => ?_)
  refine st_aload c88_59 rfl ?_
  refine st_getX c88_60 hT (tf hT rfl rfl) fd_2_2 rfl ?_
  refine st_iload c88_63 rfl ?_
  refine st_aaldr c88_64 hT (tf hT rfl rfl) ay_22 rfl (by omega) e27 ?_
  refine st_iload c88_65 rfl ?_
  refine st_iload c88_66 rfl ?_
  refine st_iast c88_68 hT t28 ay_123 (by omega) (by omega) (by omega) (Ext_rf _) hS hF (by decide +kernel) (fun h33 hT34 hF35 hU36 => ?_)
  refine st_return c88_69 ?_
  exact hQ _ _ ⟨rfl, hT34, hF35⟩
  refine st_iload c88_46 rfl ?_
  refine st_aload c88_48 rfl ?_
  refine st_getX c88_49 hT (tf hT rfl rfl) fd_2_2 rfl ?_
  refine st_iload c88_52 rfl ?_
  refine st_aaldr c88_53 hT (tf hT rfl rfl) ay_22 rfl (by omega) e27 ?_
  refine st_iload c88_54 rfl ?_
  refine st_iald c88_55 hT t28 ay_123 (by omega) (fun e37 e38 => ?_)
  refine st_icmp_ge c88_56 (by omega) (by omega) (fun k39 => ?_) (fun k40 => ?_)
  refine st_return c88_69 ?_
  exact hQ _ _ ⟨rfl, hT, hF⟩
  refine st_aload c88_59 rfl ?_
  refine st_getX c88_60 hT (tf hT rfl rfl) fd_2_2 rfl ?_
  refine st_iload c88_63 rfl ?_
  refine st_aaldr c88_64 hT (tf hT rfl rfl) ay_22 rfl (by omega) e27 ?_
  refine st_iload c88_65 rfl ?_
  refine st_iload c88_66 rfl ?_
  refine st_iast c88_68 hT t28 ay_123 (by omega) (by omega) (by omega) (Ext_rf _) hS hF (by decide +kernel) (fun h41 hT42 hF43 hU44 => ?_)
  refine st_return c88_69 ?_
  exact hQ _ _ ⟨rfl, hT42, hF43⟩
def W87 : List (Nat × Nat) := [(122, 0), (123, 0)]
set_option maxHeartbeats 0 in
theorem K87 {Ln : Nat} {xs : Nat → Int32} {τ : List Nat} {h : List mE} {E : EP} (hT : TH E τ h) (hS : Stb E W87) (p1 : Int) (hp1 : (-2147483648) ≤ p1 ∧ p1 ≤ 2147483647) (p2 : Int) (hp2 : (-2147483648) ≤ p2 ∧ p2 ≤ 2147483647) (p3 : Int) (hp3 : (-2147483648) ≤ p3 ∧ p3 ≤ 2147483647) (d : Nat) (hd : 2 ≤ d) (Q : Option Value → List mE → Prop) (hQ : ∀ v h', (∃ z : Int, v = some (vI z) ∧ ((-1) ≤ z ∧ z ≤ 300) ∧ TH E τ h' ∧ Fr τ W87 h h') → Q v h') : MR (mex Ln xs) d 87 0 [some (.ref 6), some (vI p1), some (vI p2), some (vI p3), none, none] [] h Q := by
  have hF := Fr_rf τ W87 h
  refine st_aload c87_0 rfl ?_
  refine st_iload c87_1 rfl ?_
  refine st_callt (as := [vI p1]) c87_2 cm_85 hT (tf hT rfl rfl) fd_2_0 rfl rfl rfl rfl (by omega) (K85 hT p1 (by omega) (d - 1) (by omega) _ (fun v h0 H => H)) (fun v1 h1 H => ?_)
  rcases H with ⟨rfl, rfl⟩ | ⟨rfl, p1, p2, rfl⟩
  refine st_if_eq c87_5 (by omega) (fun k3 => ?_) (fun k4 => False.elim (by omega))
  refine st_iconst c87_16 ?_
  refine st_ireturn c87_17 ?_
  exact hQ _ _ ⟨(-1), rfl, by omega, hT, hF⟩
  refine st_if_eq c87_5 (by omega) (fun k5 => False.elim (by omega)) (fun k6 => ?_)
  refine st_aload c87_8 rfl ?_
  refine st_iload c87_9 rfl ?_
  refine st_callt (as := [vI p2]) c87_10 cm_85 hT (tf hT rfl rfl) fd_2_0 rfl rfl rfl rfl (by omega) (K85 hT p2 (by omega) (d - 1) (by omega) _ (fun v h0 H => H)) (fun v1 h1 H => ?_)
  rcases H with ⟨rfl, rfl⟩ | ⟨rfl, p7, p8, rfl⟩
  refine st_if_ne c87_13 (by omega) (fun k9 => False.elim (by omega)) (fun k10 => ?_)
  refine st_iconst c87_16 ?_
  refine st_ireturn c87_17 ?_
  exact hQ _ _ ⟨(-1), rfl, by omega, hT, hF⟩
  refine st_if_ne c87_13 (by omega) (fun k11 => ?_) (fun k12 => False.elim (by omega))
  refine st_aload c87_18 rfl ?_
  refine st_getX c87_19 hT (tf hT rfl rfl) fd_2_1 rfl ?_
  refine st_iload c87_22 rfl ?_
  refine st_aald2 c87_23 hT (tf hT rfl rfl) ay_21 rfl (u := 122) rfl (by omega) (fun r13 e15 t16 => ?_)
  refine st_iload c87_24 rfl ?_
  refine st_iald c87_25 hT t16 ay_122 (by omega) (fun e17 e18 => ?_)
  refine st_if_eq c87_26 (by omega) (fun k19 => ?_) (fun k20 => ?_)
  refine st_aload c87_41 rfl ?_
  refine st_getX c87_42 hT (tf hT rfl rfl) fd_2_1 rfl ?_
  refine st_iload c87_45 rfl ?_
  refine st_aaldr c87_46 hT (tf hT rfl rfl) ay_21 rfl (by omega) e15 ?_
  refine st_iload c87_47 rfl ?_
  refine st_iload c87_48 rfl ?_
  refine st_iast c87_49 hT t16 ay_122 (by omega) (by omega) (by omega) (Ext_rf _) hS hF (by decide +kernel) (fun h21 hT22 hF23 hU24 => ?_)
  refine st_aload c87_50 rfl ?_
  refine st_getX c87_51 hT22 (tf hT22 rfl rfl) fd_2_1 rfl ?_
  refine st_iload c87_54 rfl ?_
  refine st_aald2 c87_55 hT22 (tf hT22 rfl rfl) ay_21 rfl (u := 122) rfl (by omega) (fun r25 e27 t28 => ?_)
  refine st_iload c87_56 rfl ?_
  refine st_iload c87_57 rfl ?_
  refine st_iast c87_58 hT22 t28 ay_122 (by omega) (by omega) (by omega) (Ext_rf _) hS hF23 (by decide +kernel) (fun h29 hT30 hF31 hU32 => ?_)
  refine st_iconst c87_59 ?_
  refine st_istore (L' := [some (.ref 6), some (vI p1), some (vI p2), some (vI p3), some (vI 0), none]) c87_60 rfl rfl ?_
  have lp850 : ∀ (n851 : Nat) (z845 : Int) (h846 : List mE), 12 - z845 < (n851 : Int) → 0 ≤ z845 ∧ z845 ≤ 12 → TH E τ h846 → Fr τ W87 h h846 → Fr τ [(123, 0)] h29 h846 → MR (mex Ln xs) d 87 62 [some (.ref 6), some (vI p1), some (vI p2), some (vI p3), some (vI z845), none] [] h846 Q := by
    intro n851
    induction n851 with
    | zero =>
      intro z845 h846 hm853 b854 hT847 hF848 hL849
      exfalso; omega
    | succ n851 ih852 =>
      intro z845 h846 hm853 b854 hT847 hF848 hL849
      refine st_iload c87_62 rfl ?_
      refine st_aload c87_64 rfl ?_
      refine st_getI c87_65 hT847 (tf hT847 rfl rfl) fd_2_3 (fun e855 e856 => ?_)
      refine st_icmp_ge c87_68 (by omega) (by omega) (fun k857 => ?_) (fun k858 => ?_)
      refine st_aload c87_149 rfl ?_
      refine st_getX c87_150 hT847 (tf hT847 rfl rfl) fd_2_1 rfl ?_
      refine st_iload c87_153 rfl ?_
      refine st_aaldr c87_154 hT847 (tf hT847 rfl rfl) ay_21 rfl (by omega) ((Fr_aR hL849 (tf hT847 rfl rfl) (by decide +kernel) p1).trans ((AUp_aR hU32 p1).trans ((AUp_aR hU24 p1).trans (e15)))) ?_
      refine st_iload c87_155 rfl ?_
      refine st_iald c87_156 hT847 t16 ay_122 (by omega) (fun e859 e860 => ?_)
      refine st_ireturn c87_157 ?_
      exact hQ _ _ ⟨aI h846 r13 p2, rfl, by omega, hT847, hF848⟩
      refine st_iconst c87_71 ?_
      refine st_istore (L' := [some (.ref 6), some (vI p1), some (vI p2), some (vI p3), some (vI z845), some (vI 0)]) c87_72 rfl rfl ?_
      have lp1018 : ∀ (n1019 : Nat) (z1013 : Int) (h1014 : List mE), 12 - z1013 < (n1019 : Int) → 0 ≤ z1013 ∧ z1013 ≤ 12 → TH E τ h1014 → Fr τ W87 h h1014 → Fr τ [(123, 0)] h846 h1014 → MR (mex Ln xs) d 87 74 [some (.ref 6), some (vI p1), some (vI p2), some (vI p3), some (vI z845), some (vI z1013)] [] h1014 Q := by
        intro n1019
        induction n1019 with
        | zero =>
          intro z1013 h1014 hm1021 b1022 hT1015 hF1016 hL1017
          exfalso; omega
        | succ n1019 ih1020 =>
          intro z1013 h1014 hm1021 b1022 hT1015 hF1016 hL1017
          refine st_iload c87_74 rfl ?_
          refine st_aload c87_76 rfl ?_
          refine st_getI c87_77 hT1015 (tf hT1015 rfl rfl) fd_2_3 (fun e1023 e1024 => ?_)
          have q1025 : fI h1014 6 3 = fI h846 6 3 := Fr_fI hL1017 (tf hT1015 rfl rfl) (by decide +kernel)
          refine st_icmp_ge c87_80 (by omega) (by omega) (fun k1026 => ?_) (fun k1027 => ?_)
          refine st_iinc (L' := [some (.ref 6), some (vI p1), some (vI p2), some (vI p3), some (vI (z845 + 1)), some (vI z1013)]) c87_143 rfl rfl rfl ?_
          refine st_goto c87_146 ?_
          refine MR_weak (A := [some (.ref 6), some (vI p1), some (vI p2), some (vI p3), some (vI (z845 + 1)), none]) (Lle_s (Lle_s (Lle_s (Lle_s (Lle_s (Lle_n (Lle_0))))))) ?_
          exact ih852 (z845 + 1) h1014 (by omega) (by omega) hT1015 hF1016 (Fr_cp hL849 hL1017 (by decide +kernel))
          refine st_aload c87_83 rfl ?_
          refine st_iload c87_84 rfl ?_
          refine st_iload c87_86 rfl ?_
          refine st_aload c87_88 rfl ?_
          refine st_getX c87_89 hT1015 (tf hT1015 rfl rfl) fd_2_2 rfl ?_
          refine st_iload c87_92 rfl ?_
          refine st_aald2 c87_94 hT1015 (tf hT1015 rfl rfl) ay_22 rfl (u := 123) rfl (by omega) (fun r1028 e1030 t1031 => ?_)
          refine st_iload c87_95 rfl ?_
          refine st_iald c87_96 hT1015 t1031 ay_123 (by omega) (fun e1032 e1033 => ?_)
          refine st_iload c87_97 rfl ?_
          refine st_aload c87_98 rfl ?_
          refine st_getX c87_99 hT1015 (tf hT1015 rfl rfl) fd_2_2 rfl ?_
          refine st_iload c87_102 rfl ?_
          refine st_aald2 c87_103 hT1015 (tf hT1015 rfl rfl) ay_22 rfl (u := 123) rfl (by omega) (fun r1034 e1036 t1037 => ?_)
          refine st_iload c87_104 rfl ?_
          refine st_iald c87_106 hT1015 t1037 ay_123 (by omega) (fun e1038 e1039 => ?_)
          refine st_callt (as := [vI z845, vI z1013, vI (aI h1014 r1028 p1), vI p3, vI (aI h1014 r1034 z1013)]) c87_107 cm_88 hT1015 (tf hT1015 rfl rfl) fd_2_0 rfl rfl rfl rfl (by omega) (K88 hT1015 (Stb_mono hS (by decide +kernel)) z845 (by omega) z1013 (by omega) (aI h1014 r1028 p1) (by omega) p3 (by omega) (aI h1014 r1034 z1013) (by omega) (d - 1) (by omega) _ (fun v h0 H => H)) (fun v1 h1040 H => ?_)
          obtain ⟨rfl, hT1041, hF1042⟩ := H
          have hF1043 := Fr_cp hF1016 hF1042 (by decide +kernel : Wsub W88 W87 = true)
          refine st_aload c87_110 rfl ?_
          refine st_iload c87_111 rfl ?_
          refine st_iload c87_113 rfl ?_
          refine st_aload c87_115 rfl ?_
          refine st_getX c87_116 hT1041 (tf hT1041 rfl rfl) fd_2_2 rfl ?_
          refine st_iload c87_119 rfl ?_
          refine st_aaldr c87_121 hT1041 (tf hT1041 rfl rfl) ay_22 rfl (by omega) ((Fr_aR hF1042 (tf hT1041 rfl rfl) (by decide +kernel) z845).trans (e1030)) ?_
          refine st_iload c87_122 rfl ?_
          refine st_iald c87_123 hT1041 t1031 ay_123 (by omega) (fun e1044 e1045 => ?_)
          refine st_iload c87_124 rfl ?_
          refine st_aload c87_125 rfl ?_
          refine st_getX c87_126 hT1041 (tf hT1041 rfl rfl) fd_2_2 rfl ?_
          refine st_iload c87_129 rfl ?_
          refine st_aald2 c87_130 hT1041 (tf hT1041 rfl rfl) ay_22 rfl (u := 123) rfl (by omega) (fun r1046 e1048 t1049 => ?_)
          refine st_iload c87_131 rfl ?_
          refine st_iald c87_133 hT1041 t1049 ay_123 (by omega) (fun e1050 e1051 => ?_)
          refine st_callt (as := [vI z845, vI z1013, vI (aI h1040 r1028 p2), vI p3, vI (aI h1040 r1046 z1013)]) c87_134 cm_88 hT1041 (tf hT1041 rfl rfl) fd_2_0 rfl rfl rfl rfl (by omega) (K88 hT1041 (Stb_mono hS (by decide +kernel)) z845 (by omega) z1013 (by omega) (aI h1040 r1028 p2) (by omega) p3 (by omega) (aI h1040 r1046 z1013) (by omega) (d - 1) (by omega) _ (fun v h0 H => H)) (fun v1 h1052 H => ?_)
          obtain ⟨rfl, hT1053, hF1054⟩ := H
          have hF1055 := Fr_cp hF1043 hF1054 (by decide +kernel : Wsub W88 W87 = true)
          refine st_iinc (L' := [some (.ref 6), some (vI p1), some (vI p2), some (vI p3), some (vI z845), some (vI (z1013 + 1))]) c87_137 rfl rfl rfl ?_
          refine st_goto c87_140 ?_
          exact ih1020 (z1013 + 1) h1052 (by omega) (by omega) hT1053 hF1055 (Fr_cp (Fr_cp hL1017 hF1042 (by decide +kernel)) hF1054 (by decide +kernel))
      exact lp1018 ((12 - 0 + 1).toNat) 0 h846 (by omega) (by omega) hT847 hF848 (Fr_rf _ _ _)
  exact lp850 ((12 - 0 + 1).toNat) 0 h29 (by omega) (by omega) hT30 hF31 (Fr_rf _ _ _)
  refine st_iload c87_29 rfl ?_
  refine st_aload c87_30 rfl ?_
  refine st_getX c87_31 hT (tf hT rfl rfl) fd_2_1 rfl ?_
  refine st_iload c87_34 rfl ?_
  refine st_aaldr c87_35 hT (tf hT rfl rfl) ay_21 rfl (by omega) e15 ?_
  refine st_iload c87_36 rfl ?_
  refine st_iald c87_37 hT t16 ay_122 (by omega) (fun e1056 e1057 => ?_)
  refine st_icmp_ge c87_38 (by omega) (by omega) (fun k1058 => ?_) (fun k1059 => ?_)
  refine st_aload c87_149 rfl ?_
  refine st_getX c87_150 hT (tf hT rfl rfl) fd_2_1 rfl ?_
  refine st_iload c87_153 rfl ?_
  refine st_aaldr c87_154 hT (tf hT rfl rfl) ay_21 rfl (by omega) e15 ?_
  refine st_iload c87_155 rfl ?_
  refine st_iald c87_156 hT t16 ay_122 (by omega) (fun e1060 e1061 => ?_)
  refine st_ireturn c87_157 ?_
  exact hQ _ _ ⟨aI h r13 p2, rfl, by omega, hT, hF⟩
  refine st_aload c87_41 rfl ?_
  refine st_getX c87_42 hT (tf hT rfl rfl) fd_2_1 rfl ?_
  refine st_iload c87_45 rfl ?_
  refine st_aaldr c87_46 hT (tf hT rfl rfl) ay_21 rfl (by omega) e15 ?_
  refine st_iload c87_47 rfl ?_
  refine st_iload c87_48 rfl ?_
  refine st_iast c87_49 hT t16 ay_122 (by omega) (by omega) (by omega) (Ext_rf _) hS hF (by decide +kernel) (fun h1062 hT1063 hF1064 hU1065 => ?_)
  refine st_aload c87_50 rfl ?_
  refine st_getX c87_51 hT1063 (tf hT1063 rfl rfl) fd_2_1 rfl ?_
  refine st_iload c87_54 rfl ?_
  refine st_aald2 c87_55 hT1063 (tf hT1063 rfl rfl) ay_21 rfl (u := 122) rfl (by omega) (fun r1066 e1068 t1069 => ?_)
  refine st_iload c87_56 rfl ?_
  refine st_iload c87_57 rfl ?_
  refine st_iast c87_58 hT1063 t1069 ay_122 (by omega) (by omega) (by omega) (Ext_rf _) hS hF1064 (by decide +kernel) (fun h1070 hT1071 hF1072 hU1073 => ?_)
  refine st_iconst c87_59 ?_
  refine st_istore (L' := [some (.ref 6), some (vI p1), some (vI p2), some (vI p3), some (vI 0), none]) c87_60 rfl rfl ?_
  have lp1891 : ∀ (n1892 : Nat) (z1886 : Int) (h1887 : List mE), 12 - z1886 < (n1892 : Int) → 0 ≤ z1886 ∧ z1886 ≤ 12 → TH E τ h1887 → Fr τ W87 h h1887 → Fr τ [(123, 0)] h1070 h1887 → MR (mex Ln xs) d 87 62 [some (.ref 6), some (vI p1), some (vI p2), some (vI p3), some (vI z1886), none] [] h1887 Q := by
    intro n1892
    induction n1892 with
    | zero =>
      intro z1886 h1887 hm1894 b1895 hT1888 hF1889 hL1890
      exfalso; omega
    | succ n1892 ih1893 =>
      intro z1886 h1887 hm1894 b1895 hT1888 hF1889 hL1890
      refine st_iload c87_62 rfl ?_
      refine st_aload c87_64 rfl ?_
      refine st_getI c87_65 hT1888 (tf hT1888 rfl rfl) fd_2_3 (fun e1896 e1897 => ?_)
      refine st_icmp_ge c87_68 (by omega) (by omega) (fun k1898 => ?_) (fun k1899 => ?_)
      refine st_aload c87_149 rfl ?_
      refine st_getX c87_150 hT1888 (tf hT1888 rfl rfl) fd_2_1 rfl ?_
      refine st_iload c87_153 rfl ?_
      refine st_aaldr c87_154 hT1888 (tf hT1888 rfl rfl) ay_21 rfl (by omega) ((Fr_aR hL1890 (tf hT1888 rfl rfl) (by decide +kernel) p1).trans ((AUp_aR hU1073 p1).trans ((AUp_aR hU1065 p1).trans (e15)))) ?_
      refine st_iload c87_155 rfl ?_
      refine st_iald c87_156 hT1888 t16 ay_122 (by omega) (fun e1900 e1901 => ?_)
      refine st_ireturn c87_157 ?_
      exact hQ _ _ ⟨aI h1887 r13 p2, rfl, by omega, hT1888, hF1889⟩
      refine st_iconst c87_71 ?_
      refine st_istore (L' := [some (.ref 6), some (vI p1), some (vI p2), some (vI p3), some (vI z1886), some (vI 0)]) c87_72 rfl rfl ?_
      have lp2059 : ∀ (n2060 : Nat) (z2054 : Int) (h2055 : List mE), 12 - z2054 < (n2060 : Int) → 0 ≤ z2054 ∧ z2054 ≤ 12 → TH E τ h2055 → Fr τ W87 h h2055 → Fr τ [(123, 0)] h1887 h2055 → MR (mex Ln xs) d 87 74 [some (.ref 6), some (vI p1), some (vI p2), some (vI p3), some (vI z1886), some (vI z2054)] [] h2055 Q := by
        intro n2060
        induction n2060 with
        | zero =>
          intro z2054 h2055 hm2062 b2063 hT2056 hF2057 hL2058
          exfalso; omega
        | succ n2060 ih2061 =>
          intro z2054 h2055 hm2062 b2063 hT2056 hF2057 hL2058
          refine st_iload c87_74 rfl ?_
          refine st_aload c87_76 rfl ?_
          refine st_getI c87_77 hT2056 (tf hT2056 rfl rfl) fd_2_3 (fun e2064 e2065 => ?_)
          have q2066 : fI h2055 6 3 = fI h1887 6 3 := Fr_fI hL2058 (tf hT2056 rfl rfl) (by decide +kernel)
          refine st_icmp_ge c87_80 (by omega) (by omega) (fun k2067 => ?_) (fun k2068 => ?_)
          refine st_iinc (L' := [some (.ref 6), some (vI p1), some (vI p2), some (vI p3), some (vI (z1886 + 1)), some (vI z2054)]) c87_143 rfl rfl rfl ?_
          refine st_goto c87_146 ?_
          refine MR_weak (A := [some (.ref 6), some (vI p1), some (vI p2), some (vI p3), some (vI (z1886 + 1)), none]) (Lle_s (Lle_s (Lle_s (Lle_s (Lle_s (Lle_n (Lle_0))))))) ?_
          exact ih1893 (z1886 + 1) h2055 (by omega) (by omega) hT2056 hF2057 (Fr_cp hL1890 hL2058 (by decide +kernel))
          refine st_aload c87_83 rfl ?_
          refine st_iload c87_84 rfl ?_
          refine st_iload c87_86 rfl ?_
          refine st_aload c87_88 rfl ?_
          refine st_getX c87_89 hT2056 (tf hT2056 rfl rfl) fd_2_2 rfl ?_
          refine st_iload c87_92 rfl ?_
          refine st_aald2 c87_94 hT2056 (tf hT2056 rfl rfl) ay_22 rfl (u := 123) rfl (by omega) (fun r2069 e2071 t2072 => ?_)
          refine st_iload c87_95 rfl ?_
          refine st_iald c87_96 hT2056 t2072 ay_123 (by omega) (fun e2073 e2074 => ?_)
          refine st_iload c87_97 rfl ?_
          refine st_aload c87_98 rfl ?_
          refine st_getX c87_99 hT2056 (tf hT2056 rfl rfl) fd_2_2 rfl ?_
          refine st_iload c87_102 rfl ?_
          refine st_aald2 c87_103 hT2056 (tf hT2056 rfl rfl) ay_22 rfl (u := 123) rfl (by omega) (fun r2075 e2077 t2078 => ?_)
          refine st_iload c87_104 rfl ?_
          refine st_iald c87_106 hT2056 t2078 ay_123 (by omega) (fun e2079 e2080 => ?_)
          refine st_callt (as := [vI z1886, vI z2054, vI (aI h2055 r2069 p1), vI p3, vI (aI h2055 r2075 z2054)]) c87_107 cm_88 hT2056 (tf hT2056 rfl rfl) fd_2_0 rfl rfl rfl rfl (by omega) (K88 hT2056 (Stb_mono hS (by decide +kernel)) z1886 (by omega) z2054 (by omega) (aI h2055 r2069 p1) (by omega) p3 (by omega) (aI h2055 r2075 z2054) (by omega) (d - 1) (by omega) _ (fun v h0 H => H)) (fun v1 h2081 H => ?_)
          obtain ⟨rfl, hT2082, hF2083⟩ := H
          have hF2084 := Fr_cp hF2057 hF2083 (by decide +kernel : Wsub W88 W87 = true)
          refine st_aload c87_110 rfl ?_
          refine st_iload c87_111 rfl ?_
          refine st_iload c87_113 rfl ?_
          refine st_aload c87_115 rfl ?_
          refine st_getX c87_116 hT2082 (tf hT2082 rfl rfl) fd_2_2 rfl ?_
          refine st_iload c87_119 rfl ?_
          refine st_aaldr c87_121 hT2082 (tf hT2082 rfl rfl) ay_22 rfl (by omega) ((Fr_aR hF2083 (tf hT2082 rfl rfl) (by decide +kernel) z1886).trans (e2071)) ?_
          refine st_iload c87_122 rfl ?_
          refine st_iald c87_123 hT2082 t2072 ay_123 (by omega) (fun e2085 e2086 => ?_)
          refine st_iload c87_124 rfl ?_
          refine st_aload c87_125 rfl ?_
          refine st_getX c87_126 hT2082 (tf hT2082 rfl rfl) fd_2_2 rfl ?_
          refine st_iload c87_129 rfl ?_
          refine st_aald2 c87_130 hT2082 (tf hT2082 rfl rfl) ay_22 rfl (u := 123) rfl (by omega) (fun r2087 e2089 t2090 => ?_)
          refine st_iload c87_131 rfl ?_
          refine st_iald c87_133 hT2082 t2090 ay_123 (by omega) (fun e2091 e2092 => ?_)
          refine st_callt (as := [vI z1886, vI z2054, vI (aI h2081 r2069 p2), vI p3, vI (aI h2081 r2087 z2054)]) c87_134 cm_88 hT2082 (tf hT2082 rfl rfl) fd_2_0 rfl rfl rfl rfl (by omega) (K88 hT2082 (Stb_mono hS (by decide +kernel)) z1886 (by omega) z2054 (by omega) (aI h2081 r2069 p2) (by omega) p3 (by omega) (aI h2081 r2087 z2054) (by omega) (d - 1) (by omega) _ (fun v h0 H => H)) (fun v1 h2093 H => ?_)
          obtain ⟨rfl, hT2094, hF2095⟩ := H
          have hF2096 := Fr_cp hF2084 hF2095 (by decide +kernel : Wsub W88 W87 = true)
          refine st_iinc (L' := [some (.ref 6), some (vI p1), some (vI p2), some (vI p3), some (vI z1886), some (vI (z2054 + 1))]) c87_137 rfl rfl rfl ?_
          refine st_goto c87_140 ?_
          exact ih2061 (z2054 + 1) h2093 (by omega) (by omega) hT2094 hF2096 (Fr_cp (Fr_cp hL2058 hF2083 (by decide +kernel)) hF2095 (by decide +kernel))
      exact lp2059 ((12 - 0 + 1).toNat) 0 h1887 (by omega) (by omega) hT1888 hF1889 (Fr_rf _ _ _)
  exact lp1891 ((12 - 0 + 1).toNat) 0 h1070 (by omega) (by omega) hT1071 hF1072 (Fr_rf _ _ _)
set_option maxHeartbeats 0 in
theorem K89 {Ln : Nat} {xs : Nat → Int32} {τ : List Nat} {h : List mE} {E : EP} (hT : TH E τ h) (p1 : Int) (hp1 : (-2147483648) ≤ p1 ∧ p1 ≤ 2147483647) (p2 : Int) (hp2 : (-2147483648) ≤ p2 ∧ p2 ≤ 2147483647) (d : Nat) (hd : 1 ≤ d) (Q : Option Value → List mE → Prop) (hQ : ∀ v h', (∃ z : Int, v = some (vI z) ∧ ((-2147483648) ≤ z ∧ z ≤ 2147483647) ∧ h' = h) → Q v h') : MR (mex Ln xs) d 89 0 [some (.ref 6), some (vI p1), some (vI p2)] [] h Q := by
  refine st_aload c89_0 rfl ?_
  refine st_iload c89_1 rfl ?_
  refine st_callt (as := [vI p1]) c89_2 cm_85 hT (tf hT rfl rfl) fd_2_0 rfl rfl rfl rfl (by omega) (K85 hT p1 (by omega) (d - 1) (by omega) _ (fun v h0 H => H)) (fun v1 h1 H => ?_)
  rcases H with ⟨rfl, rfl⟩ | ⟨rfl, p1, p2, rfl⟩
  refine st_if_eq c89_5 (by omega) (fun k3 => ?_) (fun k4 => False.elim (by omega))
  refine st_iconst c89_27 ?_
  refine st_ireturn c89_28 ?_
  exact hQ _ _ ⟨(-1), rfl, by omega, rfl⟩
  refine st_if_eq c89_5 (by omega) (fun k5 => False.elim (by omega)) (fun k6 => ?_)
  refine st_aload c89_8 rfl ?_
  refine st_iload c89_9 rfl ?_
  refine st_callt (as := [vI p2]) c89_10 cm_85 hT (tf hT rfl rfl) fd_2_0 rfl rfl rfl rfl (by omega) (K85 hT p2 (by omega) (d - 1) (by omega) _ (fun v h0 H => H)) (fun v1 h1 H => ?_)
  rcases H with ⟨rfl, rfl⟩ | ⟨rfl, p7, p8, rfl⟩
  refine st_if_eq c89_13 (by omega) (fun k9 => ?_) (fun k10 => False.elim (by omega))
  refine st_iconst c89_27 ?_
  refine st_ireturn c89_28 ?_
  exact hQ _ _ ⟨(-1), rfl, by omega, rfl⟩
  refine st_if_eq c89_13 (by omega) (fun k11 => False.elim (by omega)) (fun k12 => ?_)
  refine st_aload c89_16 rfl ?_
  refine st_getX c89_17 hT (tf hT rfl rfl) fd_2_2 rfl ?_
  refine st_iload c89_20 rfl ?_
  refine st_aald2 c89_21 hT (tf hT rfl rfl) ay_22 rfl (u := 123) rfl (by omega) (fun r13 e15 t16 => ?_)
  refine st_iload c89_22 rfl ?_
  refine st_iald c89_23 hT t16 ay_123 (by omega) (fun e17 e18 => ?_)
  refine st_goto c89_24 ?_
  refine st_ireturn c89_28 ?_
  exact hQ _ _ ⟨aI h r13 p2, rfl, by omega, rfl⟩
set_option maxHeartbeats 0 in
theorem K90 {Ln : Nat} {xs : Nat → Int32} {τ : List Nat} {h : List mE} {E : EP} (hT : TH E τ h) (p1 : Int) (hp1 : (-2147483648) ≤ p1 ∧ p1 ≤ 2147483647) (p2 : Int) (hp2 : (-2147483648) ≤ p2 ∧ p2 ≤ 2147483647) (d : Nat) (hd : 2 ≤ d) (Q : Option Value → List mE → Prop) (hQ : ∀ v h', (∃ z : Int, v = some (vI z) ∧ ((-71582788) ≤ z ∧ z ≤ 71582788) ∧ h' = h) → Q v h') : MR (mex Ln xs) d 90 0 [some (.ref 6), some (vI p1), some (vI p2), none] [] h Q := by
  refine st_aload c90_0 rfl ?_
  refine st_iload c90_1 rfl ?_
  refine st_iload c90_2 rfl ?_
  refine st_callt (as := [vI p1, vI p2]) c90_3 cm_89 hT (tf hT rfl rfl) fd_2_0 rfl rfl rfl rfl (by omega) (K89 hT p1 (by omega) p2 (by omega) (d - 1) (by omega) _ (fun v h0 H => H)) (fun v1 h1 H => ?_)
  obtain ⟨z1, rfl, b2, rfl⟩ := H
  refine st_istore (L' := [some (.ref 6), some (vI p1), some (vI p2), some (vI z1)]) c90_6 rfl rfl ?_
  refine st_iload c90_7 rfl ?_
  refine st_if_ge c90_8 (by omega) (fun k3 => ?_) (fun k4 => ?_)
  refine st_iload c90_15 rfl ?_
  refine st_iconst c90_16 ?_
  refine st_iadd c90_18 ?_
  refine MR_wrap (fun w5 e6 e7 e8 => ?_)
  refine st_iconst c90_19 ?_
  refine st_isub c90_20 ?_
  refine MR_wrap (fun w9 e10 e11 e12 => ?_)
  refine st_iconst c90_21 ?_
  refine st_idivc c90_23 (by omega) (by omega) (fun w13 e14 e15 => ?_)
  refine st_ireturn c90_24 ?_
  exact hQ _ _ ⟨w13, rfl, by omega, rfl⟩
  refine st_iconst c90_11 ?_
  refine st_goto c90_12 ?_
  refine st_ireturn c90_24 ?_
  exact hQ _ _ ⟨(-1), rfl, by omega, rfl⟩
def W118 : List (Nat × Nat) := [(2, 3), (20, 0), (123, 0)]
set_option maxHeartbeats 0 in
theorem K118 {Ln : Nat} {xs : Nat → Int32} {τ : List Nat} {h : List mE} {E : EP} (hT : TH E τ h) (hS : Stb E W118) (p1 : Int) (hp1 : (-2147483648) ≤ p1 ∧ p1 ≤ 2147483647) (d : Nat) (hd : 1 ≤ d) (Q : Option Value → List mE → Prop) (hQ : ∀ v h', (∃ z : Int, v = some (vI z) ∧ ((-3) ≤ z ∧ z ≤ 11) ∧ TH E τ h' ∧ Fr τ W118 h h') → Q v h') : MR (mex Ln xs) d 118 0 [some (.ref 4), some (vI p1)] [] h Q := by
  have hF := Fr_rf τ W118 h
  refine st_iload c118_0 rfl ?_
  refine st_calls (as := [vI p1]) c118_1 cm_167 rfl rfl rfl rfl (by omega) (K167 hT p1 (by omega) (d - 1) (by omega) _ (fun v h0 H => H)) (fun v1 h1 H => ?_)
  rcases H with ⟨rfl, rfl⟩ | ⟨rfl, p1, p2, rfl⟩
  refine st_if_eq c118_4 (by omega) (fun k3 => ?_) (fun k4 => False.elim (by omega))
  refine st_iconst c118_18 ?_
  refine st_ireturn c118_19 ?_
  exact hQ _ _ ⟨(-1), rfl, by omega, hT, hF⟩
  refine st_if_eq c118_4 (by omega) (fun k5 => False.elim (by omega)) (fun k6 => ?_)
  refine st_aload c118_7 rfl ?_
  refine st_getX c118_8 hT (tf hT rfl rfl) fd_1_3 rfl ?_
  refine st_iload c118_11 rfl ?_
  refine st_callt (as := [vI p1]) c118_12 cm_84 hT (tf hT rfl rfl) fd_2_0 rfl rfl rfl rfl (by omega) (K84 hT (Stb_mono hS (by decide +kernel)) p1 (by omega) (d - 1) (by omega) _ (fun v h0 H => H)) (fun v1 h7 H => ?_)
  obtain ⟨z10, rfl, b11, hT8, hF9⟩ := H
  have hF12 := Fr_cp hF hF9 (by decide +kernel : Wsub W84 W118 = true)
  refine st_goto c118_15 ?_
  refine st_ireturn c118_19 ?_
  exact hQ _ _ ⟨z10, rfl, by omega, hT8, hF12⟩
def W119 : List (Nat × Nat) := [(122, 0), (123, 0)]
set_option maxHeartbeats 0 in
theorem K119 {Ln : Nat} {xs : Nat → Int32} {τ : List Nat} {h : List mE} {E : EP} (hT : TH E τ h) (hS : Stb E W119) (p1 : Int) (hp1 : (-2147483648) ≤ p1 ∧ p1 ≤ 2147483647) (p2 : Int) (hp2 : (-2147483648) ≤ p2 ∧ p2 ≤ 2147483647) (p3 : Int) (hp3 : (-2147483648) ≤ p3 ∧ p3 ≤ 2147483647) (d : Nat) (hd : 3 ≤ d) (Q : Option Value → List mE → Prop) (hQ : ∀ v h', (∃ z : Int, v = some (vI z) ∧ ((-1) ≤ z ∧ z ≤ 300) ∧ TH E τ h' ∧ Fr τ W119 h h') → Q v h') : MR (mex Ln xs) d 119 0 [some (.ref 4), some (vI p1), some (vI p2), some (vI p3)] [] h Q := by
  have hF := Fr_rf τ W119 h
  refine st_aload c119_0 rfl ?_
  refine st_getX c119_1 hT (tf hT rfl rfl) fd_1_3 rfl ?_
  refine st_iload c119_4 rfl ?_
  refine st_callt (as := [vI p1]) c119_5 cm_85 hT (tf hT rfl rfl) fd_2_0 rfl rfl rfl rfl (by omega) (K85 hT p1 (by omega) (d - 1) (by omega) _ (fun v h0 H => H)) (fun v1 h1 H => ?_)
  rcases H with ⟨rfl, rfl⟩ | ⟨rfl, p1, p2, rfl⟩
  refine st_if_eq c119_8 (by omega) (fun k3 => ?_) (fun k4 => False.elim (by omega))
  refine st_iconst c119_38 ?_
  refine st_ireturn c119_39 ?_
  exact hQ _ _ ⟨(-1), rfl, by omega, hT, hF⟩
  refine st_if_eq c119_8 (by omega) (fun k5 => False.elim (by omega)) (fun k6 => ?_)
  refine st_aload c119_11 rfl ?_
  refine st_getX c119_12 hT (tf hT rfl rfl) fd_1_3 rfl ?_
  refine st_iload c119_15 rfl ?_
  refine st_callt (as := [vI p2]) c119_16 cm_85 hT (tf hT rfl rfl) fd_2_0 rfl rfl rfl rfl (by omega) (K85 hT p2 (by omega) (d - 1) (by omega) _ (fun v h0 H => H)) (fun v1 h1 H => ?_)
  rcases H with ⟨rfl, rfl⟩ | ⟨rfl, p7, p8, rfl⟩
  refine st_if_eq c119_19 (by omega) (fun k9 => ?_) (fun k10 => False.elim (by omega))
  refine st_iconst c119_38 ?_
  refine st_ireturn c119_39 ?_
  exact hQ _ _ ⟨(-1), rfl, by omega, hT, hF⟩
  refine st_if_eq c119_19 (by omega) (fun k11 => False.elim (by omega)) (fun k12 => ?_)
  refine st_iload c119_22 rfl ?_
  refine st_iload c119_23 rfl ?_
  refine st_icmp_eq c119_24 (by omega) (by omega) (fun k13 => ?_) (fun k14 => ?_)
  refine st_iconst c119_38 ?_
  refine st_ireturn c119_39 ?_
  exact hQ _ _ ⟨(-1), rfl, by omega, hT, hF⟩
  refine st_iload c119_27 rfl ?_
  refine st_iconst c119_28 ?_
  refine st_iconst c119_29 ?_
  refine st_calls (as := [vI p3, vI 1, vI 300]) c119_32 cm_166 rfl rfl rfl rfl (by omega) (K166 hT p3 (by omega) 1 (by omega) 300 (by omega) (d - 1) (by omega) _ (fun v h0 H => H)) (fun v1 h1 H => ?_)
  rcases H with ⟨rfl, rfl⟩ | ⟨rfl, p15, p16, rfl⟩
  refine st_if_ne c119_35 (by omega) (fun k17 => False.elim (by omega)) (fun k18 => ?_)
  refine st_iconst c119_38 ?_
  refine st_ireturn c119_39 ?_
  exact hQ _ _ ⟨(-1), rfl, by omega, hT, hF⟩
  refine st_if_ne c119_35 (by omega) (fun k19 => ?_) (fun k20 => False.elim (by omega))
  refine st_aload c119_40 rfl ?_
  refine st_getX c119_41 hT (tf hT rfl rfl) fd_1_3 rfl ?_
  refine st_iload c119_44 rfl ?_
  refine st_iload c119_45 rfl ?_
  refine st_iload c119_46 rfl ?_
  refine st_callt (as := [vI p1, vI p2, vI p3]) c119_47 cm_87 hT (tf hT rfl rfl) fd_2_0 rfl rfl rfl rfl (by omega) (K87 hT (Stb_mono hS (by decide +kernel)) p1 (by omega) p2 (by omega) p3 (by omega) (d - 1) (by omega) _ (fun v h0 H => H)) (fun v1 h21 H => ?_)
  obtain ⟨z24, rfl, b25, hT22, hF23⟩ := H
  have hF26 := Fr_cp hF hF23 (by decide +kernel : Wsub W87 W119 = true)
  refine st_ireturn c119_50 ?_
  exact hQ _ _ ⟨z24, rfl, by omega, hT22, hF26⟩
set_option maxHeartbeats 0 in
theorem K120 {Ln : Nat} {xs : Nat → Int32} {τ : List Nat} {h : List mE} {E : EP} (hT : TH E τ h) (p1 : Int) (hp1 : (-2147483648) ≤ p1 ∧ p1 ≤ 2147483647) (p2 : Int) (hp2 : (-2147483648) ≤ p2 ∧ p2 ≤ 2147483647) (d : Nat) (hd : 2 ≤ d) (Q : Option Value → List mE → Prop) (hQ : ∀ v h', (∃ z : Int, v = some (vI z) ∧ ((-2) ≤ z ∧ z ≤ 2147483647) ∧ h' = h) → Q v h') : MR (mex Ln xs) d 120 0 [some (.ref 4), some (vI p1), some (vI p2), none] [] h Q := by
  refine st_aload c120_0 rfl ?_
  refine st_getX c120_1 hT (tf hT rfl rfl) fd_1_3 rfl ?_
  refine st_iload c120_4 rfl ?_
  refine st_callt (as := [vI p1]) c120_5 cm_85 hT (tf hT rfl rfl) fd_2_0 rfl rfl rfl rfl (by omega) (K85 hT p1 (by omega) (d - 1) (by omega) _ (fun v h0 H => H)) (fun v1 h1 H => ?_)
  rcases H with ⟨rfl, rfl⟩ | ⟨rfl, p1, p2, rfl⟩
  refine st_if_eq c120_8 (by omega) (fun k3 => ?_) (fun k4 => False.elim (by omega))
  refine st_iconst c120_22 ?_
  refine st_ireturn c120_23 ?_
  exact hQ _ _ ⟨(-1), rfl, by omega, rfl⟩
  refine st_if_eq c120_8 (by omega) (fun k5 => False.elim (by omega)) (fun k6 => ?_)
  refine st_aload c120_11 rfl ?_
  refine st_getX c120_12 hT (tf hT rfl rfl) fd_1_3 rfl ?_
  refine st_iload c120_15 rfl ?_
  refine st_callt (as := [vI p2]) c120_16 cm_85 hT (tf hT rfl rfl) fd_2_0 rfl rfl rfl rfl (by omega) (K85 hT p2 (by omega) (d - 1) (by omega) _ (fun v h0 H => H)) (fun v1 h1 H => ?_)
  rcases H with ⟨rfl, rfl⟩ | ⟨rfl, p7, p8, rfl⟩
  refine st_if_ne c120_19 (by omega) (fun k9 => False.elim (by omega)) (fun k10 => ?_)
  refine st_iconst c120_22 ?_
  refine st_ireturn c120_23 ?_
  exact hQ _ _ ⟨(-1), rfl, by omega, rfl⟩
  refine st_if_ne c120_19 (by omega) (fun k11 => ?_) (fun k12 => False.elim (by omega))
  refine st_aload c120_24 rfl ?_
  refine st_getX c120_25 hT (tf hT rfl rfl) fd_1_3 rfl ?_
  refine st_iload c120_28 rfl ?_
  refine st_iload c120_29 rfl ?_
  refine st_callt (as := [vI p1, vI p2]) c120_30 cm_89 hT (tf hT rfl rfl) fd_2_0 rfl rfl rfl rfl (by omega) (K89 hT p1 (by omega) p2 (by omega) (d - 1) (by omega) _ (fun v h0 H => H)) (fun v1 h1 H => ?_)
  obtain ⟨z13, rfl, b14, rfl⟩ := H
  refine st_istore (L' := [some (.ref 4), some (vI p1), some (vI p2), some (vI z13)]) c120_33 rfl rfl ?_
  refine st_iload c120_34 rfl ?_
  refine st_if_ge c120_35 (by omega) (fun k15 => ?_) (fun k16 => ?_)
  refine st_iload c120_43 rfl ?_
  refine st_ireturn c120_44 ?_
  exact hQ _ _ ⟨z13, rfl, by omega, rfl⟩
  refine st_iconst c120_38 ?_
  refine st_goto c120_40 ?_
  refine st_ireturn c120_44 ?_
  exact hQ _ _ ⟨(-2), rfl, by omega, rfl⟩
def W122 : List (Nat × Nat) := [(14, 0)]
set_option maxHeartbeats 0 in
theorem K122 {Ln : Nat} {xs : Nat → Int32} {τ : List Nat} {h : List mE} {E : EP} (hT : TH E τ h) (hS : Stb E W122) (p1 : Int) (hp1 : (-2147483648) ≤ p1 ∧ p1 ≤ 2147483647) (p2 : Int) (hp2 : (-2147483648) ≤ p2 ∧ p2 ≤ 2147483647) (d : Nat) (hd : 1 ≤ d) (Q : Option Value → List mE → Prop) (hQ : ∀ v h', (∃ z : Int, v = some (vI z) ∧ ((-1) ≤ z ∧ z ≤ 1) ∧ TH E τ h' ∧ Fr τ W122 h h') → Q v h') : MR (mex Ln xs) d 122 0 [some (.ref 4), some (vI p1), some (vI p2), none] [] h Q := by
  have hF := Fr_rf τ W122 h
  refine st_iload c122_0 rfl ?_
  refine st_iconst c122_1 ?_
  refine st_iconst c122_2 ?_
  refine st_calls (as := [vI p1, vI 0, vI 999]) c122_5 cm_166 rfl rfl rfl rfl (by omega) (K166 hT p1 (by omega) 0 (by omega) 999 (by omega) (d - 1) (by omega) _ (fun v h0 H => H)) (fun v1 h1 H => ?_)
  rcases H with ⟨rfl, rfl⟩ | ⟨rfl, p1, p2, rfl⟩
  refine st_if_eq c122_8 (by omega) (fun k3 => ?_) (fun k4 => False.elim (by omega))
  refine st_iconst c122_18 ?_
  refine st_ireturn c122_19 ?_
  exact hQ _ _ ⟨(-1), rfl, by omega, hT, hF⟩
  refine st_if_eq c122_8 (by omega) (fun k5 => False.elim (by omega)) (fun k6 => ?_)
  refine st_iload c122_11 rfl ?_
  refine st_calls (as := [vI p2]) c122_12 cm_167 rfl rfl rfl rfl (by omega) (K167 hT p2 (by omega) (d - 1) (by omega) _ (fun v h0 H => H)) (fun v1 h1 H => ?_)
  rcases H with ⟨rfl, rfl⟩ | ⟨rfl, p7, p8, rfl⟩
  refine st_if_ne c122_15 (by omega) (fun k9 => False.elim (by omega)) (fun k10 => ?_)
  refine st_iconst c122_18 ?_
  refine st_ireturn c122_19 ?_
  exact hQ _ _ ⟨(-1), rfl, by omega, hT, hF⟩
  refine st_if_ne c122_15 (by omega) (fun k11 => ?_) (fun k12 => False.elim (by omega))
  refine st_aload c122_20 rfl ?_
  refine st_getX c122_21 hT (tf hT rfl rfl) fd_1_2 rfl ?_
  refine st_iload c122_24 rfl ?_
  refine st_bald c122_25 hT (tf hT rfl rfl) ay_14 (Or.inl rfl) (by omega) (fun e13 e14 => ?_)
  refine st_if_eq c122_26 (by omega) (fun k15 => ?_) (fun k16 => ?_)
  refine st_iconst c122_33 ?_
  refine st_istore (L' := [some (.ref 4), some (vI p1), some (vI p2), some (vI 0)]) c122_34 rfl rfl ?_
  refine st_aload c122_35 rfl ?_
  refine st_getX c122_36 hT (tf hT rfl rfl) fd_1_2 rfl ?_
  refine st_iload c122_39 rfl ?_
  refine st_iload c122_40 rfl ?_
  refine st_iconst c122_41 ?_
  refine st_icmp_ne c122_42 (by omega) (by omega) (fun k17 => ?_) (fun k18 => ?_)
  refine st_iconst c122_49 ?_
  refine st_zast c122_50 hT (tf hT rfl rfl) ay_14 (by omega) (by omega) (Ext_rf _) hS hF (by decide +kernel) (fun h19 hT20 hF21 hU22 => ?_)
  refine st_iload c122_51 rfl ?_
  refine st_ireturn c122_52 ?_
  exact hQ _ _ ⟨0, rfl, by omega, hT20, hF21⟩
  refine st_iconst c122_45 ?_
  refine st_goto c122_46 ?_
  refine st_zast c122_50 hT (tf hT rfl rfl) ay_14 (by omega) (by omega) (Ext_rf _) hS hF (by decide +kernel) (fun h23 hT24 hF25 hU26 => ?_)
  refine st_iload c122_51 rfl ?_
  refine st_ireturn c122_52 ?_
  exact hQ _ _ ⟨0, rfl, by omega, hT24, hF25⟩
  refine st_iconst c122_29 ?_
  refine st_goto c122_30 ?_
  refine st_istore (L' := [some (.ref 4), some (vI p1), some (vI p2), some (vI 1)]) c122_34 rfl rfl ?_
  refine st_aload c122_35 rfl ?_
  refine st_getX c122_36 hT (tf hT rfl rfl) fd_1_2 rfl ?_
  refine st_iload c122_39 rfl ?_
  refine st_iload c122_40 rfl ?_
  refine st_iconst c122_41 ?_
  refine st_icmp_ne c122_42 (by omega) (by omega) (fun k27 => ?_) (fun k28 => ?_)
  refine st_iconst c122_49 ?_
  refine st_zast c122_50 hT (tf hT rfl rfl) ay_14 (by omega) (by omega) (Ext_rf _) hS hF (by decide +kernel) (fun h29 hT30 hF31 hU32 => ?_)
  refine st_iload c122_51 rfl ?_
  refine st_ireturn c122_52 ?_
  exact hQ _ _ ⟨1, rfl, by omega, hT30, hF31⟩
  refine st_iconst c122_45 ?_
  refine st_goto c122_46 ?_
  refine st_zast c122_50 hT (tf hT rfl rfl) ay_14 (by omega) (by omega) (Ext_rf _) hS hF (by decide +kernel) (fun h33 hT34 hF35 hU36 => ?_)
  refine st_iload c122_51 rfl ?_
  refine st_ireturn c122_52 ?_
  exact hQ _ _ ⟨1, rfl, by omega, hT34, hF35⟩
