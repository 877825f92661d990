theorem d105_0 : decode (xmb 105) 0 = .ok (.iload_n 1, 1) := by decide +kernel
theorem d105_1 : decode (xmb 105) 1 = .ok (.aload_n 0, 1) := by decide +kernel
theorem d105_2 : decode (xmb 105) 2 = .ok (.arraylength, 1) := by decide +kernel
theorem d105_3 : decode (xmb 105) 3 = .ok (.if_icmp .ge 9, 3) := by decide +kernel
theorem d105_6 : decode (xmb 105) 6 = .ok (.aload_n 0, 1) := by decide +kernel
theorem d105_7 : decode (xmb 105) 7 = .ok (.iload_n 1, 1) := by decide +kernel
theorem d105_8 : decode (xmb 105) 8 = .ok (.iaload, 1) := by decide +kernel
theorem d105_9 : decode (xmb 105) 9 = .ok (.goto 11, 3) := by decide +kernel
theorem d105_12 : decode (xmb 105) 12 = .ok (.ldc 7, 2) := by decide +kernel
theorem d105_14 : decode (xmb 105) 14 = .ok (.iload_n 1, 1) := by decide +kernel
theorem d105_15 : decode (xmb 105) 15 = .ok (.imul, 1) := by decide +kernel
theorem d105_16 : decode (xmb 105) 16 = .ok (.sipush 10799, 3) := by decide +kernel
theorem d105_19 : decode (xmb 105) 19 = .ok (.iadd, 1) := by decide +kernel
theorem d105_20 : decode (xmb 105) 20 = .ok (.ldc 8, 2) := by decide +kernel
theorem d105_22 : decode (xmb 105) 22 = .ok (.iand, 1) := by decide +kernel
theorem d105_23 : decode (xmb 105) 23 = .ok (.ireturn, 1) := by decide +kernel
theorem d106_0 : decode (xmb 106) 0 = .ok (.lload_n 0, 1) := by decide +kernel
theorem d106_1 : decode (xmb 106) 1 = .ok (.lload_n 2, 1) := by decide +kernel
theorem d106_2 : decode (xmb 106) 2 = .ok (.lcmp, 1) := by decide +kernel
theorem d106_3 : decode (xmb 106) 3 = .ok (.ifCond .lt 14, 3) := by decide +kernel
theorem d106_6 : decode (xmb 106) 6 = .ok (.lload_n 0, 1) := by decide +kernel
theorem d106_7 : decode (xmb 106) 7 = .ok (.lload 4, 2) := by decide +kernel
theorem d106_9 : decode (xmb 106) 9 = .ok (.lcmp, 1) := by decide +kernel
theorem d106_10 : decode (xmb 106) 10 = .ok (.ifCond .gt 7, 3) := by decide +kernel
theorem d106_13 : decode (xmb 106) 13 = .ok (.iconst 1, 1) := by decide +kernel
theorem d106_14 : decode (xmb 106) 14 = .ok (.goto 4, 3) := by decide +kernel
theorem d106_17 : decode (xmb 106) 17 = .ok (.iconst 0, 1) := by decide +kernel
theorem d106_18 : decode (xmb 106) 18 = .ok (.ireturn, 1) := by decide +kernel
theorem d107_0 : decode (xmb 107) 0 = .ok (.aload_n 0, 1) := by decide +kernel
theorem d107_1 : decode (xmb 107) 1 = .ok (.iload_n 1, 1) := by decide +kernel
theorem d107_2 : decode (xmb 107) 2 = .ok (.invokevirtual 9, 3) := by decide +kernel
theorem d107_5 : decode (xmb 107) 5 = .ok (.i2l, 1) := by decide +kernel
theorem d107_6 : decode (xmb 107) 6 = .ok (.lreturn, 1) := by decide +kernel
theorem d107_7 : decode (xmb 107) 7 = .ok (.astore_n 2, 1) := by decide +kernel
theorem d107_8 : decode (xmb 107) 8 = .ok (.ldc2_w 17, 3) := by decide +kernel
theorem d107_11 : decode (xmb 107) 11 = .ok (.lreturn, 1) := by decide +kernel
theorem d107_12 : decode (xmb 107) 12 = .ok (.astore_n 2, 1) := by decide +kernel
theorem d107_13 : decode (xmb 107) 13 = .ok (.ldc2_w 21, 3) := by decide +kernel
theorem d107_16 : decode (xmb 107) 16 = .ok (.lreturn, 1) := by decide +kernel
theorem d108_0 : decode (xmb 108) 0 = .ok (.aload_n 0, 1) := by decide +kernel
theorem d108_1 : decode (xmb 108) 1 = .ok (.invokevirtual 23, 3) := by decide +kernel
theorem d108_4 : decode (xmb 108) 4 = .ok (.i2l, 1) := by decide +kernel
theorem d108_5 : decode (xmb 108) 5 = .ok (.lreturn, 1) := by decide +kernel
theorem d108_6 : decode (xmb 108) 6 = .ok (.astore_n 1, 1) := by decide +kernel
theorem d108_7 : decode (xmb 108) 7 = .ok (.ldc2_w 21, 3) := by decide +kernel
theorem d108_10 : decode (xmb 108) 10 = .ok (.lreturn, 1) := by decide +kernel
theorem d109_0 : decode (xmb 109) 0 = .ok (.aload_n 0, 1) := by decide +kernel
theorem d109_1 : decode (xmb 109) 1 = .ok (.iload_n 1, 1) := by decide +kernel
theorem d109_2 : decode (xmb 109) 2 = .ok (.invokevirtual 27, 3) := by decide +kernel
theorem d109_5 : decode (xmb 109) 5 = .ok (.i2l, 1) := by decide +kernel
theorem d109_6 : decode (xmb 109) 6 = .ok (.lreturn, 1) := by decide +kernel
theorem d109_7 : decode (xmb 109) 7 = .ok (.astore_n 2, 1) := by decide +kernel
theorem d109_8 : decode (xmb 109) 8 = .ok (.ldc2_w 17, 3) := by decide +kernel
theorem d109_11 : decode (xmb 109) 11 = .ok (.lreturn, 1) := by decide +kernel
theorem d110_0 : decode (xmb 110) 0 = .ok (.aload_n 0, 1) := by decide +kernel
theorem d110_1 : decode (xmb 110) 1 = .ok (.iload_n 1, 1) := by decide +kernel
theorem d110_2 : decode (xmb 110) 2 = .ok (.iload_n 2, 1) := by decide +kernel
theorem d110_3 : decode (xmb 110) 3 = .ok (.invokevirtual 30, 3) := by decide +kernel
theorem d110_6 : decode (xmb 110) 6 = .ok (.i2l, 1) := by decide +kernel
theorem d110_7 : decode (xmb 110) 7 = .ok (.lreturn, 1) := by decide +kernel
theorem d110_8 : decode (xmb 110) 8 = .ok (.astore_n 3, 1) := by decide +kernel
theorem d110_9 : decode (xmb 110) 9 = .ok (.ldc2_w 36, 3) := by decide +kernel
theorem d110_12 : decode (xmb 110) 12 = .ok (.lreturn, 1) := by decide +kernel
theorem d110_13 : decode (xmb 110) 13 = .ok (.astore_n 3, 1) := by decide +kernel
theorem d110_14 : decode (xmb 110) 14 = .ok (.ldc2_w 17, 3) := by decide +kernel
theorem d110_17 : decode (xmb 110) 17 = .ok (.lreturn, 1) := by decide +kernel
theorem d111_0 : decode (xmb 111) 0 = .ok (.aload_n 0, 1) := by decide +kernel
theorem d111_1 : decode (xmb 111) 1 = .ok (.iload_n 1, 1) := by decide +kernel
theorem d111_2 : decode (xmb 111) 2 = .ok (.iload_n 2, 1) := by decide +kernel
theorem d111_3 : decode (xmb 111) 3 = .ok (.invokevirtual 38, 3) := by decide +kernel
theorem d111_6 : decode (xmb 111) 6 = .ok (.i2l, 1) := by decide +kernel
theorem d111_7 : decode (xmb 111) 7 = .ok (.lreturn, 1) := by decide +kernel
theorem d111_8 : decode (xmb 111) 8 = .ok (.astore_n 3, 1) := by decide +kernel
theorem d111_9 : decode (xmb 111) 9 = .ok (.ldc2_w 36, 3) := by decide +kernel
theorem d111_12 : decode (xmb 111) 12 = .ok (.lreturn, 1) := by decide +kernel
theorem d111_13 : decode (xmb 111) 13 = .ok (.astore_n 3, 1) := by decide +kernel
theorem d111_14 : decode (xmb 111) 14 = .ok (.ldc2_w 17, 3) := by decide +kernel
theorem d111_17 : decode (xmb 111) 17 = .ok (.lreturn, 1) := by decide +kernel
theorem d112_0 : decode (xmb 112) 0 = .ok (.aload_n 0, 1) := by decide +kernel
theorem d112_1 : decode (xmb 112) 1 = .ok (.iload_n 1, 1) := by decide +kernel
theorem d112_2 : decode (xmb 112) 2 = .ok (.iload_n 2, 1) := by decide +kernel
theorem d112_3 : decode (xmb 112) 3 = .ok (.invokevirtual 41, 3) := by decide +kernel
theorem d112_6 : decode (xmb 112) 6 = .ok (.i2l, 1) := by decide +kernel
theorem d112_7 : decode (xmb 112) 7 = .ok (.lreturn, 1) := by decide +kernel
theorem d112_8 : decode (xmb 112) 8 = .ok (.astore_n 3, 1) := by decide +kernel
theorem d112_9 : decode (xmb 112) 9 = .ok (.ldc2_w 36, 3) := by decide +kernel
theorem d112_12 : decode (xmb 112) 12 = .ok (.lreturn, 1) := by decide +kernel
theorem d112_13 : decode (xmb 112) 13 = .ok (.astore_n 3, 1) := by decide +kernel
theorem d112_14 : decode (xmb 112) 14 = .ok (.ldc2_w 17, 3) := by decide +kernel
theorem d112_17 : decode (xmb 112) 17 = .ok (.lreturn, 1) := by decide +kernel
theorem d113_0 : decode (xmb 113) 0 = .ok (.aload_n 0, 1) := by decide +kernel
theorem d113_1 : decode (xmb 113) 1 = .ok (.iload_n 1, 1) := by decide +kernel
theorem d113_2 : decode (xmb 113) 2 = .ok (.invokevirtual 44, 3) := by decide +kernel
theorem d113_5 : decode (xmb 113) 5 = .ok (.i2l, 1) := by decide +kernel
theorem d113_6 : decode (xmb 113) 6 = .ok (.lreturn, 1) := by decide +kernel
theorem d113_7 : decode (xmb 113) 7 = .ok (.astore_n 2, 1) := by decide +kernel
theorem d113_8 : decode (xmb 113) 8 = .ok (.ldc2_w 36, 3) := by decide +kernel
theorem d113_11 : decode (xmb 113) 11 = .ok (.lreturn, 1) := by decide +kernel
theorem d114_0 : decode (xmb 114) 0 = .ok (.aload_n 0, 1) := by decide +kernel
theorem d114_1 : decode (xmb 114) 1 = .ok (.iload_n 1, 1) := by decide +kernel
theorem d114_2 : decode (xmb 114) 2 = .ok (.invokevirtual 47, 3) := by decide +kernel
theorem d114_5 : decode (xmb 114) 5 = .ok (.i2l, 1) := by decide +kernel
theorem d114_6 : decode (xmb 114) 6 = .ok (.lreturn, 1) := by decide +kernel
theorem d114_7 : decode (xmb 114) 7 = .ok (.astore_n 2, 1) := by decide +kernel
theorem d114_8 : decode (xmb 114) 8 = .ok (.ldc2_w 36, 3) := by decide +kernel
theorem d114_11 : decode (xmb 114) 11 = .ok (.lreturn, 1) := by decide +kernel
theorem d115_0 : decode (xmb 115) 0 = .ok (.aload_n 0, 1) := by decide +kernel
theorem d115_1 : decode (xmb 115) 1 = .ok (.iload_n 1, 1) := by decide +kernel
theorem d115_2 : decode (xmb 115) 2 = .ok (.invokevirtual 50, 3) := by decide +kernel
theorem d115_5 : decode (xmb 115) 5 = .ok (.i2l, 1) := by decide +kernel
theorem d115_6 : decode (xmb 115) 6 = .ok (.lreturn, 1) := by decide +kernel
theorem d115_7 : decode (xmb 115) 7 = .ok (.astore_n 2, 1) := by decide +kernel
theorem d115_8 : decode (xmb 115) 8 = .ok (.ldc2_w 17, 3) := by decide +kernel
theorem d115_11 : decode (xmb 115) 11 = .ok (.lreturn, 1) := by decide +kernel
theorem d116_0 : decode (xmb 116) 0 = .ok (.aload_n 0, 1) := by decide +kernel
theorem d116_1 : decode (xmb 116) 1 = .ok (.iload_n 1, 1) := by decide +kernel
theorem d116_2 : decode (xmb 116) 2 = .ok (.iload_n 2, 1) := by decide +kernel
theorem d116_3 : decode (xmb 116) 3 = .ok (.invokevirtual 53, 3) := by decide +kernel
theorem d116_6 : decode (xmb 116) 6 = .ok (.i2l, 1) := by decide +kernel
theorem d116_7 : decode (xmb 116) 7 = .ok (.lreturn, 1) := by decide +kernel
theorem d116_8 : decode (xmb 116) 8 = .ok (.astore_n 3, 1) := by decide +kernel
theorem d116_9 : decode (xmb 116) 9 = .ok (.ldc2_w 17, 3) := by decide +kernel
theorem d116_12 : decode (xmb 116) 12 = .ok (.lreturn, 1) := by decide +kernel
theorem d117_0 : decode (xmb 117) 0 = .ok (.aload_n 0, 1) := by decide +kernel
theorem d117_1 : decode (xmb 117) 1 = .ok (.iload_n 1, 1) := by decide +kernel
theorem d117_2 : decode (xmb 117) 2 = .ok (.invokevirtual 56, 3) := by decide +kernel
theorem d117_5 : decode (xmb 117) 5 = .ok (.i2l, 1) := by decide +kernel
theorem d117_6 : decode (xmb 117) 6 = .ok (.lreturn, 1) := by decide +kernel
theorem d117_7 : decode (xmb 117) 7 = .ok (.astore_n 2, 1) := by decide +kernel
theorem d117_8 : decode (xmb 117) 8 = .ok (.ldc2_w 17, 3) := by decide +kernel
theorem d117_11 : decode (xmb 117) 11 = .ok (.lreturn, 1) := by decide +kernel
theorem d117_12 : decode (xmb 117) 12 = .ok (.astore_n 2, 1) := by decide +kernel
theorem d117_13 : decode (xmb 117) 13 = .ok (.ldc2_w 21, 3) := by decide +kernel
theorem d117_16 : decode (xmb 117) 16 = .ok (.lreturn, 1) := by decide +kernel
theorem d118_0 : decode (xmb 118) 0 = .ok (.aload_n 0, 1) := by decide +kernel
theorem d118_1 : decode (xmb 118) 1 = .ok (.iload_n 1, 1) := by decide +kernel
theorem d118_2 : decode (xmb 118) 2 = .ok (.iload_n 2, 1) := by decide +kernel
theorem d118_3 : decode (xmb 118) 3 = .ok (.invokevirtual 59, 3) := by decide +kernel
theorem d118_6 : decode (xmb 118) 6 = .ok (.i2l, 1) := by decide +kernel
theorem d118_7 : decode (xmb 118) 7 = .ok (.lreturn, 1) := by decide +kernel
theorem d118_8 : decode (xmb 118) 8 = .ok (.astore_n 3, 1) := by decide +kernel
theorem d118_9 : decode (xmb 118) 9 = .ok (.ldc2_w 36, 3) := by decide +kernel
theorem d118_12 : decode (xmb 118) 12 = .ok (.lreturn, 1) := by decide +kernel
theorem d118_13 : decode (xmb 118) 13 = .ok (.astore_n 3, 1) := by decide +kernel
theorem d118_14 : decode (xmb 118) 14 = .ok (.ldc2_w 17, 3) := by decide +kernel
theorem d118_17 : decode (xmb 118) 17 = .ok (.lreturn, 1) := by decide +kernel
theorem d119_0 : decode (xmb 119) 0 = .ok (.aload_n 0, 1) := by decide +kernel
theorem d119_1 : decode (xmb 119) 1 = .ok (.iload_n 1, 1) := by decide +kernel
theorem d119_2 : decode (xmb 119) 2 = .ok (.iload_n 2, 1) := by decide +kernel
theorem d119_3 : decode (xmb 119) 3 = .ok (.invokevirtual 62, 3) := by decide +kernel
theorem d119_6 : decode (xmb 119) 6 = .ok (.i2l, 1) := by decide +kernel
theorem d119_7 : decode (xmb 119) 7 = .ok (.lreturn, 1) := by decide +kernel
theorem d119_8 : decode (xmb 119) 8 = .ok (.astore_n 3, 1) := by decide +kernel
theorem d119_9 : decode (xmb 119) 9 = .ok (.ldc2_w 17, 3) := by decide +kernel
theorem d119_12 : decode (xmb 119) 12 = .ok (.lreturn, 1) := by decide +kernel
theorem d120_0 : decode (xmb 120) 0 = .ok (.aload_n 0, 1) := by decide +kernel
theorem d120_1 : decode (xmb 120) 1 = .ok (.iload_n 1, 1) := by decide +kernel
theorem d120_2 : decode (xmb 120) 2 = .ok (.iload_n 2, 1) := by decide +kernel
theorem d120_3 : decode (xmb 120) 3 = .ok (.iload_n 3, 1) := by decide +kernel
theorem d120_4 : decode (xmb 120) 4 = .ok (.invokevirtual 65, 3) := by decide +kernel
theorem d120_7 : decode (xmb 120) 7 = .ok (.i2l, 1) := by decide +kernel
theorem d120_8 : decode (xmb 120) 8 = .ok (.lreturn, 1) := by decide +kernel
theorem d120_9 : decode (xmb 120) 9 = .ok (.astore 4, 2) := by decide +kernel
theorem d120_11 : decode (xmb 120) 11 = .ok (.ldc2_w 17, 3) := by decide +kernel
theorem d120_14 : decode (xmb 120) 14 = .ok (.lreturn, 1) := by decide +kernel
theorem d120_15 : decode (xmb 120) 15 = .ok (.astore 4, 2) := by decide +kernel
theorem d120_17 : decode (xmb 120) 17 = .ok (.ldc2_w 21, 3) := by decide +kernel
theorem d120_20 : decode (xmb 120) 20 = .ok (.lreturn, 1) := by decide +kernel
theorem d121_0 : decode (xmb 121) 0 = .ok (.aload_n 0, 1) := by decide +kernel
theorem d121_1 : decode (xmb 121) 1 = .ok (.iload_n 1, 1) := by decide +kernel
theorem d121_2 : decode (xmb 121) 2 = .ok (.iload_n 2, 1) := by decide +kernel
theorem d121_3 : decode (xmb 121) 3 = .ok (.invokevirtual 69, 3) := by decide +kernel
theorem d121_6 : decode (xmb 121) 6 = .ok (.i2l, 1) := by decide +kernel
theorem d121_7 : decode (xmb 121) 7 = .ok (.lreturn, 1) := by decide +kernel
theorem d121_8 : decode (xmb 121) 8 = .ok (.astore_n 3, 1) := by decide +kernel
theorem d121_9 : decode (xmb 121) 9 = .ok (.ldc2_w 36, 3) := by decide +kernel
theorem d121_12 : decode (xmb 121) 12 = .ok (.lreturn, 1) := by decide +kernel
theorem d121_13 : decode (xmb 121) 13 = .ok (.astore_n 3, 1) := by decide +kernel
theorem d121_14 : decode (xmb 121) 14 = .ok (.ldc2_w 17, 3) := by decide +kernel
theorem d121_17 : decode (xmb 121) 17 = .ok (.lreturn, 1) := by decide +kernel
theorem d122_0 : decode (xmb 122) 0 = .ok (.aload_n 0, 1) := by decide +kernel
theorem d122_1 : decode (xmb 122) 1 = .ok (.iload_n 1, 1) := by decide +kernel
theorem d122_2 : decode (xmb 122) 2 = .ok (.iload_n 2, 1) := by decide +kernel
theorem d122_3 : decode (xmb 122) 3 = .ok (.iload_n 3, 1) := by decide +kernel
theorem d122_4 : decode (xmb 122) 4 = .ok (.invokevirtual 72, 3) := by decide +kernel
theorem d122_7 : decode (xmb 122) 7 = .ok (.i2l, 1) := by decide +kernel
theorem d122_8 : decode (xmb 122) 8 = .ok (.lreturn, 1) := by decide +kernel
theorem d122_9 : decode (xmb 122) 9 = .ok (.astore 4, 2) := by decide +kernel
theorem d122_11 : decode (xmb 122) 11 = .ok (.ldc2_w 36, 3) := by decide +kernel
theorem d122_14 : decode (xmb 122) 14 = .ok (.lreturn, 1) := by decide +kernel
theorem d123_0 : decode (xmb 123) 0 = .ok (.aload_n 0, 1) := by decide +kernel
theorem d123_1 : decode (xmb 123) 1 = .ok (.iload_n 1, 1) := by decide +kernel
theorem d123_2 : decode (xmb 123) 2 = .ok (.iload_n 2, 1) := by decide +kernel
theorem d123_3 : decode (xmb 123) 3 = .ok (.iload_n 3, 1) := by decide +kernel
theorem d123_4 : decode (xmb 123) 4 = .ok (.invokevirtual 75, 3) := by decide +kernel
theorem d123_7 : decode (xmb 123) 7 = .ok (.i2l, 1) := by decide +kernel
theorem d123_8 : decode (xmb 123) 8 = .ok (.lreturn, 1) := by decide +kernel
theorem d123_9 : decode (xmb 123) 9 = .ok (.astore 4, 2) := by decide +kernel
theorem d123_11 : decode (xmb 123) 11 = .ok (.ldc2_w 36, 3) := by decide +kernel
theorem d123_14 : decode (xmb 123) 14 = .ok (.lreturn, 1) := by decide +kernel
theorem d123_15 : decode (xmb 123) 15 = .ok (.astore 4, 2) := by decide +kernel
theorem d123_17 : decode (xmb 123) 17 = .ok (.ldc2_w 21, 3) := by decide +kernel
theorem d123_20 : decode (xmb 123) 20 = .ok (.lreturn, 1) := by decide +kernel
theorem d124_0 : decode (xmb 124) 0 = .ok (.aload_n 0, 1) := by decide +kernel
theorem d124_1 : decode (xmb 124) 1 = .ok (.iload_n 1, 1) := by decide +kernel
theorem d124_2 : decode (xmb 124) 2 = .ok (.iload_n 2, 1) := by decide +kernel
theorem d124_3 : decode (xmb 124) 3 = .ok (.invokevirtual 78, 3) := by decide +kernel
theorem d124_6 : decode (xmb 124) 6 = .ok (.i2l, 1) := by decide +kernel
theorem d124_7 : decode (xmb 124) 7 = .ok (.lreturn, 1) := by decide +kernel
theorem d124_8 : decode (xmb 124) 8 = .ok (.astore_n 3, 1) := by decide +kernel
theorem d124_9 : decode (xmb 124) 9 = .ok (.ldc2_w 36, 3) := by decide +kernel
theorem d124_12 : decode (xmb 124) 12 = .ok (.lreturn, 1) := by decide +kernel
theorem d124_13 : decode (xmb 124) 13 = .ok (.astore_n 3, 1) := by decide +kernel
theorem d124_14 : decode (xmb 124) 14 = .ok (.ldc2_w 17, 3) := by decide +kernel
theorem d124_17 : decode (xmb 124) 17 = .ok (.lreturn, 1) := by decide +kernel
theorem d125_0 : decode (xmb 125) 0 = .ok (.aload_n 0, 1) := by decide +kernel
theorem d125_1 : decode (xmb 125) 1 = .ok (.iload_n 1, 1) := by decide +kernel
theorem d125_2 : decode (xmb 125) 2 = .ok (.iload_n 2, 1) := by decide +kernel
theorem d125_3 : decode (xmb 125) 3 = .ok (.invokevirtual 81, 3) := by decide +kernel
theorem d125_6 : decode (xmb 125) 6 = .ok (.i2l, 1) := by decide +kernel
theorem d125_7 : decode (xmb 125) 7 = .ok (.lreturn, 1) := by decide +kernel
theorem d125_8 : decode (xmb 125) 8 = .ok (.astore_n 3, 1) := by decide +kernel
theorem d125_9 : decode (xmb 125) 9 = .ok (.ldc2_w 17, 3) := by decide +kernel
theorem d125_12 : decode (xmb 125) 12 = .ok (.lreturn, 1) := by decide +kernel
theorem d126_0 : decode (xmb 126) 0 = .ok (.aload_n 0, 1) := by decide +kernel
theorem d126_1 : decode (xmb 126) 1 = .ok (.invokevirtual 84, 3) := by decide +kernel
theorem d126_4 : decode (xmb 126) 4 = .ok (.i2l, 1) := by decide +kernel
theorem d126_5 : decode (xmb 126) 5 = .ok (.lreturn, 1) := by decide +kernel
theorem d126_6 : decode (xmb 126) 6 = .ok (.astore_n 1, 1) := by decide +kernel
theorem d126_7 : decode (xmb 126) 7 = .ok (.ldc2_w 21, 3) := by decide +kernel
theorem d126_10 : decode (xmb 126) 10 = .ok (.lreturn, 1) := by decide +kernel
theorem d127_0 : decode (xmb 127) 0 = .ok (.aload_n 0, 1) := by decide +kernel
theorem d127_1 : decode (xmb 127) 1 = .ok (.iload_n 1, 1) := by decide +kernel
theorem d127_2 : decode (xmb 127) 2 = .ok (.iload_n 2, 1) := by decide +kernel
theorem d127_3 : decode (xmb 127) 3 = .ok (.invokevirtual 87, 3) := by decide +kernel
theorem d127_6 : decode (xmb 127) 6 = .ok (.i2l, 1) := by decide +kernel
theorem d127_7 : decode (xmb 127) 7 = .ok (.lreturn, 1) := by decide +kernel
theorem d127_8 : decode (xmb 127) 8 = .ok (.astore_n 3, 1) := by decide +kernel
theorem d127_9 : decode (xmb 127) 9 = .ok (.ldc2_w 36, 3) := by decide +kernel
theorem d127_12 : decode (xmb 127) 12 = .ok (.lreturn, 1) := by decide +kernel
theorem d127_13 : decode (xmb 127) 13 = .ok (.astore_n 3, 1) := by decide +kernel
theorem d127_14 : decode (xmb 127) 14 = .ok (.ldc2_w 17, 3) := by decide +kernel
theorem d127_17 : decode (xmb 127) 17 = .ok (.lreturn, 1) := by decide +kernel
theorem d128_0 : decode (xmb 128) 0 = .ok (.aload_n 0, 1) := by decide +kernel
theorem d128_1 : decode (xmb 128) 1 = .ok (.iload_n 1, 1) := by decide +kernel
theorem d128_2 : decode (xmb 128) 2 = .ok (.iload_n 2, 1) := by decide +kernel
theorem d128_3 : decode (xmb 128) 3 = .ok (.invokevirtual 90, 3) := by decide +kernel
theorem d128_6 : decode (xmb 128) 6 = .ok (.i2l, 1) := by decide +kernel
theorem d128_7 : decode (xmb 128) 7 = .ok (.lreturn, 1) := by decide +kernel
theorem d128_8 : decode (xmb 128) 8 = .ok (.astore_n 3, 1) := by decide +kernel
theorem d128_9 : decode (xmb 128) 9 = .ok (.ldc2_w 17, 3) := by decide +kernel
theorem d128_12 : decode (xmb 128) 12 = .ok (.lreturn, 1) := by decide +kernel
theorem d129_0 : decode (xmb 129) 0 = .ok (.aload_n 0, 1) := by decide +kernel
theorem d129_1 : decode (xmb 129) 1 = .ok (.iload_n 1, 1) := by decide +kernel
theorem d129_2 : decode (xmb 129) 2 = .ok (.invokevirtual 93, 3) := by decide +kernel
theorem d129_5 : decode (xmb 129) 5 = .ok (.i2l, 1) := by decide +kernel
theorem d129_6 : decode (xmb 129) 6 = .ok (.lreturn, 1) := by decide +kernel
theorem d129_7 : decode (xmb 129) 7 = .ok (.astore_n 2, 1) := by decide +kernel
theorem d129_8 : decode (xmb 129) 8 = .ok (.ldc2_w 36, 3) := by decide +kernel
theorem d129_11 : decode (xmb 129) 11 = .ok (.lreturn, 1) := by decide +kernel
theorem d130_0 : decode (xmb 130) 0 = .ok (.aload_n 0, 1) := by decide +kernel
theorem d130_1 : decode (xmb 130) 1 = .ok (.iload_n 1, 1) := by decide +kernel
theorem d130_2 : decode (xmb 130) 2 = .ok (.iload_n 2, 1) := by decide +kernel
theorem d130_3 : decode (xmb 130) 3 = .ok (.invokevirtual 96, 3) := by decide +kernel
theorem d130_6 : decode (xmb 130) 6 = .ok (.i2l, 1) := by decide +kernel
theorem d130_7 : decode (xmb 130) 7 = .ok (.lreturn, 1) := by decide +kernel
theorem d130_8 : decode (xmb 130) 8 = .ok (.astore_n 3, 1) := by decide +kernel
theorem d130_9 : decode (xmb 130) 9 = .ok (.ldc2_w 17, 3) := by decide +kernel
theorem d130_12 : decode (xmb 130) 12 = .ok (.lreturn, 1) := by decide +kernel
theorem d131_0 : decode (xmb 131) 0 = .ok (.aload_n 0, 1) := by decide +kernel
theorem d131_1 : decode (xmb 131) 1 = .ok (.iload_n 1, 1) := by decide +kernel
theorem d131_2 : decode (xmb 131) 2 = .ok (.lload_n 2, 1) := by decide +kernel
theorem d131_3 : decode (xmb 131) 3 = .ok (.invokevirtual 99, 3) := by decide +kernel
theorem d131_6 : decode (xmb 131) 6 = .ok (.i2l, 1) := by decide +kernel
theorem d131_7 : decode (xmb 131) 7 = .ok (.lreturn, 1) := by decide +kernel
theorem d131_8 : decode (xmb 131) 8 = .ok (.astore 4, 2) := by decide +kernel
theorem d131_10 : decode (xmb 131) 10 = .ok (.ldc2_w 17, 3) := by decide +kernel
theorem d131_13 : decode (xmb 131) 13 = .ok (.lreturn, 1) := by decide +kernel
theorem d132_0 : decode (xmb 132) 0 = .ok (.aload_n 0, 1) := by decide +kernel
theorem d132_1 : decode (xmb 132) 1 = .ok (.lload_n 1, 1) := by decide +kernel
theorem d132_2 : decode (xmb 132) 2 = .ok (.iload_n 3, 1) := by decide +kernel
theorem d132_3 : decode (xmb 132) 3 = .ok (.invokevirtual 103, 3) := by decide +kernel
theorem d132_6 : decode (xmb 132) 6 = .ok (.i2l, 1) := by decide +kernel
theorem d132_7 : decode (xmb 132) 7 = .ok (.lreturn, 1) := by decide +kernel
theorem d132_8 : decode (xmb 132) 8 = .ok (.astore 4, 2) := by decide +kernel
theorem d132_10 : decode (xmb 132) 10 = .ok (.ldc2_w 17, 3) := by decide +kernel
theorem d132_13 : decode (xmb 132) 13 = .ok (.lreturn, 1) := by decide +kernel
theorem d133_0 : decode (xmb 133) 0 = .ok (.aload_n 0, 1) := by decide +kernel
theorem d133_1 : decode (xmb 133) 1 = .ok (.iload_n 1, 1) := by decide +kernel
theorem d133_2 : decode (xmb 133) 2 = .ok (.invokevirtual 107, 3) := by decide +kernel
theorem d133_5 : decode (xmb 133) 5 = .ok (.i2l, 1) := by decide +kernel
theorem d133_6 : decode (xmb 133) 6 = .ok (.lreturn, 1) := by decide +kernel
theorem d133_7 : decode (xmb 133) 7 = .ok (.astore_n 2, 1) := by decide +kernel
theorem d133_8 : decode (xmb 133) 8 = .ok (.ldc2_w 36, 3) := by decide +kernel
theorem d133_11 : decode (xmb 133) 11 = .ok (.lreturn, 1) := by decide +kernel
theorem d134_0 : decode (xmb 134) 0 = .ok (.aload_n 0, 1) := by decide +kernel
theorem d134_1 : decode (xmb 134) 1 = .ok (.iload_n 1, 1) := by decide +kernel
theorem d134_2 : decode (xmb 134) 2 = .ok (.invokevirtual 110, 3) := by decide +kernel
theorem d134_5 : decode (xmb 134) 5 = .ok (.i2l, 1) := by decide +kernel
theorem d134_6 : decode (xmb 134) 6 = .ok (.lreturn, 1) := by decide +kernel
theorem d134_7 : decode (xmb 134) 7 = .ok (.astore_n 2, 1) := by decide +kernel
theorem d134_8 : decode (xmb 134) 8 = .ok (.ldc2_w 36, 3) := by decide +kernel
theorem d134_11 : decode (xmb 134) 11 = .ok (.lreturn, 1) := by decide +kernel
theorem d134_12 : decode (xmb 134) 12 = .ok (.astore_n 2, 1) := by decide +kernel
theorem d134_13 : decode (xmb 134) 13 = .ok (.ldc2_w 21, 3) := by decide +kernel
theorem d134_16 : decode (xmb 134) 16 = .ok (.lreturn, 1) := by decide +kernel
theorem d135_0 : decode (xmb 135) 0 = .ok (.ldc2_w 113, 3) := by decide +kernel
theorem d135_3 : decode (xmb 135) 3 = .ok (.lstore_n 1, 1) := by decide +kernel
theorem d135_4 : decode (xmb 135) 4 = .ok (.iconst 0, 1) := by decide +kernel
theorem d135_5 : decode (xmb 135) 5 = .ok (.istore_n 3, 1) := by decide +kernel
theorem d135_6 : decode (xmb 135) 6 = .ok (.iload_n 3, 1) := by decide +kernel
theorem d135_7 : decode (xmb 135) 7 = .ok (.bipush 10, 2) := by decide +kernel
theorem d135_9 : decode (xmb 135) 9 = .ok (.if_icmp .ge 21, 3) := by decide +kernel
theorem d135_12 : decode (xmb 135) 12 = .ok (.ldc2_w 115, 3) := by decide +kernel
theorem d135_15 : decode (xmb 135) 15 = .ok (.lload_n 1, 1) := by decide +kernel
theorem d135_16 : decode (xmb 135) 16 = .ok (.lmul, 1) := by decide +kernel
theorem d135_17 : decode (xmb 135) 17 = .ok (.aload_n 0, 1) := by decide +kernel
theorem d135_18 : decode (xmb 135) 18 = .ok (.iload_n 3, 1) := by decide +kernel
theorem d135_19 : decode (xmb 135) 19 = .ok (.invokestatic 117, 3) := by decide +kernel
theorem d135_22 : decode (xmb 135) 22 = .ok (.ladd, 1) := by decide +kernel
theorem d135_23 : decode (xmb 135) 23 = .ok (.lstore_n 1, 1) := by decide +kernel
theorem d135_24 : decode (xmb 135) 24 = .ok (.iinc 3 1, 3) := by decide +kernel
theorem d135_27 : decode (xmb 135) 27 = .ok (.goto (-21), 3) := by decide +kernel
theorem d135_30 : decode (xmb 135) 30 = .ok (.iconst 0, 1) := by decide +kernel
theorem d135_31 : decode (xmb 135) 31 = .ok (.istore_n 3, 1) := by decide +kernel
theorem d135_32 : decode (xmb 135) 32 = .ok (.iload_n 3, 1) := by decide +kernel
theorem d135_33 : decode (xmb 135) 33 = .ok (.iconst 5, 1) := by decide +kernel
theorem d135_34 : decode (xmb 135) 34 = .ok (.if_icmp .ge 40, 3) := by decide +kernel
theorem d135_37 : decode (xmb 135) 37 = .ok (.ldc2_w 115, 3) := by decide +kernel
theorem d135_40 : decode (xmb 135) 40 = .ok (.lload_n 1, 1) := by decide +kernel
theorem d135_41 : decode (xmb 135) 41 = .ok (.lmul, 1) := by decide +kernel
theorem d135_42 : decode (xmb 135) 42 = .ok (.aload_n 0, 1) := by decide +kernel
theorem d135_43 : decode (xmb 135) 43 = .ok (.iload_n 3, 1) := by decide +kernel
theorem d135_44 : decode (xmb 135) 44 = .ok (.invokestatic 122, 3) := by decide +kernel
theorem d135_47 : decode (xmb 135) 47 = .ok (.ladd, 1) := by decide +kernel
theorem d135_48 : decode (xmb 135) 48 = .ok (.iload_n 3, 1) := by decide +kernel
theorem d135_49 : decode (xmb 135) 49 = .ok (.iconst 4, 1) := by decide +kernel
theorem d135_50 : decode (xmb 135) 50 = .ok (.if_icmp .ge 15, 3) := by decide +kernel
theorem d135_53 : decode (xmb 135) 53 = .ok (.ldc2_w 124, 3) := by decide +kernel
theorem d135_56 : decode (xmb 135) 56 = .ok (.aload_n 0, 1) := by decide +kernel
theorem d135_57 : decode (xmb 135) 57 = .ok (.iload_n 3, 1) := by decide +kernel
theorem d135_58 : decode (xmb 135) 58 = .ok (.invokestatic 126, 3) := by decide +kernel
theorem d135_61 : decode (xmb 135) 61 = .ok (.lmul, 1) := by decide +kernel
theorem d135_62 : decode (xmb 135) 62 = .ok (.goto 4, 3) := by decide +kernel
theorem d135_65 : decode (xmb 135) 65 = .ok (.lconst 0, 1) := by decide +kernel
theorem d135_66 : decode (xmb 135) 66 = .ok (.ladd, 1) := by decide +kernel
theorem d135_67 : decode (xmb 135) 67 = .ok (.lstore_n 1, 1) := by decide +kernel
theorem d135_68 : decode (xmb 135) 68 = .ok (.iinc 3 1, 3) := by decide +kernel
theorem d135_71 : decode (xmb 135) 71 = .ok (.goto (-39), 3) := by decide +kernel
theorem d135_74 : decode (xmb 135) 74 = .ok (.iconst 0, 1) := by decide +kernel
theorem d135_75 : decode (xmb 135) 75 = .ok (.istore_n 3, 1) := by decide +kernel
theorem d135_76 : decode (xmb 135) 76 = .ok (.iload_n 3, 1) := by decide +kernel
theorem d135_77 : decode (xmb 135) 77 = .ok (.i2l, 1) := by decide +kernel
theorem d135_78 : decode (xmb 135) 78 = .ok (.aload_n 0, 1) := by decide +kernel
theorem d135_79 : decode (xmb 135) 79 = .ok (.iconst 0, 1) := by decide +kernel
theorem d135_80 : decode (xmb 135) 80 = .ok (.invokestatic 117, 3) := by decide +kernel
theorem d135_83 : decode (xmb 135) 83 = .ok (.lcmp, 1) := by decide +kernel
theorem d135_84 : decode (xmb 135) 84 = .ok (.ifCond .ge 22, 3) := by decide +kernel
theorem d135_87 : decode (xmb 135) 87 = .ok (.ldc2_w 115, 3) := by decide +kernel
theorem d135_90 : decode (xmb 135) 90 = .ok (.lload_n 1, 1) := by decide +kernel
theorem d135_91 : decode (xmb 135) 91 = .ok (.lmul, 1) := by decide +kernel
theorem d135_92 : decode (xmb 135) 92 = .ok (.aload_n 0, 1) := by decide +kernel
theorem d135_93 : decode (xmb 135) 93 = .ok (.iload_n 3, 1) := by decide +kernel
theorem d135_94 : decode (xmb 135) 94 = .ok (.iconst 0, 1) := by decide +kernel
theorem d135_95 : decode (xmb 135) 95 = .ok (.invokestatic 128, 3) := by decide +kernel
theorem d135_98 : decode (xmb 135) 98 = .ok (.ladd, 1) := by decide +kernel
theorem d135_99 : decode (xmb 135) 99 = .ok (.lstore_n 1, 1) := by decide +kernel
theorem d135_100 : decode (xmb 135) 100 = .ok (.iinc 3 1, 3) := by decide +kernel
theorem d135_103 : decode (xmb 135) 103 = .ok (.goto (-27), 3) := by decide +kernel
theorem d135_106 : decode (xmb 135) 106 = .ok (.iconst 0, 1) := by decide +kernel
theorem d135_107 : decode (xmb 135) 107 = .ok (.istore_n 3, 1) := by decide +kernel
theorem d135_108 : decode (xmb 135) 108 = .ok (.iload_n 3, 1) := by decide +kernel
theorem d135_109 : decode (xmb 135) 109 = .ok (.i2l, 1) := by decide +kernel
theorem d135_110 : decode (xmb 135) 110 = .ok (.aload_n 0, 1) := by decide +kernel
theorem d135_111 : decode (xmb 135) 111 = .ok (.iconst 1, 1) := by decide +kernel
theorem d135_112 : decode (xmb 135) 112 = .ok (.invokestatic 117, 3) := by decide +kernel
theorem d135_115 : decode (xmb 135) 115 = .ok (.lcmp, 1) := by decide +kernel
theorem d135_116 : decode (xmb 135) 116 = .ok (.ifCond .ge 38, 3) := by decide +kernel
theorem d135_119 : decode (xmb 135) 119 = .ok (.iconst 0, 1) := by decide +kernel
theorem d135_120 : decode (xmb 135) 120 = .ok (.istore 4, 2) := by decide +kernel
theorem d135_122 : decode (xmb 135) 122 = .ok (.iload 4, 2) := by decide +kernel
theorem d135_124 : decode (xmb 135) 124 = .ok (.iconst 5, 1) := by decide +kernel
theorem d135_125 : decode (xmb 135) 125 = .ok (.if_icmp .ge 23, 3) := by decide +kernel
theorem d135_128 : decode (xmb 135) 128 = .ok (.ldc2_w 115, 3) := by decide +kernel
theorem d135_131 : decode (xmb 135) 131 = .ok (.lload_n 1, 1) := by decide +kernel
theorem d135_132 : decode (xmb 135) 132 = .ok (.lmul, 1) := by decide +kernel
theorem d135_133 : decode (xmb 135) 133 = .ok (.aload_n 0, 1) := by decide +kernel
theorem d135_134 : decode (xmb 135) 134 = .ok (.iload_n 3, 1) := by decide +kernel
theorem d135_135 : decode (xmb 135) 135 = .ok (.iload 4, 2) := by decide +kernel
theorem d135_137 : decode (xmb 135) 137 = .ok (.invokestatic 131, 3) := by decide +kernel
theorem d135_140 : decode (xmb 135) 140 = .ok (.ladd, 1) := by decide +kernel
theorem d135_141 : decode (xmb 135) 141 = .ok (.lstore_n 1, 1) := by decide +kernel
theorem d135_142 : decode (xmb 135) 142 = .ok (.iinc 4 1, 3) := by decide +kernel
theorem d135_145 : decode (xmb 135) 145 = .ok (.goto (-23), 3) := by decide +kernel
theorem d135_148 : decode (xmb 135) 148 = .ok (.iinc 3 1, 3) := by decide +kernel
theorem d135_151 : decode (xmb 135) 151 = .ok (.goto (-43), 3) := by decide +kernel
theorem d135_154 : decode (xmb 135) 154 = .ok (.lload_n 1, 1) := by decide +kernel
theorem d135_155 : decode (xmb 135) 155 = .ok (.lreturn, 1) := by decide +kernel
theorem d140_0 : decode (xmb 140) 0 = .ok (.aload_n 0, 1) := by decide +kernel
theorem d140_1 : decode (xmb 140) 1 = .ok (.iload_n 1, 1) := by decide +kernel
theorem d140_2 : decode (xmb 140) 2 = .ok (.invokestatic 183, 3) := by decide +kernel
theorem d140_5 : decode (xmb 140) 5 = .ok (.lconst 0, 1) := by decide +kernel
theorem d140_6 : decode (xmb 140) 6 = .ok (.lcmp, 1) := by decide +kernel
theorem d140_7 : decode (xmb 140) 7 = .ok (.ifCond .le 38, 3) := by decide +kernel
theorem d140_10 : decode (xmb 140) 10 = .ok (.aload_n 0, 1) := by decide +kernel
theorem d140_11 : decode (xmb 140) 11 = .ok (.iload_n 2, 1) := by decide +kernel
theorem d140_12 : decode (xmb 140) 12 = .ok (.invokestatic 183, 3) := by decide +kernel
theorem d140_15 : decode (xmb 140) 15 = .ok (.lconst 0, 1) := by decide +kernel
theorem d140_16 : decode (xmb 140) 16 = .ok (.lcmp, 1) := by decide +kernel
theorem d140_17 : decode (xmb 140) 17 = .ok (.ifCond .le 28, 3) := by decide +kernel
theorem d140_20 : decode (xmb 140) 20 = .ok (.aload_n 0, 1) := by decide +kernel
theorem d140_21 : decode (xmb 140) 21 = .ok (.iload_n 3, 1) := by decide +kernel
theorem d140_22 : decode (xmb 140) 22 = .ok (.invokestatic 183, 3) := by decide +kernel
theorem d140_25 : decode (xmb 140) 25 = .ok (.lconst 0, 1) := by decide +kernel
theorem d140_26 : decode (xmb 140) 26 = .ok (.lcmp, 1) := by decide +kernel
theorem d140_27 : decode (xmb 140) 27 = .ok (.ifCond .le 18, 3) := by decide +kernel
theorem d140_30 : decode (xmb 140) 30 = .ok (.aload_n 0, 1) := by decide +kernel
theorem d140_31 : decode (xmb 140) 31 = .ok (.iload 4, 2) := by decide +kernel
theorem d140_33 : decode (xmb 140) 33 = .ok (.invokestatic 183, 3) := by decide +kernel
theorem d140_36 : decode (xmb 140) 36 = .ok (.lconst 0, 1) := by decide +kernel
theorem d140_37 : decode (xmb 140) 37 = .ok (.lcmp, 1) := by decide +kernel
theorem d140_38 : decode (xmb 140) 38 = .ok (.ifCond .le 7, 3) := by decide +kernel
theorem d140_41 : decode (xmb 140) 41 = .ok (.iconst 1, 1) := by decide +kernel
theorem d140_42 : decode (xmb 140) 42 = .ok (.goto 4, 3) := by decide +kernel
theorem d140_45 : decode (xmb 140) 45 = .ok (.iconst 0, 1) := by decide +kernel
theorem d140_46 : decode (xmb 140) 46 = .ok (.ireturn, 1) := by decide +kernel
theorem d142_0 : decode (xmb 142) 0 = .ok (.iload_n 2, 1) := by decide +kernel
theorem d142_1 : decode (xmb 142) 1 = .ok (.bipush 32, 2) := by decide +kernel
theorem d142_3 : decode (xmb 142) 3 = .ok (.idiv, 1) := by decide +kernel
theorem d142_4 : decode (xmb 142) 4 = .ok (.istore_n 3, 1) := by decide +kernel
theorem d142_5 : decode (xmb 142) 5 = .ok (.iload_n 1, 1) := by decide +kernel
theorem d142_6 : decode (xmb 142) 6 = .ok (.bipush 24, 2) := by decide +kernel
theorem d142_8 : decode (xmb 142) 8 = .ok (.irem, 1) := by decide +kernel
theorem d142_9 : decode (xmb 142) 9 = .ok (.tableswitch 278 0 22 #[107, 107, 119, 119, 119, 119, 148, 165, 165, 192, 192, 192, 192, 192, 219, 219, 230, 230, 230, 242, 257, 273, 273], 107) := by decide +kernel
theorem d142_116 : decode (xmb 142) 116 = .ok (.aload_n 0, 1) := by decide +kernel
theorem d142_117 : decode (xmb 142) 117 = .ok (.iconst 1, 1) := by decide +kernel
theorem d142_118 : decode (xmb 142) 118 = .ok (.iload_n 2, 1) := by decide +kernel
theorem d142_119 : decode (xmb 142) 119 = .ok (.sipush 6000, 3) := by decide +kernel
theorem d142_122 : decode (xmb 142) 122 = .ok (.irem, 1) := by decide +kernel
theorem d142_123 : decode (xmb 142) 123 = .ok (.iadd, 1) := by decide +kernel
theorem d142_124 : decode (xmb 142) 124 = .ok (.invokestatic 152, 3) := by decide +kernel
theorem d142_127 : decode (xmb 142) 127 = .ok (.lreturn, 1) := by decide +kernel
theorem d142_128 : decode (xmb 142) 128 = .ok (.aload_n 0, 1) := by decide +kernel
theorem d142_129 : decode (xmb 142) 129 = .ok (.iconst 1, 1) := by decide +kernel
theorem d142_130 : decode (xmb 142) 130 = .ok (.iload_n 2, 1) := by decide +kernel
theorem d142_131 : decode (xmb 142) 131 = .ok (.bipush 30, 2) := by decide +kernel
theorem d142_133 : decode (xmb 142) 133 = .ok (.irem, 1) := by decide +kernel
theorem d142_134 : decode (xmb 142) 134 = .ok (.iadd, 1) := by decide +kernel
theorem d142_135 : decode (xmb 142) 135 = .ok (.iload_n 3, 1) := by decide +kernel
theorem d142_136 : decode (xmb 142) 136 = .ok (.iconst 5, 1) := by decide +kernel
theorem d142_137 : decode (xmb 142) 137 = .ok (.irem, 1) := by decide +kernel
theorem d142_138 : decode (xmb 142) 138 = .ok (.iconst 1, 1) := by decide +kernel
theorem d142_139 : decode (xmb 142) 139 = .ok (.isub, 1) := by decide +kernel
theorem d142_140 : decode (xmb 142) 140 = .ok (.iload_n 3, 1) := by decide +kernel
theorem d142_141 : decode (xmb 142) 141 = .ok (.iconst 5, 1) := by decide +kernel
theorem d142_142 : decode (xmb 142) 142 = .ok (.idiv, 1) := by decide +kernel
theorem d142_143 : decode (xmb 142) 143 = .ok (.iconst 2, 1) := by decide +kernel
theorem d142_144 : decode (xmb 142) 144 = .ok (.irem, 1) := by decide +kernel
theorem d142_145 : decode (xmb 142) 145 = .ok (.ifCond .ne 7, 3) := by decide +kernel
theorem d142_148 : decode (xmb 142) 148 = .ok (.iconst 1, 1) := by decide +kernel
theorem d142_149 : decode (xmb 142) 149 = .ok (.goto 4, 3) := by decide +kernel
theorem d142_152 : decode (xmb 142) 152 = .ok (.iconst 0, 1) := by decide +kernel
theorem d142_153 : decode (xmb 142) 153 = .ok (.invokestatic 156, 3) := by decide +kernel
theorem d142_156 : decode (xmb 142) 156 = .ok (.lreturn, 1) := by decide +kernel
theorem d142_157 : decode (xmb 142) 157 = .ok (.aload_n 0, 1) := by decide +kernel
theorem d142_158 : decode (xmb 142) 158 = .ok (.iconst 1, 1) := by decide +kernel
theorem d142_159 : decode (xmb 142) 159 = .ok (.iload_n 2, 1) := by decide +kernel
theorem d142_160 : decode (xmb 142) 160 = .ok (.bipush 24, 2) := by decide +kernel
theorem d142_162 : decode (xmb 142) 162 = .ok (.irem, 1) := by decide +kernel
theorem d142_163 : decode (xmb 142) 163 = .ok (.iadd, 1) := by decide +kernel
theorem d142_164 : decode (xmb 142) 164 = .ok (.iconst 1, 1) := by decide +kernel
theorem d142_165 : decode (xmb 142) 165 = .ok (.iload_n 3, 1) := by decide +kernel
theorem d142_166 : decode (xmb 142) 166 = .ok (.bipush 24, 2) := by decide +kernel
theorem d142_168 : decode (xmb 142) 168 = .ok (.irem, 1) := by decide +kernel
theorem d142_169 : decode (xmb 142) 169 = .ok (.iadd, 1) := by decide +kernel
theorem d142_170 : decode (xmb 142) 170 = .ok (.invokestatic 154, 3) := by decide +kernel
theorem d142_173 : decode (xmb 142) 173 = .ok (.lreturn, 1) := by decide +kernel
theorem d142_174 : decode (xmb 142) 174 = .ok (.aload_n 0, 1) := by decide +kernel
theorem d142_175 : decode (xmb 142) 175 = .ok (.iload_n 2, 1) := by decide +kernel
theorem d142_176 : decode (xmb 142) 176 = .ok (.bipush 14, 2) := by decide +kernel
theorem d142_178 : decode (xmb 142) 178 = .ok (.irem, 1) := by decide +kernel
theorem d142_179 : decode (xmb 142) 179 = .ok (.iload_n 3, 1) := by decide +kernel
theorem d142_180 : decode (xmb 142) 180 = .ok (.bipush 12, 2) := by decide +kernel
theorem d142_182 : decode (xmb 142) 182 = .ok (.irem, 1) := by decide +kernel
theorem d142_183 : decode (xmb 142) 183 = .ok (.iload_n 3, 1) := by decide +kernel
theorem d142_184 : decode (xmb 142) 184 = .ok (.bipush 12, 2) := by decide +kernel
theorem d142_186 : decode (xmb 142) 186 = .ok (.idiv, 1) := by decide +kernel
theorem d142_187 : decode (xmb 142) 187 = .ok (.iconst 4, 1) := by decide +kernel
theorem d142_188 : decode (xmb 142) 188 = .ok (.irem, 1) := by decide +kernel
theorem d142_189 : decode (xmb 142) 189 = .ok (.ifCond .le 7, 3) := by decide +kernel
theorem d142_192 : decode (xmb 142) 192 = .ok (.iconst 1, 1) := by decide +kernel
theorem d142_193 : decode (xmb 142) 193 = .ok (.goto 4, 3) := by decide +kernel
theorem d142_196 : decode (xmb 142) 196 = .ok (.iconst 0, 1) := by decide +kernel
theorem d142_197 : decode (xmb 142) 197 = .ok (.invokestatic 146, 3) := by decide +kernel
theorem d142_200 : decode (xmb 142) 200 = .ok (.lreturn, 1) := by decide +kernel
theorem d142_201 : decode (xmb 142) 201 = .ok (.aload_n 0, 1) := by decide +kernel
theorem d142_202 : decode (xmb 142) 202 = .ok (.iload_n 2, 1) := by decide +kernel
theorem d142_203 : decode (xmb 142) 203 = .ok (.bipush 14, 2) := by decide +kernel
theorem d142_205 : decode (xmb 142) 205 = .ok (.irem, 1) := by decide +kernel
theorem d142_206 : decode (xmb 142) 206 = .ok (.iload_n 3, 1) := by decide +kernel
theorem d142_207 : decode (xmb 142) 207 = .ok (.bipush 14, 2) := by decide +kernel
theorem d142_209 : decode (xmb 142) 209 = .ok (.irem, 1) := by decide +kernel
theorem d142_210 : decode (xmb 142) 210 = .ok (.iload_n 3, 1) := by decide +kernel
theorem d142_211 : decode (xmb 142) 211 = .ok (.bipush 14, 2) := by decide +kernel
theorem d142_213 : decode (xmb 142) 213 = .ok (.idiv, 1) := by decide +kernel
theorem d142_214 : decode (xmb 142) 214 = .ok (.iconst 4, 1) := by decide +kernel
theorem d142_215 : decode (xmb 142) 215 = .ok (.irem, 1) := by decide +kernel
theorem d142_216 : decode (xmb 142) 216 = .ok (.ifCond .le 7, 3) := by decide +kernel
theorem d142_219 : decode (xmb 142) 219 = .ok (.iconst 1, 1) := by decide +kernel
theorem d142_220 : decode (xmb 142) 220 = .ok (.goto 4, 3) := by decide +kernel
theorem d142_223 : decode (xmb 142) 223 = .ok (.iconst 0, 1) := by decide +kernel
theorem d142_224 : decode (xmb 142) 224 = .ok (.invokestatic 143, 3) := by decide +kernel
theorem d142_227 : decode (xmb 142) 227 = .ok (.lreturn, 1) := by decide +kernel
theorem d142_228 : decode (xmb 142) 228 = .ok (.aload_n 0, 1) := by decide +kernel
theorem d142_229 : decode (xmb 142) 229 = .ok (.iload_n 2, 1) := by decide +kernel
theorem d142_230 : decode (xmb 142) 230 = .ok (.iconst 4, 1) := by decide +kernel
theorem d142_231 : decode (xmb 142) 231 = .ok (.irem, 1) := by decide +kernel
theorem d142_232 : decode (xmb 142) 232 = .ok (.iload_n 3, 1) := by decide +kernel
theorem d142_233 : decode (xmb 142) 233 = .ok (.iconst 4, 1) := by decide +kernel
theorem d142_234 : decode (xmb 142) 234 = .ok (.irem, 1) := by decide +kernel
theorem d142_235 : decode (xmb 142) 235 = .ok (.invokestatic 158, 3) := by decide +kernel
theorem d142_238 : decode (xmb 142) 238 = .ok (.lreturn, 1) := by decide +kernel
theorem d142_239 : decode (xmb 142) 239 = .ok (.aload_n 0, 1) := by decide +kernel
theorem d142_240 : decode (xmb 142) 240 = .ok (.iload_n 2, 1) := by decide +kernel
theorem d142_241 : decode (xmb 142) 241 = .ok (.iconst 5, 1) := by decide +kernel
theorem d142_242 : decode (xmb 142) 242 = .ok (.irem, 1) := by decide +kernel
theorem d142_243 : decode (xmb 142) 243 = .ok (.iload_n 3, 1) := by decide +kernel
theorem d142_244 : decode (xmb 142) 244 = .ok (.bipush 16, 2) := by decide +kernel
theorem d142_246 : decode (xmb 142) 246 = .ok (.irem, 1) := by decide +kernel
theorem d142_247 : decode (xmb 142) 247 = .ok (.invokestatic 160, 3) := by decide +kernel
theorem d142_250 : decode (xmb 142) 250 = .ok (.lreturn, 1) := by decide +kernel
theorem d142_251 : decode (xmb 142) 251 = .ok (.aload_n 0, 1) := by decide +kernel
theorem d142_252 : decode (xmb 142) 252 = .ok (.iload_n 2, 1) := by decide +kernel
theorem d142_253 : decode (xmb 142) 253 = .ok (.bipush 14, 2) := by decide +kernel
theorem d142_255 : decode (xmb 142) 255 = .ok (.irem, 1) := by decide +kernel
theorem d142_256 : decode (xmb 142) 256 = .ok (.iconst 1, 1) := by decide +kernel
theorem d142_257 : decode (xmb 142) 257 = .ok (.iload_n 3, 1) := by decide +kernel
theorem d142_258 : decode (xmb 142) 258 = .ok (.bipush 90, 2) := by decide +kernel
theorem d142_260 : decode (xmb 142) 260 = .ok (.irem, 1) := by decide +kernel
theorem d142_261 : decode (xmb 142) 261 = .ok (.iadd, 1) := by decide +kernel
theorem d142_262 : decode (xmb 142) 262 = .ok (.invokestatic 141, 3) := by decide +kernel
theorem d142_265 : decode (xmb 142) 265 = .ok (.lreturn, 1) := by decide +kernel
theorem d142_266 : decode (xmb 142) 266 = .ok (.aload_n 0, 1) := by decide +kernel
theorem d142_267 : decode (xmb 142) 267 = .ok (.iload_n 2, 1) := by decide +kernel
theorem d142_268 : decode (xmb 142) 268 = .ok (.bipush 12, 2) := by decide +kernel
theorem d142_270 : decode (xmb 142) 270 = .ok (.irem, 1) := by decide +kernel
theorem d142_271 : decode (xmb 142) 271 = .ok (.iconst 1, 1) := by decide +kernel
theorem d142_272 : decode (xmb 142) 272 = .ok (.iload_n 3, 1) := by decide +kernel
theorem d142_273 : decode (xmb 142) 273 = .ok (.sipush 9000, 3) := by decide +kernel
theorem d142_276 : decode (xmb 142) 276 = .ok (.irem, 1) := by decide +kernel
theorem d142_277 : decode (xmb 142) 277 = .ok (.iadd, 1) := by decide +kernel
theorem d142_278 : decode (xmb 142) 278 = .ok (.invokestatic 139, 3) := by decide +kernel
theorem d142_281 : decode (xmb 142) 281 = .ok (.lreturn, 1) := by decide +kernel
theorem d142_282 : decode (xmb 142) 282 = .ok (.aload_n 0, 1) := by decide +kernel
theorem d142_283 : decode (xmb 142) 283 = .ok (.invokestatic 205, 3) := by decide +kernel
theorem d142_286 : decode (xmb 142) 286 = .ok (.lreturn, 1) := by decide +kernel
theorem d142_287 : decode (xmb 142) 287 = .ok (.iload_n 3, 1) := by decide +kernel
theorem d142_288 : decode (xmb 142) 288 = .ok (.iconst 2, 1) := by decide +kernel
theorem d142_289 : decode (xmb 142) 289 = .ok (.irem, 1) := by decide +kernel
theorem d142_290 : decode (xmb 142) 290 = .ok (.ifCond .ne 15, 3) := by decide +kernel
theorem d142_293 : decode (xmb 142) 293 = .ok (.aload_n 0, 1) := by decide +kernel
theorem d142_294 : decode (xmb 142) 294 = .ok (.iload_n 3, 1) := by decide +kernel
theorem d142_295 : decode (xmb 142) 295 = .ok (.iconst 2, 1) := by decide +kernel
theorem d142_296 : decode (xmb 142) 296 = .ok (.idiv, 1) := by decide +kernel
theorem d142_297 : decode (xmb 142) 297 = .ok (.iconst 1, 1) := by decide +kernel
theorem d142_298 : decode (xmb 142) 298 = .ok (.iand, 1) := by decide +kernel
theorem d142_299 : decode (xmb 142) 299 = .ok (.invokestatic 179, 3) := by decide +kernel
theorem d142_302 : decode (xmb 142) 302 = .ok (.goto 12, 3) := by decide +kernel
theorem d142_305 : decode (xmb 142) 305 = .ok (.aload_n 0, 1) := by decide +kernel
theorem d142_306 : decode (xmb 142) 306 = .ok (.iload_n 3, 1) := by decide +kernel
theorem d142_307 : decode (xmb 142) 307 = .ok (.iconst 2, 1) := by decide +kernel
theorem d142_308 : decode (xmb 142) 308 = .ok (.idiv, 1) := by decide +kernel
theorem d142_309 : decode (xmb 142) 309 = .ok (.iconst 1, 1) := by decide +kernel
theorem d142_310 : decode (xmb 142) 310 = .ok (.iand, 1) := by decide +kernel
theorem d142_311 : decode (xmb 142) 311 = .ok (.invokestatic 181, 3) := by decide +kernel
theorem d142_314 : decode (xmb 142) 314 = .ok (.lreturn, 1) := by decide +kernel
theorem d136_0 : decode (xmb 136) 0 = .ok (.aload_n 0, 1) := by decide +kernel
theorem d136_1 : decode (xmb 136) 1 = .ok (.invokestatic 133, 3) := by decide +kernel
theorem d136_4 : decode (xmb 136) 4 = .ok (.lstore_n 1, 1) := by decide +kernel
theorem d136_5 : decode (xmb 136) 5 = .ok (.aload_n 0, 1) := by decide +kernel
theorem d136_6 : decode (xmb 136) 6 = .ok (.iconst 0, 1) := by decide +kernel
theorem d136_7 : decode (xmb 136) 7 = .ok (.invokestatic 117, 3) := by decide +kernel
theorem d136_10 : decode (xmb 136) 10 = .ok (.l2i, 1) := by decide +kernel
theorem d136_11 : decode (xmb 136) 11 = .ok (.istore_n 3, 1) := by decide +kernel
theorem d136_12 : decode (xmb 136) 12 = .ok (.aload_n 0, 1) := by decide +kernel
theorem d136_13 : decode (xmb 136) 13 = .ok (.iconst 1, 1) := by decide +kernel
theorem d136_14 : decode (xmb 136) 14 = .ok (.invokestatic 117, 3) := by decide +kernel
theorem d136_17 : decode (xmb 136) 17 = .ok (.l2i, 1) := by decide +kernel
theorem d136_18 : decode (xmb 136) 18 = .ok (.istore 4, 2) := by decide +kernel
theorem d136_20 : decode (xmb 136) 20 = .ok (.aload_n 0, 1) := by decide +kernel
theorem d136_21 : decode (xmb 136) 21 = .ok (.iconst (-1), 1) := by decide +kernel
theorem d136_22 : decode (xmb 136) 22 = .ok (.invokestatic 117, 3) := by decide +kernel
theorem d136_25 : decode (xmb 136) 25 = .ok (.ldc2_w 17, 3) := by decide +kernel
theorem d136_28 : decode (xmb 136) 28 = .ok (.lcmp, 1) := by decide +kernel
theorem d136_29 : decode (xmb 136) 29 = .ok (.ifCond .ne 367, 3) := by decide +kernel
theorem d136_32 : decode (xmb 136) 32 = .ok (.aload_n 0, 1) := by decide +kernel
theorem d136_33 : decode (xmb 136) 33 = .ok (.bipush 10, 2) := by decide +kernel
theorem d136_35 : decode (xmb 136) 35 = .ok (.invokestatic 117, 3) := by decide +kernel
theorem d136_38 : decode (xmb 136) 38 = .ok (.ldc2_w 17, 3) := by decide +kernel
theorem d136_41 : decode (xmb 136) 41 = .ok (.lcmp, 1) := by decide +kernel
