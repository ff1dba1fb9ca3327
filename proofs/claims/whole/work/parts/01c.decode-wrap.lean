theorem dL_write_0 : decode cL_write 0 = .ok (.aload_n 3, 1) := by decide +kernel
theorem dL_write_1 : decode cL_write 1 = .ok (.iconst 0, 1) := by decide +kernel
theorem dL_write_2 : decode cL_write 2 = .ok (.aload_n 0, 1) := by decide +kernel
theorem dL_write_3 : decode cL_write 3 = .ok (.iload_n 1, 1) := by decide +kernel
theorem dL_write_4 : decode cL_write 4 = .ok (.iload_n 2, 1) := by decide +kernel
theorem dL_write_5 : decode cL_write 5 = .ok (.invokevirtual 7, 3) := by decide +kernel
theorem dL_write_8 : decode cL_write 8 = .ok (.i2l, 1) := by decide +kernel
theorem dL_write_9 : decode cL_write 9 = .ok (.lastore, 1) := by decide +kernel
theorem dL_write_10 : decode cL_write 10 = .ok (.goto 11, 3) := by decide +kernel
theorem dL_write_13 : decode cL_write 13 = .ok (.astore 4, 2) := by decide +kernel
theorem dL_write_15 : decode cL_write 15 = .ok (.iconst 1, 1) := by decide +kernel
theorem dL_write_16 : decode cL_write 16 = .ok (.ireturn, 1) := by decide +kernel
theorem dL_write_17 : decode cL_write 17 = .ok (.astore 4, 2) := by decide +kernel
theorem dL_write_19 : decode cL_write 19 = .ok (.iconst 2, 1) := by decide +kernel
theorem dL_write_20 : decode cL_write 20 = .ok (.ireturn, 1) := by decide +kernel
theorem dL_write_21 : decode cL_write 21 = .ok (.iconst 0, 1) := by decide +kernel
theorem dL_write_22 : decode cL_write 22 = .ok (.ireturn, 1) := by decide +kernel
theorem dL_septets_0 : decode cL_septets 0 = .ok (.aload_n 1, 1) := by decide +kernel
theorem dL_septets_1 : decode cL_septets 1 = .ok (.iconst 0, 1) := by decide +kernel
theorem dL_septets_2 : decode cL_septets 2 = .ok (.aload_n 0, 1) := by decide +kernel
theorem dL_septets_3 : decode cL_septets 3 = .ok (.invokevirtual 17, 3) := by decide +kernel
theorem dL_septets_6 : decode cL_septets 6 = .ok (.i2l, 1) := by decide +kernel
theorem dL_septets_7 : decode cL_septets 7 = .ok (.lastore, 1) := by decide +kernel
theorem dL_septets_8 : decode cL_septets 8 = .ok (.goto 6, 3) := by decide +kernel
theorem dL_septets_11 : decode cL_septets 11 = .ok (.astore_n 2, 1) := by decide +kernel
theorem dL_septets_12 : decode cL_septets 12 = .ok (.iconst 1, 1) := by decide +kernel
theorem dL_septets_13 : decode cL_septets 13 = .ok (.ireturn, 1) := by decide +kernel
theorem dL_septets_14 : decode cL_septets 14 = .ok (.iconst 0, 1) := by decide +kernel
theorem dL_septets_15 : decode cL_septets 15 = .ok (.ireturn, 1) := by decide +kernel
theorem dL_signs_0 : decode cL_signs 0 = .ok (.aload_n 2, 1) := by decide +kernel
theorem dL_signs_1 : decode cL_signs 1 = .ok (.iconst 0, 1) := by decide +kernel
theorem dL_signs_2 : decode cL_signs 2 = .ok (.aload_n 0, 1) := by decide +kernel
theorem dL_signs_3 : decode cL_signs 3 = .ok (.iload_n 1, 1) := by decide +kernel
theorem dL_signs_4 : decode cL_signs 4 = .ok (.invokevirtual 21, 3) := by decide +kernel
theorem dL_signs_7 : decode cL_signs 7 = .ok (.i2l, 1) := by decide +kernel
theorem dL_signs_8 : decode cL_signs 8 = .ok (.lastore, 1) := by decide +kernel
theorem dL_signs_9 : decode cL_signs 9 = .ok (.goto 6, 3) := by decide +kernel
theorem dL_signs_12 : decode cL_signs 12 = .ok (.astore_n 3, 1) := by decide +kernel
theorem dL_signs_13 : decode cL_signs 13 = .ok (.iconst 1, 1) := by decide +kernel
theorem dL_signs_14 : decode cL_signs 14 = .ok (.ireturn, 1) := by decide +kernel
theorem dL_signs_15 : decode cL_signs 15 = .ok (.iconst 0, 1) := by decide +kernel
theorem dL_signs_16 : decode cL_signs 16 = .ok (.ireturn, 1) := by decide +kernel
theorem dL_octets_0 : decode cL_octets 0 = .ok (.aload_n 2, 1) := by decide +kernel
theorem dL_octets_1 : decode cL_octets 1 = .ok (.iconst 0, 1) := by decide +kernel
theorem dL_octets_2 : decode cL_octets 2 = .ok (.aload_n 0, 1) := by decide +kernel
theorem dL_octets_3 : decode cL_octets 3 = .ok (.iload_n 1, 1) := by decide +kernel
theorem dL_octets_4 : decode cL_octets 4 = .ok (.invokevirtual 27, 3) := by decide +kernel
theorem dL_octets_7 : decode cL_octets 7 = .ok (.i2l, 1) := by decide +kernel
theorem dL_octets_8 : decode cL_octets 8 = .ok (.lastore, 1) := by decide +kernel
theorem dL_octets_9 : decode cL_octets 9 = .ok (.goto 6, 3) := by decide +kernel
theorem dL_octets_12 : decode cL_octets 12 = .ok (.astore_n 3, 1) := by decide +kernel
theorem dL_octets_13 : decode cL_octets 13 = .ok (.iconst 1, 1) := by decide +kernel
theorem dL_octets_14 : decode cL_octets 14 = .ok (.ireturn, 1) := by decide +kernel
theorem dL_octets_15 : decode cL_octets 15 = .ok (.iconst 0, 1) := by decide +kernel
theorem dL_octets_16 : decode cL_octets 16 = .ok (.ireturn, 1) := by decide +kernel
theorem dL_octet_0 : decode cL_octet 0 = .ok (.aload_n 3, 1) := by decide +kernel
theorem dL_octet_1 : decode cL_octet 1 = .ok (.iconst 0, 1) := by decide +kernel
theorem dL_octet_2 : decode cL_octet 2 = .ok (.aload_n 0, 1) := by decide +kernel
theorem dL_octet_3 : decode cL_octet 3 = .ok (.iload_n 1, 1) := by decide +kernel
theorem dL_octet_4 : decode cL_octet 4 = .ok (.iload_n 2, 1) := by decide +kernel
theorem dL_octet_5 : decode cL_octet 5 = .ok (.invokevirtual 30, 3) := by decide +kernel
theorem dL_octet_8 : decode cL_octet 8 = .ok (.i2l, 1) := by decide +kernel
theorem dL_octet_9 : decode cL_octet 9 = .ok (.lastore, 1) := by decide +kernel
theorem dL_octet_10 : decode cL_octet 10 = .ok (.goto 7, 3) := by decide +kernel
theorem dL_octet_13 : decode cL_octet 13 = .ok (.astore 4, 2) := by decide +kernel
theorem dL_octet_15 : decode cL_octet 15 = .ok (.iconst 1, 1) := by decide +kernel
theorem dL_octet_16 : decode cL_octet 16 = .ok (.ireturn, 1) := by decide +kernel
theorem dL_octet_17 : decode cL_octet 17 = .ok (.iconst 0, 1) := by decide +kernel
theorem dL_octet_18 : decode cL_octet 18 = .ok (.ireturn, 1) := by decide +kernel
theorem dL_submit_0 : decode cL_submit 0 = .ok (.aload_n 3, 1) := by decide +kernel
theorem dL_submit_1 : decode cL_submit 1 = .ok (.iconst 0, 1) := by decide +kernel
theorem dL_submit_2 : decode cL_submit 2 = .ok (.aload_n 0, 1) := by decide +kernel
theorem dL_submit_3 : decode cL_submit 3 = .ok (.iload_n 1, 1) := by decide +kernel
theorem dL_submit_4 : decode cL_submit 4 = .ok (.iload_n 2, 1) := by decide +kernel
theorem dL_submit_5 : decode cL_submit 5 = .ok (.invokevirtual 33, 3) := by decide +kernel
theorem dL_submit_8 : decode cL_submit 8 = .ok (.i2l, 1) := by decide +kernel
theorem dL_submit_9 : decode cL_submit 9 = .ok (.lastore, 1) := by decide +kernel
theorem dL_submit_10 : decode cL_submit 10 = .ok (.goto 11, 3) := by decide +kernel
theorem dL_submit_13 : decode cL_submit 13 = .ok (.astore 4, 2) := by decide +kernel
theorem dL_submit_15 : decode cL_submit 15 = .ok (.iconst 1, 1) := by decide +kernel
theorem dL_submit_16 : decode cL_submit 16 = .ok (.ireturn, 1) := by decide +kernel
theorem dL_submit_17 : decode cL_submit 17 = .ok (.astore 4, 2) := by decide +kernel
theorem dL_submit_19 : decode cL_submit 19 = .ok (.iconst 2, 1) := by decide +kernel
theorem dL_submit_20 : decode cL_submit 20 = .ok (.ireturn, 1) := by decide +kernel
theorem dL_submit_21 : decode cL_submit 21 = .ok (.iconst 0, 1) := by decide +kernel
theorem dL_submit_22 : decode cL_submit 22 = .ok (.ireturn, 1) := by decide +kernel
theorem dL_state_0 : decode cL_state 0 = .ok (.aload_n 2, 1) := by decide +kernel
theorem dL_state_1 : decode cL_state 1 = .ok (.iconst 0, 1) := by decide +kernel
theorem dL_state_2 : decode cL_state 2 = .ok (.aload_n 0, 1) := by decide +kernel
theorem dL_state_3 : decode cL_state 3 = .ok (.iload_n 1, 1) := by decide +kernel
theorem dL_state_4 : decode cL_state 4 = .ok (.invokevirtual 36, 3) := by decide +kernel
theorem dL_state_7 : decode cL_state 7 = .ok (.i2l, 1) := by decide +kernel
theorem dL_state_8 : decode cL_state 8 = .ok (.lastore, 1) := by decide +kernel
theorem dL_state_9 : decode cL_state 9 = .ok (.goto 6, 3) := by decide +kernel
theorem dL_state_12 : decode cL_state 12 = .ok (.astore_n 3, 1) := by decide +kernel
theorem dL_state_13 : decode cL_state 13 = .ok (.iconst 1, 1) := by decide +kernel
theorem dL_state_14 : decode cL_state 14 = .ok (.ireturn, 1) := by decide +kernel
theorem dL_state_15 : decode cL_state 15 = .ok (.iconst 0, 1) := by decide +kernel
theorem dL_state_16 : decode cL_state 16 = .ok (.ireturn, 1) := by decide +kernel
theorem dL_missing_0 : decode cL_missing 0 = .ok (.aload_n 2, 1) := by decide +kernel
theorem dL_missing_1 : decode cL_missing 1 = .ok (.iconst 0, 1) := by decide +kernel
theorem dL_missing_2 : decode cL_missing 2 = .ok (.aload_n 0, 1) := by decide +kernel
theorem dL_missing_3 : decode cL_missing 3 = .ok (.iload_n 1, 1) := by decide +kernel
theorem dL_missing_4 : decode cL_missing 4 = .ok (.invokevirtual 39, 3) := by decide +kernel
theorem dL_missing_7 : decode cL_missing 7 = .ok (.i2l, 1) := by decide +kernel
theorem dL_missing_8 : decode cL_missing 8 = .ok (.lastore, 1) := by decide +kernel
theorem dL_missing_9 : decode cL_missing 9 = .ok (.goto 6, 3) := by decide +kernel
theorem dL_missing_12 : decode cL_missing 12 = .ok (.astore_n 3, 1) := by decide +kernel
theorem dL_missing_13 : decode cL_missing 13 = .ok (.iconst 1, 1) := by decide +kernel
theorem dL_missing_14 : decode cL_missing 14 = .ok (.ireturn, 1) := by decide +kernel
theorem dL_missing_15 : decode cL_missing 15 = .ok (.iconst 0, 1) := by decide +kernel
theorem dL_missing_16 : decode cL_missing 16 = .ok (.ireturn, 1) := by decide +kernel
theorem dL_joined_0 : decode cL_joined 0 = .ok (.aload_n 3, 1) := by decide +kernel
theorem dL_joined_1 : decode cL_joined 1 = .ok (.iconst 0, 1) := by decide +kernel
theorem dL_joined_2 : decode cL_joined 2 = .ok (.aload_n 0, 1) := by decide +kernel
theorem dL_joined_3 : decode cL_joined 3 = .ok (.iload_n 1, 1) := by decide +kernel
theorem dL_joined_4 : decode cL_joined 4 = .ok (.iload_n 2, 1) := by decide +kernel
theorem dL_joined_5 : decode cL_joined 5 = .ok (.invokevirtual 42, 3) := by decide +kernel
theorem dL_joined_8 : decode cL_joined 8 = .ok (.i2l, 1) := by decide +kernel
theorem dL_joined_9 : decode cL_joined 9 = .ok (.lastore, 1) := by decide +kernel
theorem dL_joined_10 : decode cL_joined 10 = .ok (.goto 7, 3) := by decide +kernel
theorem dL_joined_13 : decode cL_joined 13 = .ok (.astore 4, 2) := by decide +kernel
theorem dL_joined_15 : decode cL_joined 15 = .ok (.iconst 1, 1) := by decide +kernel
theorem dL_joined_16 : decode cL_joined 16 = .ok (.ireturn, 1) := by decide +kernel
theorem dL_joined_17 : decode cL_joined 17 = .ok (.iconst 0, 1) := by decide +kernel
theorem dL_joined_18 : decode cL_joined 18 = .ok (.ireturn, 1) := by decide +kernel
theorem dL_receipt_0 : decode cL_receipt 0 = .ok (.aload_n 2, 1) := by decide +kernel
theorem dL_receipt_1 : decode cL_receipt 1 = .ok (.iconst 0, 1) := by decide +kernel
theorem dL_receipt_2 : decode cL_receipt 2 = .ok (.aload_n 0, 1) := by decide +kernel
theorem dL_receipt_3 : decode cL_receipt 3 = .ok (.iload_n 1, 1) := by decide +kernel
theorem dL_receipt_4 : decode cL_receipt 4 = .ok (.invokevirtual 45, 3) := by decide +kernel
theorem dL_receipt_7 : decode cL_receipt 7 = .ok (.i2l, 1) := by decide +kernel
theorem dL_receipt_8 : decode cL_receipt 8 = .ok (.lastore, 1) := by decide +kernel
theorem dL_receipt_9 : decode cL_receipt 9 = .ok (.goto 6, 3) := by decide +kernel
theorem dL_receipt_12 : decode cL_receipt 12 = .ok (.astore_n 3, 1) := by decide +kernel
theorem dL_receipt_13 : decode cL_receipt 13 = .ok (.iconst 1, 1) := by decide +kernel
theorem dL_receipt_14 : decode cL_receipt 14 = .ok (.ireturn, 1) := by decide +kernel
theorem dL_receipt_15 : decode cL_receipt 15 = .ok (.iconst 0, 1) := by decide +kernel
theorem dL_receipt_16 : decode cL_receipt 16 = .ok (.ireturn, 1) := by decide +kernel
theorem dL_pass_0 : decode cL_pass 0 = .ok (.aload_n 2, 1) := by decide +kernel
theorem dL_pass_1 : decode cL_pass 1 = .ok (.iconst 0, 1) := by decide +kernel
theorem dL_pass_2 : decode cL_pass 2 = .ok (.aload_n 0, 1) := by decide +kernel
theorem dL_pass_3 : decode cL_pass 3 = .ok (.iload_n 1, 1) := by decide +kernel
theorem dL_pass_4 : decode cL_pass 4 = .ok (.invokevirtual 48, 3) := by decide +kernel
theorem dL_pass_7 : decode cL_pass 7 = .ok (.i2l, 1) := by decide +kernel
theorem dL_pass_8 : decode cL_pass 8 = .ok (.lastore, 1) := by decide +kernel
theorem dL_pass_9 : decode cL_pass 9 = .ok (.goto 6, 3) := by decide +kernel
theorem dL_pass_12 : decode cL_pass 12 = .ok (.astore_n 3, 1) := by decide +kernel
theorem dL_pass_13 : decode cL_pass 13 = .ok (.iconst 1, 1) := by decide +kernel
theorem dL_pass_14 : decode cL_pass 14 = .ok (.ireturn, 1) := by decide +kernel
theorem dL_pass_15 : decode cL_pass 15 = .ok (.iconst 0, 1) := by decide +kernel
theorem dL_pass_16 : decode cL_pass 16 = .ok (.ireturn, 1) := by decide +kernel
theorem dL_toggleLink_0 : decode cL_toggleLink 0 = .ok (.aload_n 2, 1) := by decide +kernel
theorem dL_toggleLink_1 : decode cL_toggleLink 1 = .ok (.iconst 0, 1) := by decide +kernel
theorem dL_toggleLink_2 : decode cL_toggleLink 2 = .ok (.aload_n 0, 1) := by decide +kernel
theorem dL_toggleLink_3 : decode cL_toggleLink 3 = .ok (.iload_n 1, 1) := by decide +kernel
theorem dL_toggleLink_4 : decode cL_toggleLink 4 = .ok (.invokevirtual 51, 3) := by decide +kernel
theorem dL_toggleLink_7 : decode cL_toggleLink 7 = .ok (.ifCond .eq 7, 3) := by decide +kernel
theorem dL_toggleLink_10 : decode cL_toggleLink 10 = .ok (.lconst 1, 1) := by decide +kernel
theorem dL_toggleLink_11 : decode cL_toggleLink 11 = .ok (.goto 4, 3) := by decide +kernel
theorem dL_toggleLink_14 : decode cL_toggleLink 14 = .ok (.lconst 0, 1) := by decide +kernel
theorem dL_toggleLink_15 : decode cL_toggleLink 15 = .ok (.lastore, 1) := by decide +kernel
theorem dL_toggleLink_16 : decode cL_toggleLink 16 = .ok (.goto 6, 3) := by decide +kernel
theorem dL_toggleLink_19 : decode cL_toggleLink 19 = .ok (.astore_n 3, 1) := by decide +kernel
theorem dL_toggleLink_20 : decode cL_toggleLink 20 = .ok (.iconst 1, 1) := by decide +kernel
theorem dL_toggleLink_21 : decode cL_toggleLink 21 = .ok (.ireturn, 1) := by decide +kernel
theorem dL_toggleLink_22 : decode cL_toggleLink 22 = .ok (.iconst 0, 1) := by decide +kernel
theorem dL_toggleLink_23 : decode cL_toggleLink 23 = .ok (.ireturn, 1) := by decide +kernel
theorem dL_setWindow_0 : decode cL_setWindow 0 = .ok (.aload_n 3, 1) := by decide +kernel
theorem dL_setWindow_1 : decode cL_setWindow 1 = .ok (.iconst 0, 1) := by decide +kernel
theorem dL_setWindow_2 : decode cL_setWindow 2 = .ok (.aload_n 0, 1) := by decide +kernel
theorem dL_setWindow_3 : decode cL_setWindow 3 = .ok (.iload_n 1, 1) := by decide +kernel
theorem dL_setWindow_4 : decode cL_setWindow 4 = .ok (.iload_n 2, 1) := by decide +kernel
theorem dL_setWindow_5 : decode cL_setWindow 5 = .ok (.invokevirtual 55, 3) := by decide +kernel
theorem dL_setWindow_8 : decode cL_setWindow 8 = .ok (.i2l, 1) := by decide +kernel
theorem dL_setWindow_9 : decode cL_setWindow 9 = .ok (.lastore, 1) := by decide +kernel
theorem dL_setWindow_10 : decode cL_setWindow 10 = .ok (.goto 11, 3) := by decide +kernel
theorem dL_setWindow_13 : decode cL_setWindow 13 = .ok (.astore 4, 2) := by decide +kernel
theorem dL_setWindow_15 : decode cL_setWindow 15 = .ok (.iconst 1, 1) := by decide +kernel
theorem dL_setWindow_16 : decode cL_setWindow 16 = .ok (.ireturn, 1) := by decide +kernel
theorem dL_setWindow_17 : decode cL_setWindow 17 = .ok (.astore 4, 2) := by decide +kernel
theorem dL_setWindow_19 : decode cL_setWindow 19 = .ok (.iconst 2, 1) := by decide +kernel
theorem dL_setWindow_20 : decode cL_setWindow 20 = .ok (.ireturn, 1) := by decide +kernel
theorem dL_setWindow_21 : decode cL_setWindow 21 = .ok (.iconst 0, 1) := by decide +kernel
theorem dL_setWindow_22 : decode cL_setWindow 22 = .ok (.ireturn, 1) := by decide +kernel
theorem dL_queued_0 : decode cL_queued 0 = .ok (.aload_n 2, 1) := by decide +kernel
theorem dL_queued_1 : decode cL_queued 1 = .ok (.iconst 0, 1) := by decide +kernel
theorem dL_queued_2 : decode cL_queued 2 = .ok (.aload_n 0, 1) := by decide +kernel
theorem dL_queued_3 : decode cL_queued 3 = .ok (.iload_n 1, 1) := by decide +kernel
theorem dL_queued_4 : decode cL_queued 4 = .ok (.invokevirtual 58, 3) := by decide +kernel
theorem dL_queued_7 : decode cL_queued 7 = .ok (.i2l, 1) := by decide +kernel
theorem dL_queued_8 : decode cL_queued 8 = .ok (.lastore, 1) := by decide +kernel
theorem dL_queued_9 : decode cL_queued 9 = .ok (.goto 6, 3) := by decide +kernel
theorem dL_queued_12 : decode cL_queued 12 = .ok (.astore_n 3, 1) := by decide +kernel
theorem dL_queued_13 : decode cL_queued 13 = .ok (.iconst 1, 1) := by decide +kernel
theorem dL_queued_14 : decode cL_queued 14 = .ok (.ireturn, 1) := by decide +kernel
theorem dL_queued_15 : decode cL_queued 15 = .ok (.iconst 0, 1) := by decide +kernel
theorem dL_queued_16 : decode cL_queued 16 = .ok (.ireturn, 1) := by decide +kernel
theorem dL_underWay_0 : decode cL_underWay 0 = .ok (.aload_n 2, 1) := by decide +kernel
theorem dL_underWay_1 : decode cL_underWay 1 = .ok (.iconst 0, 1) := by decide +kernel
theorem dL_underWay_2 : decode cL_underWay 2 = .ok (.aload_n 0, 1) := by decide +kernel
theorem dL_underWay_3 : decode cL_underWay 3 = .ok (.iload_n 1, 1) := by decide +kernel
theorem dL_underWay_4 : decode cL_underWay 4 = .ok (.invokevirtual 61, 3) := by decide +kernel
theorem dL_underWay_7 : decode cL_underWay 7 = .ok (.i2l, 1) := by decide +kernel
theorem dL_underWay_8 : decode cL_underWay 8 = .ok (.lastore, 1) := by decide +kernel
theorem dL_underWay_9 : decode cL_underWay 9 = .ok (.goto 6, 3) := by decide +kernel
theorem dL_underWay_12 : decode cL_underWay 12 = .ok (.astore_n 3, 1) := by decide +kernel
theorem dL_underWay_13 : decode cL_underWay 13 = .ok (.iconst 1, 1) := by decide +kernel
theorem dL_underWay_14 : decode cL_underWay 14 = .ok (.ireturn, 1) := by decide +kernel
theorem dL_underWay_15 : decode cL_underWay 15 = .ok (.iconst 0, 1) := by decide +kernel
theorem dL_underWay_16 : decode cL_underWay 16 = .ok (.ireturn, 1) := by decide +kernel
theorem dL_tokens_0 : decode cL_tokens 0 = .ok (.aload_n 2, 1) := by decide +kernel
theorem dL_tokens_1 : decode cL_tokens 1 = .ok (.iconst 0, 1) := by decide +kernel
theorem dL_tokens_2 : decode cL_tokens 2 = .ok (.aload_n 0, 1) := by decide +kernel
theorem dL_tokens_3 : decode cL_tokens 3 = .ok (.iload_n 1, 1) := by decide +kernel
theorem dL_tokens_4 : decode cL_tokens 4 = .ok (.invokevirtual 64, 3) := by decide +kernel
theorem dL_tokens_7 : decode cL_tokens 7 = .ok (.i2l, 1) := by decide +kernel
theorem dL_tokens_8 : decode cL_tokens 8 = .ok (.lastore, 1) := by decide +kernel
theorem dL_tokens_9 : decode cL_tokens 9 = .ok (.goto 6, 3) := by decide +kernel
theorem dL_tokens_12 : decode cL_tokens 12 = .ok (.astore_n 3, 1) := by decide +kernel
theorem dL_tokens_13 : decode cL_tokens 13 = .ok (.iconst 1, 1) := by decide +kernel
theorem dL_tokens_14 : decode cL_tokens 14 = .ok (.ireturn, 1) := by decide +kernel
theorem dL_tokens_15 : decode cL_tokens 15 = .ok (.iconst 0, 1) := by decide +kernel
theorem dL_tokens_16 : decode cL_tokens 16 = .ok (.ireturn, 1) := by decide +kernel
theorem dL_acknowledge_0 : decode cL_acknowledge 0 = .ok (.aload_n 3, 1) := by decide +kernel
theorem dL_acknowledge_1 : decode cL_acknowledge 1 = .ok (.iconst 0, 1) := by decide +kernel
theorem dL_acknowledge_2 : decode cL_acknowledge 2 = .ok (.aload_n 0, 1) := by decide +kernel
theorem dL_acknowledge_3 : decode cL_acknowledge 3 = .ok (.iload_n 1, 1) := by decide +kernel
theorem dL_acknowledge_4 : decode cL_acknowledge 4 = .ok (.iload_n 2, 1) := by decide +kernel
theorem dL_acknowledge_5 : decode cL_acknowledge 5 = .ok (.invokevirtual 67, 3) := by decide +kernel
theorem dL_acknowledge_8 : decode cL_acknowledge 8 = .ok (.i2l, 1) := by decide +kernel
theorem dL_acknowledge_9 : decode cL_acknowledge 9 = .ok (.lastore, 1) := by decide +kernel
theorem dL_acknowledge_10 : decode cL_acknowledge 10 = .ok (.goto 15, 3) := by decide +kernel
theorem dL_acknowledge_13 : decode cL_acknowledge 13 = .ok (.astore 4, 2) := by decide +kernel
theorem dL_acknowledge_15 : decode cL_acknowledge 15 = .ok (.iconst 1, 1) := by decide +kernel
theorem dL_acknowledge_16 : decode cL_acknowledge 16 = .ok (.ireturn, 1) := by decide +kernel
theorem dL_acknowledge_17 : decode cL_acknowledge 17 = .ok (.astore 4, 2) := by decide +kernel
theorem dL_acknowledge_19 : decode cL_acknowledge 19 = .ok (.iconst 2, 1) := by decide +kernel
theorem dL_acknowledge_20 : decode cL_acknowledge 20 = .ok (.ireturn, 1) := by decide +kernel
theorem dL_acknowledge_21 : decode cL_acknowledge 21 = .ok (.astore 4, 2) := by decide +kernel
theorem dL_acknowledge_23 : decode cL_acknowledge 23 = .ok (.iconst 3, 1) := by decide +kernel
theorem dL_acknowledge_24 : decode cL_acknowledge 24 = .ok (.ireturn, 1) := by decide +kernel
theorem dL_acknowledge_25 : decode cL_acknowledge 25 = .ok (.iconst 0, 1) := by decide +kernel
theorem dL_acknowledge_26 : decode cL_acknowledge 26 = .ok (.ireturn, 1) := by decide +kernel
theorem dL_alert_0 : decode cL_alert 0 = .ok (.aload_n 2, 1) := by decide +kernel
theorem dL_alert_1 : decode cL_alert 1 = .ok (.iconst 0, 1) := by decide +kernel
theorem dL_alert_2 : decode cL_alert 2 = .ok (.aload_n 0, 1) := by decide +kernel
theorem dL_alert_3 : decode cL_alert 3 = .ok (.iload_n 1, 1) := by decide +kernel
theorem dL_alert_4 : decode cL_alert 4 = .ok (.invokevirtual 70, 3) := by decide +kernel
theorem dL_alert_7 : decode cL_alert 7 = .ok (.i2l, 1) := by decide +kernel
theorem dL_alert_8 : decode cL_alert 8 = .ok (.lastore, 1) := by decide +kernel
theorem dL_alert_9 : decode cL_alert 9 = .ok (.goto 6, 3) := by decide +kernel
theorem dL_alert_12 : decode cL_alert 12 = .ok (.astore_n 3, 1) := by decide +kernel
theorem dL_alert_13 : decode cL_alert 13 = .ok (.iconst 1, 1) := by decide +kernel
theorem dL_alert_14 : decode cL_alert 14 = .ok (.ireturn, 1) := by decide +kernel
theorem dL_alert_15 : decode cL_alert 15 = .ok (.iconst 0, 1) := by decide +kernel
theorem dL_alert_16 : decode cL_alert 16 = .ok (.ireturn, 1) := by decide +kernel
theorem dL_setKeyword_0 : decode cL_setKeyword 0 = .ok (.aload_n 0, 1) := by decide +kernel
theorem dL_setKeyword_1 : decode cL_setKeyword 1 = .ok (.iload_n 1, 1) := by decide +kernel
theorem dL_setKeyword_2 : decode cL_setKeyword 2 = .ok (.iload_n 2, 1) := by decide +kernel
theorem dL_setKeyword_3 : decode cL_setKeyword 3 = .ok (.invokevirtual 73, 3) := by decide +kernel
theorem dL_setKeyword_6 : decode cL_setKeyword 6 = .ok (.goto 6, 3) := by decide +kernel
theorem dL_setKeyword_9 : decode cL_setKeyword 9 = .ok (.astore_n 3, 1) := by decide +kernel
theorem dL_setKeyword_10 : decode cL_setKeyword 10 = .ok (.iconst 1, 1) := by decide +kernel
theorem dL_setKeyword_11 : decode cL_setKeyword 11 = .ok (.ireturn, 1) := by decide +kernel
theorem dL_setKeyword_12 : decode cL_setKeyword 12 = .ok (.iconst 0, 1) := by decide +kernel
theorem dL_setKeyword_13 : decode cL_setKeyword 13 = .ok (.ireturn, 1) := by decide +kernel
theorem dL_come_0 : decode cL_come 0 = .ok (.aload_n 3, 1) := by decide +kernel
theorem dL_come_1 : decode cL_come 1 = .ok (.iconst 0, 1) := by decide +kernel
theorem dL_come_2 : decode cL_come 2 = .ok (.aload_n 0, 1) := by decide +kernel
theorem dL_come_3 : decode cL_come 3 = .ok (.iload_n 1, 1) := by decide +kernel
theorem dL_come_4 : decode cL_come 4 = .ok (.iload_n 2, 1) := by decide +kernel
theorem dL_come_5 : decode cL_come 5 = .ok (.invokevirtual 77, 3) := by decide +kernel
theorem dL_come_8 : decode cL_come 8 = .ok (.i2l, 1) := by decide +kernel
theorem dL_come_9 : decode cL_come 9 = .ok (.lastore, 1) := by decide +kernel
theorem dL_come_10 : decode cL_come 10 = .ok (.goto 7, 3) := by decide +kernel
theorem dL_come_13 : decode cL_come 13 = .ok (.astore 4, 2) := by decide +kernel
theorem dL_come_15 : decode cL_come 15 = .ok (.iconst 1, 1) := by decide +kernel
theorem dL_come_16 : decode cL_come 16 = .ok (.ireturn, 1) := by decide +kernel
theorem dL_come_17 : decode cL_come 17 = .ok (.iconst 0, 1) := by decide +kernel
theorem dL_come_18 : decode cL_come 18 = .ok (.ireturn, 1) := by decide +kernel
