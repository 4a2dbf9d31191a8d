theorem dX0_init_0 : decode cX0_init 0 = .ok (.aload_n 0, 1) := by decide +kernel
theorem dX0_init_1 : decode cX0_init 1 = .ok (.invokespecial 1, 3) := by decide +kernel
theorem dX0_init_4 : decode cX0_init 4 = .ok (.return_, 1) := by decide +kernel
theorem dX0_begin_0 : decode cX0_begin 0 = .ok (.aload_n 0, 1) := by decide +kernel
theorem dX0_begin_1 : decode cX0_begin 1 = .ok (.iconst 0, 1) := by decide +kernel
theorem dX0_begin_2 : decode cX0_begin 2 = .ok (.putfield 9, 3) := by decide +kernel
theorem dX0_begin_5 : decode cX0_begin 5 = .ok (.return_, 1) := by decide +kernel
theorem dX0_isComplete_0 : decode cX0_isComplete 0 = .ok (.aload_n 0, 1) := by decide +kernel
theorem dX0_isComplete_1 : decode cX0_isComplete 1 = .ok (.getfield 9, 3) := by decide +kernel
theorem dX0_isComplete_4 : decode cX0_isComplete 4 = .ok (.bipush 6, 2) := by decide +kernel
theorem dX0_isComplete_6 : decode cX0_isComplete 6 = .ok (.if_icmp .eq 18, 3) := by decide +kernel
theorem dX0_isComplete_9 : decode cX0_isComplete 9 = .ok (.aload_n 0, 1) := by decide +kernel
theorem dX0_isComplete_10 : decode cX0_isComplete 10 = .ok (.getfield 9, 3) := by decide +kernel
theorem dX0_isComplete_13 : decode cX0_isComplete 13 = .ok (.iconst 4, 1) := by decide +kernel
theorem dX0_isComplete_14 : decode cX0_isComplete 14 = .ok (.if_icmp .ne 14, 3) := by decide +kernel
theorem dX0_isComplete_17 : decode cX0_isComplete 17 = .ok (.aload_n 0, 1) := by decide +kernel
theorem dX0_isComplete_18 : decode cX0_isComplete 18 = .ok (.getfield 25, 3) := by decide +kernel
theorem dX0_isComplete_21 : decode cX0_isComplete 21 = .ok (.ifCond .le 7, 3) := by decide +kernel
theorem dX0_isComplete_24 : decode cX0_isComplete 24 = .ok (.iconst 1, 1) := by decide +kernel
theorem dX0_isComplete_25 : decode cX0_isComplete 25 = .ok (.goto 4, 3) := by decide +kernel
theorem dX0_isComplete_28 : decode cX0_isComplete 28 = .ok (.iconst 0, 1) := by decide +kernel
theorem dX0_isComplete_29 : decode cX0_isComplete 29 = .ok (.ireturn, 1) := by decide +kernel
theorem dX0_accept_0 : decode cX0_accept 0 = .ok (.aload_n 0, 1) := by decide +kernel
theorem dX0_accept_1 : decode cX0_accept 1 = .ok (.getfield 9, 3) := by decide +kernel
theorem dX0_accept_4 : decode cX0_accept 4 = .ok (.tableswitch 76 0 5 #[40, 46, 52, 58, 64, 70], 40) := by decide +kernel
theorem dX0_accept_44 : decode cX0_accept 44 = .ok (.aload_n 0, 1) := by decide +kernel
theorem dX0_accept_45 : decode cX0_accept 45 = .ok (.iload_n 1, 1) := by decide +kernel
theorem dX0_accept_46 : decode cX0_accept 46 = .ok (.invokevirtual 28, 3) := by decide +kernel
theorem dX0_accept_49 : decode cX0_accept 49 = .ok (.ireturn, 1) := by decide +kernel
theorem dX0_accept_50 : decode cX0_accept 50 = .ok (.aload_n 0, 1) := by decide +kernel
theorem dX0_accept_51 : decode cX0_accept 51 = .ok (.iload_n 1, 1) := by decide +kernel
theorem dX0_accept_52 : decode cX0_accept 52 = .ok (.invokevirtual 32, 3) := by decide +kernel
theorem dX0_accept_55 : decode cX0_accept 55 = .ok (.ireturn, 1) := by decide +kernel
theorem dX0_accept_56 : decode cX0_accept 56 = .ok (.aload_n 0, 1) := by decide +kernel
theorem dX0_accept_57 : decode cX0_accept 57 = .ok (.iload_n 1, 1) := by decide +kernel
theorem dX0_accept_58 : decode cX0_accept 58 = .ok (.invokevirtual 35, 3) := by decide +kernel
theorem dX0_accept_61 : decode cX0_accept 61 = .ok (.ireturn, 1) := by decide +kernel
theorem dX0_accept_62 : decode cX0_accept 62 = .ok (.aload_n 0, 1) := by decide +kernel
theorem dX0_accept_63 : decode cX0_accept 63 = .ok (.iload_n 1, 1) := by decide +kernel
theorem dX0_accept_64 : decode cX0_accept 64 = .ok (.invokevirtual 38, 3) := by decide +kernel
theorem dX0_accept_67 : decode cX0_accept 67 = .ok (.ireturn, 1) := by decide +kernel
theorem dX0_accept_68 : decode cX0_accept 68 = .ok (.aload_n 0, 1) := by decide +kernel
theorem dX0_accept_69 : decode cX0_accept 69 = .ok (.iload_n 1, 1) := by decide +kernel
theorem dX0_accept_70 : decode cX0_accept 70 = .ok (.invokevirtual 41, 3) := by decide +kernel
theorem dX0_accept_73 : decode cX0_accept 73 = .ok (.ireturn, 1) := by decide +kernel
theorem dX0_accept_74 : decode cX0_accept 74 = .ok (.aload_n 0, 1) := by decide +kernel
theorem dX0_accept_75 : decode cX0_accept 75 = .ok (.iload_n 1, 1) := by decide +kernel
theorem dX0_accept_76 : decode cX0_accept 76 = .ok (.invokevirtual 44, 3) := by decide +kernel
theorem dX0_accept_79 : decode cX0_accept 79 = .ok (.ireturn, 1) := by decide +kernel
theorem dX0_accept_80 : decode cX0_accept 80 = .ok (.aload_n 0, 1) := by decide +kernel
theorem dX0_accept_81 : decode cX0_accept 81 = .ok (.iload_n 1, 1) := by decide +kernel
theorem dX0_accept_82 : decode cX0_accept 82 = .ok (.invokevirtual 47, 3) := by decide +kernel
theorem dX0_accept_85 : decode cX0_accept 85 = .ok (.ireturn, 1) := by decide +kernel
theorem dX0_acceptLetter_0 : decode cX0_acceptLetter 0 = .ok (.iload_n 1, 1) := by decide +kernel
theorem dX0_acceptLetter_1 : decode cX0_acceptLetter 1 = .ok (.bipush 115, 2) := by decide +kernel
theorem dX0_acceptLetter_3 : decode cX0_acceptLetter 3 = .ok (.if_icmp .eq 29, 3) := by decide +kernel
theorem dX0_acceptLetter_6 : decode cX0_acceptLetter 6 = .ok (.iload_n 1, 1) := by decide +kernel
theorem dX0_acceptLetter_7 : decode cX0_acceptLetter 7 = .ok (.bipush 43, 2) := by decide +kernel
theorem dX0_acceptLetter_9 : decode cX0_acceptLetter 9 = .ok (.if_icmp .eq 23, 3) := by decide +kernel
theorem dX0_acceptLetter_12 : decode cX0_acceptLetter 12 = .ok (.iload_n 1, 1) := by decide +kernel
theorem dX0_acceptLetter_13 : decode cX0_acceptLetter 13 = .ok (.bipush 45, 2) := by decide +kernel
theorem dX0_acceptLetter_15 : decode cX0_acceptLetter 15 = .ok (.if_icmp .eq 17, 3) := by decide +kernel
theorem dX0_acceptLetter_18 : decode cX0_acceptLetter 18 = .ok (.iload_n 1, 1) := by decide +kernel
theorem dX0_acceptLetter_19 : decode cX0_acceptLetter 19 = .ok (.bipush 42, 2) := by decide +kernel
theorem dX0_acceptLetter_21 : decode cX0_acceptLetter 21 = .ok (.if_icmp .eq 11, 3) := by decide +kernel
theorem dX0_acceptLetter_24 : decode cX0_acceptLetter 24 = .ok (.iload_n 1, 1) := by decide +kernel
theorem dX0_acceptLetter_25 : decode cX0_acceptLetter 25 = .ok (.bipush 99, 2) := by decide +kernel
theorem dX0_acceptLetter_27 : decode cX0_acceptLetter 27 = .ok (.if_icmp .eq 5, 3) := by decide +kernel
theorem dX0_acceptLetter_30 : decode cX0_acceptLetter 30 = .ok (.iconst 0, 1) := by decide +kernel
theorem dX0_acceptLetter_31 : decode cX0_acceptLetter 31 = .ok (.ireturn, 1) := by decide +kernel
theorem dX0_acceptLetter_32 : decode cX0_acceptLetter 32 = .ok (.aload_n 0, 1) := by decide +kernel
theorem dX0_acceptLetter_33 : decode cX0_acceptLetter 33 = .ok (.iload_n 1, 1) := by decide +kernel
theorem dX0_acceptLetter_34 : decode cX0_acceptLetter 34 = .ok (.putfield 13, 3) := by decide +kernel
theorem dX0_acceptLetter_37 : decode cX0_acceptLetter 37 = .ok (.aload_n 0, 1) := by decide +kernel
theorem dX0_acceptLetter_38 : decode cX0_acceptLetter 38 = .ok (.iconst 0, 1) := by decide +kernel
theorem dX0_acceptLetter_39 : decode cX0_acceptLetter 39 = .ok (.putfield 19, 3) := by decide +kernel
theorem dX0_acceptLetter_42 : decode cX0_acceptLetter 42 = .ok (.aload_n 0, 1) := by decide +kernel
theorem dX0_acceptLetter_43 : decode cX0_acceptLetter 43 = .ok (.iconst 0, 1) := by decide +kernel
theorem dX0_acceptLetter_44 : decode cX0_acceptLetter 44 = .ok (.putfield 22, 3) := by decide +kernel
theorem dX0_acceptLetter_47 : decode cX0_acceptLetter 47 = .ok (.aload_n 0, 1) := by decide +kernel
theorem dX0_acceptLetter_48 : decode cX0_acceptLetter 48 = .ok (.iconst 0, 1) := by decide +kernel
theorem dX0_acceptLetter_49 : decode cX0_acceptLetter 49 = .ok (.putfield 25, 3) := by decide +kernel
theorem dX0_acceptLetter_52 : decode cX0_acceptLetter 52 = .ok (.aload_n 0, 1) := by decide +kernel
theorem dX0_acceptLetter_53 : decode cX0_acceptLetter 53 = .ok (.iconst 1, 1) := by decide +kernel
theorem dX0_acceptLetter_54 : decode cX0_acceptLetter 54 = .ok (.putfield 9, 3) := by decide +kernel
theorem dX0_acceptLetter_57 : decode cX0_acceptLetter 57 = .ok (.iconst 1, 1) := by decide +kernel
theorem dX0_acceptLetter_58 : decode cX0_acceptLetter 58 = .ok (.ireturn, 1) := by decide +kernel
theorem dX0_acceptPlate_0 : decode cX0_acceptPlate 0 = .ok (.iload_n 1, 1) := by decide +kernel
theorem dX0_acceptPlate_1 : decode cX0_acceptPlate 1 = .ok (.invokestatic 50, 3) := by decide +kernel
theorem dX0_acceptPlate_4 : decode cX0_acceptPlate 4 = .ok (.ifCond .ne 5, 3) := by decide +kernel
theorem dX0_acceptPlate_7 : decode cX0_acceptPlate 7 = .ok (.iconst 0, 1) := by decide +kernel
theorem dX0_acceptPlate_8 : decode cX0_acceptPlate 8 = .ok (.ireturn, 1) := by decide +kernel
theorem dX0_acceptPlate_9 : decode cX0_acceptPlate 9 = .ok (.aload_n 0, 1) := by decide +kernel
theorem dX0_acceptPlate_10 : decode cX0_acceptPlate 10 = .ok (.iload_n 1, 1) := by decide +kernel
theorem dX0_acceptPlate_11 : decode cX0_acceptPlate 11 = .ok (.bipush 48, 2) := by decide +kernel
theorem dX0_acceptPlate_13 : decode cX0_acceptPlate 13 = .ok (.isub, 1) := by decide +kernel
theorem dX0_acceptPlate_14 : decode cX0_acceptPlate 14 = .ok (.putfield 16, 3) := by decide +kernel
theorem dX0_acceptPlate_17 : decode cX0_acceptPlate 17 = .ok (.aload_n 0, 1) := by decide +kernel
theorem dX0_acceptPlate_18 : decode cX0_acceptPlate 18 = .ok (.iconst 2, 1) := by decide +kernel
theorem dX0_acceptPlate_19 : decode cX0_acceptPlate 19 = .ok (.putfield 9, 3) := by decide +kernel
theorem dX0_acceptPlate_22 : decode cX0_acceptPlate 22 = .ok (.iconst 1, 1) := by decide +kernel
theorem dX0_acceptPlate_23 : decode cX0_acceptPlate 23 = .ok (.ireturn, 1) := by decide +kernel
theorem dX0_acceptSignBehindPlate_0 : decode cX0_acceptSignBehindPlate 0 = .ok (.aload_n 0, 1) := by decide +kernel
theorem dX0_acceptSignBehindPlate_1 : decode cX0_acceptSignBehindPlate 1 = .ok (.getfield 13, 3) := by decide +kernel
theorem dX0_acceptSignBehindPlate_4 : decode cX0_acceptSignBehindPlate 4 = .ok (.bipush 115, 2) := by decide +kernel
theorem dX0_acceptSignBehindPlate_6 : decode cX0_acceptSignBehindPlate 6 = .ok (.if_icmp .ne 20, 3) := by decide +kernel
theorem dX0_acceptSignBehindPlate_9 : decode cX0_acceptSignBehindPlate 9 = .ok (.aload_n 0, 1) := by decide +kernel
theorem dX0_acceptSignBehindPlate_10 : decode cX0_acceptSignBehindPlate 10 = .ok (.iconst 3, 1) := by decide +kernel
theorem dX0_acceptSignBehindPlate_11 : decode cX0_acceptSignBehindPlate 11 = .ok (.putfield 9, 3) := by decide +kernel
theorem dX0_acceptSignBehindPlate_14 : decode cX0_acceptSignBehindPlate 14 = .ok (.iload_n 1, 1) := by decide +kernel
theorem dX0_acceptSignBehindPlate_15 : decode cX0_acceptSignBehindPlate 15 = .ok (.bipush 61, 2) := by decide +kernel
theorem dX0_acceptSignBehindPlate_17 : decode cX0_acceptSignBehindPlate 17 = .ok (.if_icmp .ne 7, 3) := by decide +kernel
theorem dX0_acceptSignBehindPlate_20 : decode cX0_acceptSignBehindPlate 20 = .ok (.iconst 1, 1) := by decide +kernel
theorem dX0_acceptSignBehindPlate_21 : decode cX0_acceptSignBehindPlate 21 = .ok (.goto 4, 3) := by decide +kernel
theorem dX0_acceptSignBehindPlate_24 : decode cX0_acceptSignBehindPlate 24 = .ok (.iconst 0, 1) := by decide +kernel
theorem dX0_acceptSignBehindPlate_25 : decode cX0_acceptSignBehindPlate 25 = .ok (.ireturn, 1) := by decide +kernel
theorem dX0_acceptSignBehindPlate_26 : decode cX0_acceptSignBehindPlate 26 = .ok (.aload_n 0, 1) := by decide +kernel
theorem dX0_acceptSignBehindPlate_27 : decode cX0_acceptSignBehindPlate 27 = .ok (.iconst 5, 1) := by decide +kernel
theorem dX0_acceptSignBehindPlate_28 : decode cX0_acceptSignBehindPlate 28 = .ok (.putfield 9, 3) := by decide +kernel
theorem dX0_acceptSignBehindPlate_31 : decode cX0_acceptSignBehindPlate 31 = .ok (.iload_n 1, 1) := by decide +kernel
theorem dX0_acceptSignBehindPlate_32 : decode cX0_acceptSignBehindPlate 32 = .ok (.bipush 44, 2) := by decide +kernel
theorem dX0_acceptSignBehindPlate_34 : decode cX0_acceptSignBehindPlate 34 = .ok (.if_icmp .ne 7, 3) := by decide +kernel
theorem dX0_acceptSignBehindPlate_37 : decode cX0_acceptSignBehindPlate 37 = .ok (.iconst 1, 1) := by decide +kernel
theorem dX0_acceptSignBehindPlate_38 : decode cX0_acceptSignBehindPlate 38 = .ok (.goto 4, 3) := by decide +kernel
theorem dX0_acceptSignBehindPlate_41 : decode cX0_acceptSignBehindPlate 41 = .ok (.iconst 0, 1) := by decide +kernel
theorem dX0_acceptSignBehindPlate_42 : decode cX0_acceptSignBehindPlate 42 = .ok (.ireturn, 1) := by decide +kernel
theorem dX0_acceptFirstNumber_0 : decode cX0_acceptFirstNumber 0 = .ok (.aload_n 0, 1) := by decide +kernel
theorem dX0_acceptFirstNumber_1 : decode cX0_acceptFirstNumber 1 = .ok (.aload_n 0, 1) := by decide +kernel
theorem dX0_acceptFirstNumber_2 : decode cX0_acceptFirstNumber 2 = .ok (.getfield 19, 3) := by decide +kernel
theorem dX0_acceptFirstNumber_5 : decode cX0_acceptFirstNumber 5 = .ok (.iload_n 1, 1) := by decide +kernel
theorem dX0_acceptFirstNumber_6 : decode cX0_acceptFirstNumber 6 = .ok (.invokevirtual 53, 3) := by decide +kernel
theorem dX0_acceptFirstNumber_9 : decode cX0_acceptFirstNumber 9 = .ok (.ifCond .eq 31, 3) := by decide +kernel
theorem dX0_acceptFirstNumber_12 : decode cX0_acceptFirstNumber 12 = .ok (.aload_n 0, 1) := by decide +kernel
theorem dX0_acceptFirstNumber_13 : decode cX0_acceptFirstNumber 13 = .ok (.aload_n 0, 1) := by decide +kernel
theorem dX0_acceptFirstNumber_14 : decode cX0_acceptFirstNumber 14 = .ok (.getfield 19, 3) := by decide +kernel
theorem dX0_acceptFirstNumber_17 : decode cX0_acceptFirstNumber 17 = .ok (.bipush 10, 2) := by decide +kernel
theorem dX0_acceptFirstNumber_19 : decode cX0_acceptFirstNumber 19 = .ok (.imul, 1) := by decide +kernel
theorem dX0_acceptFirstNumber_20 : decode cX0_acceptFirstNumber 20 = .ok (.iload_n 1, 1) := by decide +kernel
theorem dX0_acceptFirstNumber_21 : decode cX0_acceptFirstNumber 21 = .ok (.bipush 48, 2) := by decide +kernel
theorem dX0_acceptFirstNumber_23 : decode cX0_acceptFirstNumber 23 = .ok (.isub, 1) := by decide +kernel
theorem dX0_acceptFirstNumber_24 : decode cX0_acceptFirstNumber 24 = .ok (.iadd, 1) := by decide +kernel
theorem dX0_acceptFirstNumber_25 : decode cX0_acceptFirstNumber 25 = .ok (.putfield 19, 3) := by decide +kernel
theorem dX0_acceptFirstNumber_28 : decode cX0_acceptFirstNumber 28 = .ok (.aload_n 0, 1) := by decide +kernel
theorem dX0_acceptFirstNumber_29 : decode cX0_acceptFirstNumber 29 = .ok (.dup, 1) := by decide +kernel
theorem dX0_acceptFirstNumber_30 : decode cX0_acceptFirstNumber 30 = .ok (.getfield 25, 3) := by decide +kernel
theorem dX0_acceptFirstNumber_33 : decode cX0_acceptFirstNumber 33 = .ok (.iconst 1, 1) := by decide +kernel
theorem dX0_acceptFirstNumber_34 : decode cX0_acceptFirstNumber 34 = .ok (.iadd, 1) := by decide +kernel
theorem dX0_acceptFirstNumber_35 : decode cX0_acceptFirstNumber 35 = .ok (.putfield 25, 3) := by decide +kernel
theorem dX0_acceptFirstNumber_38 : decode cX0_acceptFirstNumber 38 = .ok (.iconst 1, 1) := by decide +kernel
theorem dX0_acceptFirstNumber_39 : decode cX0_acceptFirstNumber 39 = .ok (.ireturn, 1) := by decide +kernel
theorem dX0_acceptFirstNumber_40 : decode cX0_acceptFirstNumber 40 = .ok (.iload_n 1, 1) := by decide +kernel
theorem dX0_acceptFirstNumber_41 : decode cX0_acceptFirstNumber 41 = .ok (.bipush 47, 2) := by decide +kernel
theorem dX0_acceptFirstNumber_43 : decode cX0_acceptFirstNumber 43 = .ok (.if_icmp .ne 10, 3) := by decide +kernel
theorem dX0_acceptFirstNumber_46 : decode cX0_acceptFirstNumber 46 = .ok (.aload_n 0, 1) := by decide +kernel
theorem dX0_acceptFirstNumber_47 : decode cX0_acceptFirstNumber 47 = .ok (.getfield 25, 3) := by decide +kernel
theorem dX0_acceptFirstNumber_50 : decode cX0_acceptFirstNumber 50 = .ok (.ifCond .ne 5, 3) := by decide +kernel
theorem dX0_acceptFirstNumber_53 : decode cX0_acceptFirstNumber 53 = .ok (.iconst 0, 1) := by decide +kernel
theorem dX0_acceptFirstNumber_54 : decode cX0_acceptFirstNumber 54 = .ok (.ireturn, 1) := by decide +kernel
theorem dX0_acceptFirstNumber_55 : decode cX0_acceptFirstNumber 55 = .ok (.aload_n 0, 1) := by decide +kernel
theorem dX0_acceptFirstNumber_56 : decode cX0_acceptFirstNumber 56 = .ok (.iconst 0, 1) := by decide +kernel
theorem dX0_acceptFirstNumber_57 : decode cX0_acceptFirstNumber 57 = .ok (.putfield 25, 3) := by decide +kernel
theorem dX0_acceptFirstNumber_60 : decode cX0_acceptFirstNumber 60 = .ok (.aload_n 0, 1) := by decide +kernel
theorem dX0_acceptFirstNumber_61 : decode cX0_acceptFirstNumber 61 = .ok (.iconst 4, 1) := by decide +kernel
theorem dX0_acceptFirstNumber_62 : decode cX0_acceptFirstNumber 62 = .ok (.putfield 9, 3) := by decide +kernel
theorem dX0_acceptFirstNumber_65 : decode cX0_acceptFirstNumber 65 = .ok (.iconst 1, 1) := by decide +kernel
theorem dX0_acceptFirstNumber_66 : decode cX0_acceptFirstNumber 66 = .ok (.ireturn, 1) := by decide +kernel
theorem dX0_acceptSecondNumber_0 : decode cX0_acceptSecondNumber 0 = .ok (.aload_n 0, 1) := by decide +kernel
theorem dX0_acceptSecondNumber_1 : decode cX0_acceptSecondNumber 1 = .ok (.aload_n 0, 1) := by decide +kernel
theorem dX0_acceptSecondNumber_2 : decode cX0_acceptSecondNumber 2 = .ok (.getfield 22, 3) := by decide +kernel
theorem dX0_acceptSecondNumber_5 : decode cX0_acceptSecondNumber 5 = .ok (.iload_n 1, 1) := by decide +kernel
theorem dX0_acceptSecondNumber_6 : decode cX0_acceptSecondNumber 6 = .ok (.invokevirtual 53, 3) := by decide +kernel
theorem dX0_acceptSecondNumber_9 : decode cX0_acceptSecondNumber 9 = .ok (.ifCond .eq 31, 3) := by decide +kernel
theorem dX0_acceptSecondNumber_12 : decode cX0_acceptSecondNumber 12 = .ok (.aload_n 0, 1) := by decide +kernel
theorem dX0_acceptSecondNumber_13 : decode cX0_acceptSecondNumber 13 = .ok (.aload_n 0, 1) := by decide +kernel
theorem dX0_acceptSecondNumber_14 : decode cX0_acceptSecondNumber 14 = .ok (.getfield 22, 3) := by decide +kernel
theorem dX0_acceptSecondNumber_17 : decode cX0_acceptSecondNumber 17 = .ok (.bipush 10, 2) := by decide +kernel
theorem dX0_acceptSecondNumber_19 : decode cX0_acceptSecondNumber 19 = .ok (.imul, 1) := by decide +kernel
theorem dX0_acceptSecondNumber_20 : decode cX0_acceptSecondNumber 20 = .ok (.iload_n 1, 1) := by decide +kernel
theorem dX0_acceptSecondNumber_21 : decode cX0_acceptSecondNumber 21 = .ok (.bipush 48, 2) := by decide +kernel
theorem dX0_acceptSecondNumber_23 : decode cX0_acceptSecondNumber 23 = .ok (.isub, 1) := by decide +kernel
theorem dX0_acceptSecondNumber_24 : decode cX0_acceptSecondNumber 24 = .ok (.iadd, 1) := by decide +kernel
theorem dX0_acceptSecondNumber_25 : decode cX0_acceptSecondNumber 25 = .ok (.putfield 22, 3) := by decide +kernel
theorem dX0_acceptSecondNumber_28 : decode cX0_acceptSecondNumber 28 = .ok (.aload_n 0, 1) := by decide +kernel
theorem dX0_acceptSecondNumber_29 : decode cX0_acceptSecondNumber 29 = .ok (.dup, 1) := by decide +kernel
theorem dX0_acceptSecondNumber_30 : decode cX0_acceptSecondNumber 30 = .ok (.getfield 25, 3) := by decide +kernel
theorem dX0_acceptSecondNumber_33 : decode cX0_acceptSecondNumber 33 = .ok (.iconst 1, 1) := by decide +kernel
theorem dX0_acceptSecondNumber_34 : decode cX0_acceptSecondNumber 34 = .ok (.iadd, 1) := by decide +kernel
theorem dX0_acceptSecondNumber_35 : decode cX0_acceptSecondNumber 35 = .ok (.putfield 25, 3) := by decide +kernel
theorem dX0_acceptSecondNumber_38 : decode cX0_acceptSecondNumber 38 = .ok (.iconst 1, 1) := by decide +kernel
theorem dX0_acceptSecondNumber_39 : decode cX0_acceptSecondNumber 39 = .ok (.ireturn, 1) := by decide +kernel
theorem dX0_acceptSecondNumber_40 : decode cX0_acceptSecondNumber 40 = .ok (.aload_n 0, 1) := by decide +kernel
theorem dX0_acceptSecondNumber_41 : decode cX0_acceptSecondNumber 41 = .ok (.getfield 25, 3) := by decide +kernel
theorem dX0_acceptSecondNumber_44 : decode cX0_acceptSecondNumber 44 = .ok (.ifCond .le 15, 3) := by decide +kernel
theorem dX0_acceptSecondNumber_47 : decode cX0_acceptSecondNumber 47 = .ok (.aload_n 0, 1) := by decide +kernel
theorem dX0_acceptSecondNumber_48 : decode cX0_acceptSecondNumber 48 = .ok (.iload_n 1, 1) := by decide +kernel
theorem dX0_acceptSecondNumber_49 : decode cX0_acceptSecondNumber 49 = .ok (.invokevirtual 47, 3) := by decide +kernel
theorem dX0_acceptSecondNumber_52 : decode cX0_acceptSecondNumber 52 = .ok (.ifCond .eq 7, 3) := by decide +kernel
theorem dX0_acceptSecondNumber_55 : decode cX0_acceptSecondNumber 55 = .ok (.iconst 1, 1) := by decide +kernel
theorem dX0_acceptSecondNumber_56 : decode cX0_acceptSecondNumber 56 = .ok (.goto 4, 3) := by decide +kernel
theorem dX0_acceptSecondNumber_59 : decode cX0_acceptSecondNumber 59 = .ok (.iconst 0, 1) := by decide +kernel
theorem dX0_acceptSecondNumber_60 : decode cX0_acceptSecondNumber 60 = .ok (.ireturn, 1) := by decide +kernel
theorem dX0_acceptOtherPlate_0 : decode cX0_acceptOtherPlate 0 = .ok (.iload_n 1, 1) := by decide +kernel
theorem dX0_acceptOtherPlate_1 : decode cX0_acceptOtherPlate 1 = .ok (.invokestatic 50, 3) := by decide +kernel
theorem dX0_acceptOtherPlate_4 : decode cX0_acceptOtherPlate 4 = .ok (.ifCond .ne 5, 3) := by decide +kernel
theorem dX0_acceptOtherPlate_7 : decode cX0_acceptOtherPlate 7 = .ok (.iconst 0, 1) := by decide +kernel
theorem dX0_acceptOtherPlate_8 : decode cX0_acceptOtherPlate 8 = .ok (.ireturn, 1) := by decide +kernel
theorem dX0_acceptOtherPlate_9 : decode cX0_acceptOtherPlate 9 = .ok (.aload_n 0, 1) := by decide +kernel
theorem dX0_acceptOtherPlate_10 : decode cX0_acceptOtherPlate 10 = .ok (.iload_n 1, 1) := by decide +kernel
theorem dX0_acceptOtherPlate_11 : decode cX0_acceptOtherPlate 11 = .ok (.bipush 48, 2) := by decide +kernel
theorem dX0_acceptOtherPlate_13 : decode cX0_acceptOtherPlate 13 = .ok (.isub, 1) := by decide +kernel
theorem dX0_acceptOtherPlate_14 : decode cX0_acceptOtherPlate 14 = .ok (.putfield 22, 3) := by decide +kernel
theorem dX0_acceptOtherPlate_17 : decode cX0_acceptOtherPlate 17 = .ok (.aload_n 0, 1) := by decide +kernel
theorem dX0_acceptOtherPlate_18 : decode cX0_acceptOtherPlate 18 = .ok (.bipush 6, 2) := by decide +kernel
theorem dX0_acceptOtherPlate_20 : decode cX0_acceptOtherPlate 20 = .ok (.putfield 9, 3) := by decide +kernel
theorem dX0_acceptOtherPlate_23 : decode cX0_acceptOtherPlate 23 = .ok (.iconst 1, 1) := by decide +kernel
theorem dX0_acceptOtherPlate_24 : decode cX0_acceptOtherPlate 24 = .ok (.ireturn, 1) := by decide +kernel
theorem dX0_acceptEnd_0 : decode cX0_acceptEnd 0 = .ok (.aload_n 0, 1) := by decide +kernel
theorem dX0_acceptEnd_1 : decode cX0_acceptEnd 1 = .ok (.iconst 0, 1) := by decide +kernel
theorem dX0_acceptEnd_2 : decode cX0_acceptEnd 2 = .ok (.putfield 9, 3) := by decide +kernel
theorem dX0_acceptEnd_5 : decode cX0_acceptEnd 5 = .ok (.iload_n 1, 1) := by decide +kernel
theorem dX0_acceptEnd_6 : decode cX0_acceptEnd 6 = .ok (.bipush 59, 2) := by decide +kernel
theorem dX0_acceptEnd_8 : decode cX0_acceptEnd 8 = .ok (.if_icmp .ne 7, 3) := by decide +kernel
theorem dX0_acceptEnd_11 : decode cX0_acceptEnd 11 = .ok (.iconst 1, 1) := by decide +kernel
theorem dX0_acceptEnd_12 : decode cX0_acceptEnd 12 = .ok (.goto 4, 3) := by decide +kernel
theorem dX0_acceptEnd_15 : decode cX0_acceptEnd 15 = .ok (.iconst 0, 1) := by decide +kernel
theorem dX0_acceptEnd_16 : decode cX0_acceptEnd 16 = .ok (.ireturn, 1) := by decide +kernel
theorem dX0_canFollow_0 : decode cX0_canFollow 0 = .ok (.aload_n 0, 1) := by decide +kernel
theorem dX0_canFollow_1 : decode cX0_canFollow 1 = .ok (.getfield 25, 3) := by decide +kernel
theorem dX0_canFollow_4 : decode cX0_canFollow 4 = .ok (.ifCond .le 11, 3) := by decide +kernel
theorem dX0_canFollow_7 : decode cX0_canFollow 7 = .ok (.iload_n 1, 1) := by decide +kernel
theorem dX0_canFollow_8 : decode cX0_canFollow 8 = .ok (.ifCond .ne 7, 3) := by decide +kernel
theorem dX0_canFollow_11 : decode cX0_canFollow 11 = .ok (.iconst 1, 1) := by decide +kernel
theorem dX0_canFollow_12 : decode cX0_canFollow 12 = .ok (.goto 4, 3) := by decide +kernel
theorem dX0_canFollow_15 : decode cX0_canFollow 15 = .ok (.iconst 0, 1) := by decide +kernel
theorem dX0_canFollow_16 : decode cX0_canFollow 16 = .ok (.istore_n 3, 1) := by decide +kernel
theorem dX0_canFollow_17 : decode cX0_canFollow 17 = .ok (.iload_n 2, 1) := by decide +kernel
theorem dX0_canFollow_18 : decode cX0_canFollow 18 = .ok (.invokestatic 50, 3) := by decide +kernel
theorem dX0_canFollow_21 : decode cX0_canFollow 21 = .ok (.ifCond .eq 19, 3) := by decide +kernel
theorem dX0_canFollow_24 : decode cX0_canFollow 24 = .ok (.aload_n 0, 1) := by decide +kernel
theorem dX0_canFollow_25 : decode cX0_canFollow 25 = .ok (.getfield 25, 3) := by decide +kernel
theorem dX0_canFollow_28 : decode cX0_canFollow 28 = .ok (.iconst 4, 1) := by decide +kernel
theorem dX0_canFollow_29 : decode cX0_canFollow 29 = .ok (.if_icmp .ge 11, 3) := by decide +kernel
theorem dX0_canFollow_32 : decode cX0_canFollow 32 = .ok (.iload_n 3, 1) := by decide +kernel
theorem dX0_canFollow_33 : decode cX0_canFollow 33 = .ok (.ifCond .ne 7, 3) := by decide +kernel
theorem dX0_canFollow_36 : decode cX0_canFollow 36 = .ok (.iconst 1, 1) := by decide +kernel
theorem dX0_canFollow_37 : decode cX0_canFollow 37 = .ok (.goto 4, 3) := by decide +kernel
theorem dX0_canFollow_40 : decode cX0_canFollow 40 = .ok (.iconst 0, 1) := by decide +kernel
theorem dX0_canFollow_41 : decode cX0_canFollow 41 = .ok (.ireturn, 1) := by decide +kernel
theorem dX0_isDigit_0 : decode cX0_isDigit 0 = .ok (.iload_n 0, 1) := by decide +kernel
theorem dX0_isDigit_1 : decode cX0_isDigit 1 = .ok (.bipush 48, 2) := by decide +kernel
theorem dX0_isDigit_3 : decode cX0_isDigit 3 = .ok (.if_icmp .lt 13, 3) := by decide +kernel
theorem dX0_isDigit_6 : decode cX0_isDigit 6 = .ok (.iload_n 0, 1) := by decide +kernel
theorem dX0_isDigit_7 : decode cX0_isDigit 7 = .ok (.bipush 57, 2) := by decide +kernel
theorem dX0_isDigit_9 : decode cX0_isDigit 9 = .ok (.if_icmp .gt 7, 3) := by decide +kernel
theorem dX0_isDigit_12 : decode cX0_isDigit 12 = .ok (.iconst 1, 1) := by decide +kernel
theorem dX0_isDigit_13 : decode cX0_isDigit 13 = .ok (.goto 4, 3) := by decide +kernel
theorem dX0_isDigit_16 : decode cX0_isDigit 16 = .ok (.iconst 0, 1) := by decide +kernel
theorem dX0_isDigit_17 : decode cX0_isDigit 17 = .ok (.ireturn, 1) := by decide +kernel
theorem dX1_init_0 : decode cX1_init 0 = .ok (.aload_n 0, 1) := by decide +kernel
theorem dX1_init_1 : decode cX1_init 1 = .ok (.invokespecial 1, 3) := by decide +kernel
theorem dX1_init_4 : decode cX1_init 4 = .ok (.aload_n 0, 1) := by decide +kernel
theorem dX1_init_5 : decode cX1_init 5 = .ok (.bipush 80, 2) := by decide +kernel
theorem dX1_init_7 : decode cX1_init 7 = .ok (.newarray .char, 2) := by decide +kernel
theorem dX1_init_9 : decode cX1_init 9 = .ok (.putfield 9, 3) := by decide +kernel
theorem dX1_init_12 : decode cX1_init 12 = .ok (.return_, 1) := by decide +kernel
theorem dX1_length_0 : decode cX1_length 0 = .ok (.aload_n 0, 1) := by decide +kernel
theorem dX1_length_1 : decode cX1_length 1 = .ok (.getfield 15, 3) := by decide +kernel
theorem dX1_length_4 : decode cX1_length 4 = .ok (.ireturn, 1) := by decide +kernel
theorem dX1_character_0 : decode cX1_character 0 = .ok (.aload_n 0, 1) := by decide +kernel
theorem dX1_character_1 : decode cX1_character 1 = .ok (.getfield 9, 3) := by decide +kernel
theorem dX1_character_4 : decode cX1_character 4 = .ok (.iload_n 1, 1) := by decide +kernel
theorem dX1_character_5 : decode cX1_character 5 = .ok (.caload, 1) := by decide +kernel
theorem dX1_character_6 : decode cX1_character 6 = .ok (.ireturn, 1) := by decide +kernel
theorem dX2_init_0 : decode cX2_init 0 = .ok (.aload_n 0, 1) := by decide +kernel
theorem dX2_init_1 : decode cX2_init 1 = .ok (.invokespecial 1, 3) := by decide +kernel
theorem dX2_init_4 : decode cX2_init 4 = .ok (.aload_n 0, 1) := by decide +kernel
theorem dX2_init_5 : decode cX2_init 5 = .ok (.bipush 40, 2) := by decide +kernel
theorem dX2_init_7 : decode cX2_init 7 = .ok (.newarray .int, 2) := by decide +kernel
theorem dX2_init_9 : decode cX2_init 9 = .ok (.putfield 9, 3) := by decide +kernel
theorem dX2_init_12 : decode cX2_init 12 = .ok (.aload_n 0, 1) := by decide +kernel
theorem dX2_init_13 : decode cX2_init 13 = .ok (.bipush 40, 2) := by decide +kernel
theorem dX2_init_15 : decode cX2_init 15 = .ok (.newarray .long, 2) := by decide +kernel
theorem dX2_init_17 : decode cX2_init 17 = .ok (.putfield 13, 3) := by decide +kernel
theorem dX2_init_20 : decode cX2_init 20 = .ok (.return_, 1) := by decide +kernel
theorem dX2_expand_0 : decode cX2_expand 0 = .ok (.lload_n 1, 1) := by decide +kernel
theorem dX2_expand_1 : decode cX2_expand 1 = .ok (.invokestatic 17, 3) := by decide +kernel
theorem dX2_expand_4 : decode cX2_expand 4 = .ok (.lstore_n 3, 1) := by decide +kernel
theorem dX2_expand_5 : decode cX2_expand 5 = .ok (.lload_n 1, 1) := by decide +kernel
theorem dX2_expand_6 : decode cX2_expand 6 = .ok (.invokestatic 23, 3) := by decide +kernel
theorem dX2_expand_9 : decode cX2_expand 9 = .ok (.lstore 5, 2) := by decide +kernel
theorem dX2_expand_11 : decode cX2_expand 11 = .ok (.aload_n 0, 1) := by decide +kernel
theorem dX2_expand_12 : decode cX2_expand 12 = .ok (.iconst 0, 1) := by decide +kernel
theorem dX2_expand_13 : decode cX2_expand 13 = .ok (.putfield 26, 3) := by decide +kernel
theorem dX2_expand_16 : decode cX2_expand 16 = .ok (.iconst 0, 1) := by decide +kernel
theorem dX2_expand_17 : decode cX2_expand 17 = .ok (.istore 7, 2) := by decide +kernel
theorem dX2_expand_19 : decode cX2_expand 19 = .ok (.iload 7, 2) := by decide +kernel
theorem dX2_expand_21 : decode cX2_expand 21 = .ok (.bipush 40, 2) := by decide +kernel
theorem dX2_expand_23 : decode cX2_expand 23 = .ok (.if_icmp .ge 72, 3) := by decide +kernel
theorem dX2_expand_26 : decode cX2_expand 26 = .ok (.lload 5, 2) := by decide +kernel
theorem dX2_expand_28 : decode cX2_expand 28 = .ok (.lconst 0, 1) := by decide +kernel
theorem dX2_expand_29 : decode cX2_expand 29 = .ok (.lcmp, 1) := by decide +kernel
theorem dX2_expand_30 : decode cX2_expand 30 = .ok (.ifCond .eq 65, 3) := by decide +kernel
theorem dX2_expand_33 : decode cX2_expand 33 = .ok (.lload_n 3, 1) := by decide +kernel
theorem dX2_expand_34 : decode cX2_expand 34 = .ok (.lload 5, 2) := by decide +kernel
theorem dX2_expand_36 : decode cX2_expand 36 = .ok (.lrem, 1) := by decide +kernel
theorem dX2_expand_37 : decode cX2_expand 37 = .ok (.lstore 8, 2) := by decide +kernel
theorem dX2_expand_39 : decode cX2_expand 39 = .ok (.aload_n 0, 1) := by decide +kernel
theorem dX2_expand_40 : decode cX2_expand 40 = .ok (.getfield 9, 3) := by decide +kernel
theorem dX2_expand_43 : decode cX2_expand 43 = .ok (.iload 7, 2) := by decide +kernel
theorem dX2_expand_45 : decode cX2_expand 45 = .ok (.lload_n 3, 1) := by decide +kernel
theorem dX2_expand_46 : decode cX2_expand 46 = .ok (.lload 5, 2) := by decide +kernel
theorem dX2_expand_48 : decode cX2_expand 48 = .ok (.ldiv, 1) := by decide +kernel
theorem dX2_expand_49 : decode cX2_expand 49 = .ok (.l2i, 1) := by decide +kernel
theorem dX2_expand_50 : decode cX2_expand 50 = .ok (.iastore, 1) := by decide +kernel
theorem dX2_expand_51 : decode cX2_expand 51 = .ok (.aload_n 0, 1) := by decide +kernel
theorem dX2_expand_52 : decode cX2_expand 52 = .ok (.getfield 13, 3) := by decide +kernel
theorem dX2_expand_55 : decode cX2_expand 55 = .ok (.iload 7, 2) := by decide +kernel
theorem dX2_expand_57 : decode cX2_expand 57 = .ok (.aload_n 0, 1) := by decide +kernel
theorem dX2_expand_58 : decode cX2_expand 58 = .ok (.iload 7, 2) := by decide +kernel
theorem dX2_expand_60 : decode cX2_expand 60 = .ok (.aload_n 0, 1) := by decide +kernel
theorem dX2_expand_61 : decode cX2_expand 61 = .ok (.getfield 9, 3) := by decide +kernel
theorem dX2_expand_64 : decode cX2_expand 64 = .ok (.iload 7, 2) := by decide +kernel
theorem dX2_expand_66 : decode cX2_expand 66 = .ok (.iaload, 1) := by decide +kernel
theorem dX2_expand_67 : decode cX2_expand 67 = .ok (.i2l, 1) := by decide +kernel
theorem dX2_expand_68 : decode cX2_expand 68 = .ok (.invokevirtual 30, 3) := by decide +kernel
theorem dX2_expand_71 : decode cX2_expand 71 = .ok (.lastore, 1) := by decide +kernel
theorem dX2_expand_72 : decode cX2_expand 72 = .ok (.aload_n 0, 1) := by decide +kernel
theorem dX2_expand_73 : decode cX2_expand 73 = .ok (.dup, 1) := by decide +kernel
theorem dX2_expand_74 : decode cX2_expand 74 = .ok (.getfield 26, 3) := by decide +kernel
theorem dX2_expand_77 : decode cX2_expand 77 = .ok (.iconst 1, 1) := by decide +kernel
theorem dX2_expand_78 : decode cX2_expand 78 = .ok (.iadd, 1) := by decide +kernel
theorem dX2_expand_79 : decode cX2_expand 79 = .ok (.putfield 26, 3) := by decide +kernel
theorem dX2_expand_82 : decode cX2_expand 82 = .ok (.lload 5, 2) := by decide +kernel
theorem dX2_expand_84 : decode cX2_expand 84 = .ok (.lstore_n 3, 1) := by decide +kernel
theorem dX2_expand_85 : decode cX2_expand 85 = .ok (.lload 8, 2) := by decide +kernel
theorem dX2_expand_87 : decode cX2_expand 87 = .ok (.lstore 5, 2) := by decide +kernel
theorem dX2_expand_89 : decode cX2_expand 89 = .ok (.iinc 7 1, 3) := by decide +kernel
theorem dX2_expand_92 : decode cX2_expand 92 = .ok (.goto (-73), 3) := by decide +kernel
theorem dX2_expand_95 : decode cX2_expand 95 = .ok (.return_, 1) := by decide +kernel
theorem dX2_nextBeginning_0 : decode cX2_nextBeginning 0 = .ok (.iload_n 1, 1) := by decide +kernel
theorem dX2_nextBeginning_1 : decode cX2_nextBeginning 1 = .ok (.iconst 1, 1) := by decide +kernel
theorem dX2_nextBeginning_2 : decode cX2_nextBeginning 2 = .ok (.if_icmp .ge 9, 3) := by decide +kernel
theorem dX2_nextBeginning_5 : decode cX2_nextBeginning 5 = .ok (.lload_n 2, 1) := by decide +kernel
theorem dX2_nextBeginning_6 : decode cX2_nextBeginning 6 = .ok (.lconst 1, 1) := by decide +kernel
theorem dX2_nextBeginning_7 : decode cX2_nextBeginning 7 = .ok (.invokestatic 34, 3) := by decide +kernel
theorem dX2_nextBeginning_10 : decode cX2_nextBeginning 10 = .ok (.lreturn, 1) := by decide +kernel
theorem dX2_nextBeginning_11 : decode cX2_nextBeginning 11 = .ok (.aload_n 0, 1) := by decide +kernel
theorem dX2_nextBeginning_12 : decode cX2_nextBeginning 12 = .ok (.getfield 13, 3) := by decide +kernel
theorem dX2_nextBeginning_15 : decode cX2_nextBeginning 15 = .ok (.iload_n 1, 1) := by decide +kernel
theorem dX2_nextBeginning_16 : decode cX2_nextBeginning 16 = .ok (.iconst 1, 1) := by decide +kernel
theorem dX2_nextBeginning_17 : decode cX2_nextBeginning 17 = .ok (.isub, 1) := by decide +kernel
theorem dX2_nextBeginning_18 : decode cX2_nextBeginning 18 = .ok (.laload, 1) := by decide +kernel
theorem dX2_nextBeginning_19 : decode cX2_nextBeginning 19 = .ok (.lstore 4, 2) := by decide +kernel
theorem dX2_nextBeginning_21 : decode cX2_nextBeginning 21 = .ok (.lload_n 2, 1) := by decide +kernel
theorem dX2_nextBeginning_22 : decode cX2_nextBeginning 22 = .ok (.lload 4, 2) := by decide +kernel
theorem dX2_nextBeginning_24 : decode cX2_nextBeginning 24 = .ok (.invokestatic 17, 3) := by decide +kernel
theorem dX2_nextBeginning_27 : decode cX2_nextBeginning 27 = .ok (.lmul, 1) := by decide +kernel
theorem dX2_nextBeginning_28 : decode cX2_nextBeginning 28 = .ok (.lstore 6, 2) := by decide +kernel
theorem dX2_nextBeginning_30 : decode cX2_nextBeginning 30 = .ok (.lload_n 2, 1) := by decide +kernel
theorem dX2_nextBeginning_31 : decode cX2_nextBeginning 31 = .ok (.lload 4, 2) := by decide +kernel
theorem dX2_nextBeginning_33 : decode cX2_nextBeginning 33 = .ok (.invokestatic 23, 3) := by decide +kernel
theorem dX2_nextBeginning_36 : decode cX2_nextBeginning 36 = .ok (.lmul, 1) := by decide +kernel
theorem dX2_nextBeginning_37 : decode cX2_nextBeginning 37 = .ok (.lstore 8, 2) := by decide +kernel
theorem dX2_nextBeginning_39 : decode cX2_nextBeginning 39 = .ok (.iload_n 1, 1) := by decide +kernel
theorem dX2_nextBeginning_40 : decode cX2_nextBeginning 40 = .ok (.iconst 1, 1) := by decide +kernel
theorem dX2_nextBeginning_41 : decode cX2_nextBeginning 41 = .ok (.if_icmp .ne 13, 3) := by decide +kernel
theorem dX2_nextBeginning_44 : decode cX2_nextBeginning 44 = .ok (.lload 6, 2) := by decide +kernel
theorem dX2_nextBeginning_46 : decode cX2_nextBeginning 46 = .ok (.lconst 1, 1) := by decide +kernel
theorem dX2_nextBeginning_47 : decode cX2_nextBeginning 47 = .ok (.ladd, 1) := by decide +kernel
theorem dX2_nextBeginning_48 : decode cX2_nextBeginning 48 = .ok (.lload 8, 2) := by decide +kernel
theorem dX2_nextBeginning_50 : decode cX2_nextBeginning 50 = .ok (.invokestatic 34, 3) := by decide +kernel
theorem dX2_nextBeginning_53 : decode cX2_nextBeginning 53 = .ok (.lreturn, 1) := by decide +kernel
theorem dX2_nextBeginning_54 : decode cX2_nextBeginning 54 = .ok (.aload_n 0, 1) := by decide +kernel
theorem dX2_nextBeginning_55 : decode cX2_nextBeginning 55 = .ok (.getfield 13, 3) := by decide +kernel
theorem dX2_nextBeginning_58 : decode cX2_nextBeginning 58 = .ok (.iload_n 1, 1) := by decide +kernel
theorem dX2_nextBeginning_59 : decode cX2_nextBeginning 59 = .ok (.iconst 2, 1) := by decide +kernel
theorem dX2_nextBeginning_60 : decode cX2_nextBeginning 60 = .ok (.isub, 1) := by decide +kernel
theorem dX2_nextBeginning_61 : decode cX2_nextBeginning 61 = .ok (.laload, 1) := by decide +kernel
theorem dX2_nextBeginning_62 : decode cX2_nextBeginning 62 = .ok (.lstore 10, 2) := by decide +kernel
theorem dX2_nextBeginning_64 : decode cX2_nextBeginning 64 = .ok (.lload 6, 2) := by decide +kernel
theorem dX2_nextBeginning_66 : decode cX2_nextBeginning 66 = .ok (.lload 10, 2) := by decide +kernel
theorem dX2_nextBeginning_68 : decode cX2_nextBeginning 68 = .ok (.invokestatic 17, 3) := by decide +kernel
theorem dX2_nextBeginning_71 : decode cX2_nextBeginning 71 = .ok (.ladd, 1) := by decide +kernel
theorem dX2_nextBeginning_72 : decode cX2_nextBeginning 72 = .ok (.lload 8, 2) := by decide +kernel
theorem dX2_nextBeginning_74 : decode cX2_nextBeginning 74 = .ok (.lload 10, 2) := by decide +kernel
theorem dX2_nextBeginning_76 : decode cX2_nextBeginning 76 = .ok (.invokestatic 23, 3) := by decide +kernel
theorem dX2_nextBeginning_79 : decode cX2_nextBeginning 79 = .ok (.ladd, 1) := by decide +kernel
theorem dX2_nextBeginning_80 : decode cX2_nextBeginning 80 = .ok (.invokestatic 34, 3) := by decide +kernel
theorem dX2_nextBeginning_83 : decode cX2_nextBeginning 83 = .ok (.lreturn, 1) := by decide +kernel
theorem dX2_count_0 : decode cX2_count 0 = .ok (.aload_n 0, 1) := by decide +kernel
theorem dX2_count_1 : decode cX2_count 1 = .ok (.getfield 26, 3) := by decide +kernel
theorem dX2_count_4 : decode cX2_count 4 = .ok (.ireturn, 1) := by decide +kernel
theorem dX2_beginning_0 : decode cX2_beginning 0 = .ok (.aload_n 0, 1) := by decide +kernel
theorem dX2_beginning_1 : decode cX2_beginning 1 = .ok (.getfield 13, 3) := by decide +kernel
theorem dX2_beginning_4 : decode cX2_beginning 4 = .ok (.iload_n 1, 1) := by decide +kernel
theorem dX2_beginning_5 : decode cX2_beginning 5 = .ok (.laload, 1) := by decide +kernel
theorem dX2_beginning_6 : decode cX2_beginning 6 = .ok (.lreturn, 1) := by decide +kernel
theorem dX2_nearest_0 : decode cX2_nearest 0 = .ok (.iconst 0, 1) := by decide +kernel
theorem dX2_nearest_1 : decode cX2_nearest 1 = .ok (.istore_n 2, 1) := by decide +kernel
theorem dX2_nearest_2 : decode cX2_nearest 2 = .ok (.iconst 1, 1) := by decide +kernel
theorem dX2_nearest_3 : decode cX2_nearest 3 = .ok (.istore_n 3, 1) := by decide +kernel
theorem dX2_nearest_4 : decode cX2_nearest 4 = .ok (.iload_n 3, 1) := by decide +kernel
theorem dX2_nearest_5 : decode cX2_nearest 5 = .ok (.aload_n 0, 1) := by decide +kernel
theorem dX2_nearest_6 : decode cX2_nearest 6 = .ok (.getfield 26, 3) := by decide +kernel
theorem dX2_nearest_9 : decode cX2_nearest 9 = .ok (.if_icmp .ge 26, 3) := by decide +kernel
theorem dX2_nearest_12 : decode cX2_nearest 12 = .ok (.aload_n 0, 1) := by decide +kernel
theorem dX2_nearest_13 : decode cX2_nearest 13 = .ok (.getfield 13, 3) := by decide +kernel
theorem dX2_nearest_16 : decode cX2_nearest 16 = .ok (.iload_n 3, 1) := by decide +kernel
theorem dX2_nearest_17 : decode cX2_nearest 17 = .ok (.laload, 1) := by decide +kernel
theorem dX2_nearest_18 : decode cX2_nearest 18 = .ok (.invokestatic 23, 3) := by decide +kernel
theorem dX2_nearest_21 : decode cX2_nearest 21 = .ok (.iload_n 1, 1) := by decide +kernel
theorem dX2_nearest_22 : decode cX2_nearest 22 = .ok (.i2l, 1) := by decide +kernel
theorem dX2_nearest_23 : decode cX2_nearest 23 = .ok (.lcmp, 1) := by decide +kernel
theorem dX2_nearest_24 : decode cX2_nearest 24 = .ok (.ifCond .gt 5, 3) := by decide +kernel
theorem dX2_nearest_27 : decode cX2_nearest 27 = .ok (.iload_n 3, 1) := by decide +kernel
theorem dX2_nearest_28 : decode cX2_nearest 28 = .ok (.istore_n 2, 1) := by decide +kernel
theorem dX2_nearest_29 : decode cX2_nearest 29 = .ok (.iinc 3 1, 3) := by decide +kernel
theorem dX2_nearest_32 : decode cX2_nearest 32 = .ok (.goto (-28), 3) := by decide +kernel
theorem dX2_nearest_35 : decode cX2_nearest 35 = .ok (.iload_n 2, 1) := by decide +kernel
theorem dX2_nearest_36 : decode cX2_nearest 36 = .ok (.aload_n 0, 1) := by decide +kernel
theorem dX2_nearest_37 : decode cX2_nearest 37 = .ok (.getfield 26, 3) := by decide +kernel
theorem dX2_nearest_40 : decode cX2_nearest 40 = .ok (.iconst 1, 1) := by decide +kernel
theorem dX2_nearest_41 : decode cX2_nearest 41 = .ok (.isub, 1) := by decide +kernel
theorem dX2_nearest_42 : decode cX2_nearest 42 = .ok (.if_icmp .ne 10, 3) := by decide +kernel
theorem dX2_nearest_45 : decode cX2_nearest 45 = .ok (.aload_n 0, 1) := by decide +kernel
theorem dX2_nearest_46 : decode cX2_nearest 46 = .ok (.getfield 13, 3) := by decide +kernel
theorem dX2_nearest_49 : decode cX2_nearest 49 = .ok (.iload_n 2, 1) := by decide +kernel
theorem dX2_nearest_50 : decode cX2_nearest 50 = .ok (.laload, 1) := by decide +kernel
theorem dX2_nearest_51 : decode cX2_nearest 51 = .ok (.lreturn, 1) := by decide +kernel
theorem dX2_nearest_52 : decode cX2_nearest 52 = .ok (.iload_n 2, 1) := by decide +kernel
theorem dX2_nearest_53 : decode cX2_nearest 53 = .ok (.ifCond .ne 7, 3) := by decide +kernel
theorem dX2_nearest_56 : decode cX2_nearest 56 = .ok (.lconst 0, 1) := by decide +kernel
theorem dX2_nearest_57 : decode cX2_nearest 57 = .ok (.goto 14, 3) := by decide +kernel
theorem dX2_nearest_60 : decode cX2_nearest 60 = .ok (.aload_n 0, 1) := by decide +kernel
theorem dX2_nearest_61 : decode cX2_nearest 61 = .ok (.getfield 13, 3) := by decide +kernel
theorem dX2_nearest_64 : decode cX2_nearest 64 = .ok (.iload_n 2, 1) := by decide +kernel
theorem dX2_nearest_65 : decode cX2_nearest 65 = .ok (.iconst 1, 1) := by decide +kernel
theorem dX2_nearest_66 : decode cX2_nearest 66 = .ok (.isub, 1) := by decide +kernel
theorem dX2_nearest_67 : decode cX2_nearest 67 = .ok (.laload, 1) := by decide +kernel
theorem dX2_nearest_68 : decode cX2_nearest 68 = .ok (.invokestatic 23, 3) := by decide +kernel
theorem dX2_nearest_71 : decode cX2_nearest 71 = .ok (.lstore_n 3, 1) := by decide +kernel
theorem dX2_nearest_72 : decode cX2_nearest 72 = .ok (.iload_n 1, 1) := by decide +kernel
theorem dX2_nearest_73 : decode cX2_nearest 73 = .ok (.i2l, 1) := by decide +kernel
theorem dX2_nearest_74 : decode cX2_nearest 74 = .ok (.lload_n 3, 1) := by decide +kernel
theorem dX2_nearest_75 : decode cX2_nearest 75 = .ok (.lsub, 1) := by decide +kernel
theorem dX2_nearest_76 : decode cX2_nearest 76 = .ok (.aload_n 0, 1) := by decide +kernel
theorem dX2_nearest_77 : decode cX2_nearest 77 = .ok (.getfield 13, 3) := by decide +kernel
theorem dX2_nearest_80 : decode cX2_nearest 80 = .ok (.iload_n 2, 1) := by decide +kernel
theorem dX2_nearest_81 : decode cX2_nearest 81 = .ok (.laload, 1) := by decide +kernel
theorem dX2_nearest_82 : decode cX2_nearest 82 = .ok (.invokestatic 23, 3) := by decide +kernel
theorem dX2_nearest_85 : decode cX2_nearest 85 = .ok (.ldiv, 1) := by decide +kernel
theorem dX2_nearest_86 : decode cX2_nearest 86 = .ok (.lstore 5, 2) := by decide +kernel
theorem dX2_nearest_88 : decode cX2_nearest 88 = .ok (.aload_n 0, 1) := by decide +kernel
theorem dX2_nearest_89 : decode cX2_nearest 89 = .ok (.getfield 13, 3) := by decide +kernel
theorem dX2_nearest_92 : decode cX2_nearest 92 = .ok (.aload_n 0, 1) := by decide +kernel
theorem dX2_nearest_93 : decode cX2_nearest 93 = .ok (.getfield 26, 3) := by decide +kernel
theorem dX2_nearest_96 : decode cX2_nearest 96 = .ok (.iconst 1, 1) := by decide +kernel
theorem dX2_nearest_97 : decode cX2_nearest 97 = .ok (.isub, 1) := by decide +kernel
theorem dX2_nearest_98 : decode cX2_nearest 98 = .ok (.laload, 1) := by decide +kernel
theorem dX2_nearest_99 : decode cX2_nearest 99 = .ok (.lstore 7, 2) := by decide +kernel
theorem dX2_nearest_101 : decode cX2_nearest 101 = .ok (.lload 7, 2) := by decide +kernel
theorem dX2_nearest_103 : decode cX2_nearest 103 = .ok (.aload_n 0, 1) := by decide +kernel
theorem dX2_nearest_104 : decode cX2_nearest 104 = .ok (.getfield 13, 3) := by decide +kernel
theorem dX2_nearest_107 : decode cX2_nearest 107 = .ok (.iload_n 2, 1) := by decide +kernel
theorem dX2_nearest_108 : decode cX2_nearest 108 = .ok (.laload, 1) := by decide +kernel
theorem dX2_nearest_109 : decode cX2_nearest 109 = .ok (.aload_n 0, 1) := by decide +kernel
theorem dX2_nearest_110 : decode cX2_nearest 110 = .ok (.iload_n 2, 1) := by decide +kernel
theorem dX2_nearest_111 : decode cX2_nearest 111 = .ok (.iconst 1, 1) := by decide +kernel
theorem dX2_nearest_112 : decode cX2_nearest 112 = .ok (.iadd, 1) := by decide +kernel
theorem dX2_nearest_113 : decode cX2_nearest 113 = .ok (.lload 5, 2) := by decide +kernel
theorem dX2_nearest_115 : decode cX2_nearest 115 = .ok (.invokevirtual 30, 3) := by decide +kernel
theorem dX2_nearest_118 : decode cX2_nearest 118 = .ok (.invokestatic 38, 3) := by decide +kernel
theorem dX2_nearest_121 : decode cX2_nearest 121 = .ok (.lreturn, 1) := by decide +kernel
theorem dX3_pair_0 : decode cX3_pair 0 = .ok (.lload_n 0, 1) := by decide +kernel
theorem dX3_pair_1 : decode cX3_pair 1 = .ok (.bipush 20, 2) := by decide +kernel
theorem dX3_pair_3 : decode cX3_pair 3 = .ok (.lshl, 1) := by decide +kernel
theorem dX3_pair_4 : decode cX3_pair 4 = .ok (.lload_n 2, 1) := by decide +kernel
theorem dX3_pair_5 : decode cX3_pair 5 = .ok (.lor, 1) := by decide +kernel
theorem dX3_pair_6 : decode cX3_pair 6 = .ok (.lreturn, 1) := by decide +kernel
theorem dX3_numerator_0 : decode cX3_numerator 0 = .ok (.lload_n 0, 1) := by decide +kernel
theorem dX3_numerator_1 : decode cX3_numerator 1 = .ok (.bipush 20, 2) := by decide +kernel
theorem dX3_numerator_3 : decode cX3_numerator 3 = .ok (.lshr, 1) := by decide +kernel
theorem dX3_numerator_4 : decode cX3_numerator 4 = .ok (.lreturn, 1) := by decide +kernel
theorem dX3_denominator_0 : decode cX3_denominator 0 = .ok (.lconst 1, 1) := by decide +kernel
theorem dX3_denominator_1 : decode cX3_denominator 1 = .ok (.lload_n 0, 1) := by decide +kernel
theorem dX3_denominator_2 : decode cX3_denominator 2 = .ok (.ldc2_w 11, 3) := by decide +kernel
theorem dX3_denominator_5 : decode cX3_denominator 5 = .ok (.land, 1) := by decide +kernel
theorem dX3_denominator_6 : decode cX3_denominator 6 = .ok (.invokestatic 13, 3) := by decide +kernel
theorem dX3_denominator_9 : decode cX3_denominator 9 = .ok (.lreturn, 1) := by decide +kernel
theorem dX3_inLowestTerms_0 : decode cX3_inLowestTerms 0 = .ok (.lload_n 0, 1) := by decide +kernel
theorem dX3_inLowestTerms_1 : decode cX3_inLowestTerms 1 = .ok (.lconst 0, 1) := by decide +kernel
theorem dX3_inLowestTerms_2 : decode cX3_inLowestTerms 2 = .ok (.lcmp, 1) := by decide +kernel
theorem dX3_inLowestTerms_3 : decode cX3_inLowestTerms 3 = .ok (.ifCond .lt 9, 3) := by decide +kernel
theorem dX3_inLowestTerms_6 : decode cX3_inLowestTerms 6 = .ok (.lload_n 2, 1) := by decide +kernel
theorem dX3_inLowestTerms_7 : decode cX3_inLowestTerms 7 = .ok (.lconst 1, 1) := by decide +kernel
theorem dX3_inLowestTerms_8 : decode cX3_inLowestTerms 8 = .ok (.lcmp, 1) := by decide +kernel
theorem dX3_inLowestTerms_9 : decode cX3_inLowestTerms 9 = .ok (.ifCond .ge 7, 3) := by decide +kernel
theorem dX3_inLowestTerms_12 : decode cX3_inLowestTerms 12 = .ok (.ldc2_w 19, 3) := by decide +kernel
theorem dX3_inLowestTerms_15 : decode cX3_inLowestTerms 15 = .ok (.lreturn, 1) := by decide +kernel
theorem dX3_inLowestTerms_16 : decode cX3_inLowestTerms 16 = .ok (.lload_n 0, 1) := by decide +kernel
theorem dX3_inLowestTerms_17 : decode cX3_inLowestTerms 17 = .ok (.lload_n 2, 1) := by decide +kernel
theorem dX3_inLowestTerms_18 : decode cX3_inLowestTerms 18 = .ok (.invokestatic 21, 3) := by decide +kernel
theorem dX3_inLowestTerms_21 : decode cX3_inLowestTerms 21 = .ok (.lstore 4, 2) := by decide +kernel
theorem dX3_inLowestTerms_23 : decode cX3_inLowestTerms 23 = .ok (.lload_n 2, 1) := by decide +kernel
theorem dX3_inLowestTerms_24 : decode cX3_inLowestTerms 24 = .ok (.lload 4, 2) := by decide +kernel
theorem dX3_inLowestTerms_26 : decode cX3_inLowestTerms 26 = .ok (.ldiv, 1) := by decide +kernel
theorem dX3_inLowestTerms_27 : decode cX3_inLowestTerms 27 = .ok (.lstore 6, 2) := by decide +kernel
theorem dX3_inLowestTerms_29 : decode cX3_inLowestTerms 29 = .ok (.lload_n 0, 1) := by decide +kernel
theorem dX3_inLowestTerms_30 : decode cX3_inLowestTerms 30 = .ok (.lload 4, 2) := by decide +kernel
theorem dX3_inLowestTerms_32 : decode cX3_inLowestTerms 32 = .ok (.ldiv, 1) := by decide +kernel
theorem dX3_inLowestTerms_33 : decode cX3_inLowestTerms 33 = .ok (.lstore 8, 2) := by decide +kernel
theorem dX3_inLowestTerms_35 : decode cX3_inLowestTerms 35 = .ok (.lload 8, 2) := by decide +kernel
theorem dX3_inLowestTerms_37 : decode cX3_inLowestTerms 37 = .ok (.ldc2_w 24, 3) := by decide +kernel
theorem dX3_inLowestTerms_40 : decode cX3_inLowestTerms 40 = .ok (.lcmp, 1) := by decide +kernel
theorem dX3_inLowestTerms_41 : decode cX3_inLowestTerms 41 = .ok (.ifCond .gt 12, 3) := by decide +kernel
theorem dX3_inLowestTerms_44 : decode cX3_inLowestTerms 44 = .ok (.lload 6, 2) := by decide +kernel
theorem dX3_inLowestTerms_46 : decode cX3_inLowestTerms 46 = .ok (.ldc2_w 24, 3) := by decide +kernel
theorem dX3_inLowestTerms_49 : decode cX3_inLowestTerms 49 = .ok (.lcmp, 1) := by decide +kernel
theorem dX3_inLowestTerms_50 : decode cX3_inLowestTerms 50 = .ok (.ifCond .le 7, 3) := by decide +kernel
theorem dX3_inLowestTerms_53 : decode cX3_inLowestTerms 53 = .ok (.ldc2_w 19, 3) := by decide +kernel
theorem dX3_inLowestTerms_56 : decode cX3_inLowestTerms 56 = .ok (.lreturn, 1) := by decide +kernel
theorem dX3_inLowestTerms_57 : decode cX3_inLowestTerms 57 = .ok (.lload 8, 2) := by decide +kernel
theorem dX3_inLowestTerms_59 : decode cX3_inLowestTerms 59 = .ok (.lload 6, 2) := by decide +kernel
theorem dX3_inLowestTerms_61 : decode cX3_inLowestTerms 61 = .ok (.invokestatic 26, 3) := by decide +kernel
theorem dX3_inLowestTerms_64 : decode cX3_inLowestTerms 64 = .ok (.lreturn, 1) := by decide +kernel
theorem dX3_commonDivisor_0 : decode cX3_commonDivisor 0 = .ok (.lload_n 0, 1) := by decide +kernel
theorem dX3_commonDivisor_1 : decode cX3_commonDivisor 1 = .ok (.lstore 4, 2) := by decide +kernel
theorem dX3_commonDivisor_3 : decode cX3_commonDivisor 3 = .ok (.lload_n 2, 1) := by decide +kernel
theorem dX3_commonDivisor_4 : decode cX3_commonDivisor 4 = .ok (.lstore 6, 2) := by decide +kernel
theorem dX3_commonDivisor_6 : decode cX3_commonDivisor 6 = .ok (.iconst 0, 1) := by decide +kernel
theorem dX3_commonDivisor_7 : decode cX3_commonDivisor 7 = .ok (.istore 8, 2) := by decide +kernel
theorem dX3_commonDivisor_9 : decode cX3_commonDivisor 9 = .ok (.iload 8, 2) := by decide +kernel
theorem dX3_commonDivisor_11 : decode cX3_commonDivisor 11 = .ok (.sipush 1000, 3) := by decide +kernel
theorem dX3_commonDivisor_14 : decode cX3_commonDivisor 14 = .ok (.if_icmp .ge 31, 3) := by decide +kernel
theorem dX3_commonDivisor_17 : decode cX3_commonDivisor 17 = .ok (.lload 6, 2) := by decide +kernel
theorem dX3_commonDivisor_19 : decode cX3_commonDivisor 19 = .ok (.lconst 0, 1) := by decide +kernel
theorem dX3_commonDivisor_20 : decode cX3_commonDivisor 20 = .ok (.lcmp, 1) := by decide +kernel
theorem dX3_commonDivisor_21 : decode cX3_commonDivisor 21 = .ok (.ifCond .eq 24, 3) := by decide +kernel
theorem dX3_commonDivisor_24 : decode cX3_commonDivisor 24 = .ok (.lload 4, 2) := by decide +kernel
theorem dX3_commonDivisor_26 : decode cX3_commonDivisor 26 = .ok (.lload 6, 2) := by decide +kernel
theorem dX3_commonDivisor_28 : decode cX3_commonDivisor 28 = .ok (.lrem, 1) := by decide +kernel
theorem dX3_commonDivisor_29 : decode cX3_commonDivisor 29 = .ok (.lstore 9, 2) := by decide +kernel
theorem dX3_commonDivisor_31 : decode cX3_commonDivisor 31 = .ok (.lload 6, 2) := by decide +kernel
theorem dX3_commonDivisor_33 : decode cX3_commonDivisor 33 = .ok (.lstore 4, 2) := by decide +kernel
theorem dX3_commonDivisor_35 : decode cX3_commonDivisor 35 = .ok (.lload 9, 2) := by decide +kernel
theorem dX3_commonDivisor_37 : decode cX3_commonDivisor 37 = .ok (.lstore 6, 2) := by decide +kernel
theorem dX3_commonDivisor_39 : decode cX3_commonDivisor 39 = .ok (.iinc 8 1, 3) := by decide +kernel
theorem dX3_commonDivisor_42 : decode cX3_commonDivisor 42 = .ok (.goto (-33), 3) := by decide +kernel
theorem dX3_commonDivisor_45 : decode cX3_commonDivisor 45 = .ok (.lconst 1, 1) := by decide +kernel
theorem dX3_commonDivisor_46 : decode cX3_commonDivisor 46 = .ok (.lload 4, 2) := by decide +kernel
theorem dX3_commonDivisor_48 : decode cX3_commonDivisor 48 = .ok (.invokestatic 13, 3) := by decide +kernel
theorem dX3_commonDivisor_51 : decode cX3_commonDivisor 51 = .ok (.lreturn, 1) := by decide +kernel
theorem dX3_sum_0 : decode cX3_sum 0 = .ok (.lload_n 0, 1) := by decide +kernel
theorem dX3_sum_1 : decode cX3_sum 1 = .ok (.invokestatic 29, 3) := by decide +kernel
theorem dX3_sum_4 : decode cX3_sum 4 = .ok (.lload_n 2, 1) := by decide +kernel
theorem dX3_sum_5 : decode cX3_sum 5 = .ok (.invokestatic 33, 3) := by decide +kernel
theorem dX3_sum_8 : decode cX3_sum 8 = .ok (.lmul, 1) := by decide +kernel
theorem dX3_sum_9 : decode cX3_sum 9 = .ok (.lload_n 2, 1) := by decide +kernel
theorem dX3_sum_10 : decode cX3_sum 10 = .ok (.invokestatic 29, 3) := by decide +kernel
theorem dX3_sum_13 : decode cX3_sum 13 = .ok (.lload_n 0, 1) := by decide +kernel
theorem dX3_sum_14 : decode cX3_sum 14 = .ok (.invokestatic 33, 3) := by decide +kernel
theorem dX3_sum_17 : decode cX3_sum 17 = .ok (.lmul, 1) := by decide +kernel
theorem dX3_sum_18 : decode cX3_sum 18 = .ok (.ladd, 1) := by decide +kernel
theorem dX3_sum_19 : decode cX3_sum 19 = .ok (.lload_n 0, 1) := by decide +kernel
theorem dX3_sum_20 : decode cX3_sum 20 = .ok (.invokestatic 33, 3) := by decide +kernel
theorem dX3_sum_23 : decode cX3_sum 23 = .ok (.lload_n 2, 1) := by decide +kernel
theorem dX3_sum_24 : decode cX3_sum 24 = .ok (.invokestatic 33, 3) := by decide +kernel
theorem dX3_sum_27 : decode cX3_sum 27 = .ok (.lmul, 1) := by decide +kernel
theorem dX3_sum_28 : decode cX3_sum 28 = .ok (.invokestatic 36, 3) := by decide +kernel
theorem dX3_sum_31 : decode cX3_sum 31 = .ok (.lreturn, 1) := by decide +kernel
theorem dX3_difference_0 : decode cX3_difference 0 = .ok (.lload_n 0, 1) := by decide +kernel
theorem dX3_difference_1 : decode cX3_difference 1 = .ok (.invokestatic 29, 3) := by decide +kernel
theorem dX3_difference_4 : decode cX3_difference 4 = .ok (.lload_n 2, 1) := by decide +kernel
theorem dX3_difference_5 : decode cX3_difference 5 = .ok (.invokestatic 33, 3) := by decide +kernel
theorem dX3_difference_8 : decode cX3_difference 8 = .ok (.lmul, 1) := by decide +kernel
theorem dX3_difference_9 : decode cX3_difference 9 = .ok (.lload_n 2, 1) := by decide +kernel
theorem dX3_difference_10 : decode cX3_difference 10 = .ok (.invokestatic 29, 3) := by decide +kernel
theorem dX3_difference_13 : decode cX3_difference 13 = .ok (.lload_n 0, 1) := by decide +kernel
theorem dX3_difference_14 : decode cX3_difference 14 = .ok (.invokestatic 33, 3) := by decide +kernel
theorem dX3_difference_17 : decode cX3_difference 17 = .ok (.lmul, 1) := by decide +kernel
theorem dX3_difference_18 : decode cX3_difference 18 = .ok (.lsub, 1) := by decide +kernel
theorem dX3_difference_19 : decode cX3_difference 19 = .ok (.lload_n 0, 1) := by decide +kernel
theorem dX3_difference_20 : decode cX3_difference 20 = .ok (.invokestatic 33, 3) := by decide +kernel
theorem dX3_difference_23 : decode cX3_difference 23 = .ok (.lload_n 2, 1) := by decide +kernel
theorem dX3_difference_24 : decode cX3_difference 24 = .ok (.invokestatic 33, 3) := by decide +kernel
theorem dX3_difference_27 : decode cX3_difference 27 = .ok (.lmul, 1) := by decide +kernel
theorem dX3_difference_28 : decode cX3_difference 28 = .ok (.invokestatic 36, 3) := by decide +kernel
theorem dX3_difference_31 : decode cX3_difference 31 = .ok (.lreturn, 1) := by decide +kernel
theorem dX3_product_0 : decode cX3_product 0 = .ok (.lload_n 0, 1) := by decide +kernel
theorem dX3_product_1 : decode cX3_product 1 = .ok (.invokestatic 29, 3) := by decide +kernel
theorem dX3_product_4 : decode cX3_product 4 = .ok (.lload_n 2, 1) := by decide +kernel
theorem dX3_product_5 : decode cX3_product 5 = .ok (.invokestatic 29, 3) := by decide +kernel
theorem dX3_product_8 : decode cX3_product 8 = .ok (.lmul, 1) := by decide +kernel
theorem dX3_product_9 : decode cX3_product 9 = .ok (.lload_n 0, 1) := by decide +kernel
theorem dX3_product_10 : decode cX3_product 10 = .ok (.invokestatic 33, 3) := by decide +kernel
theorem dX3_product_13 : decode cX3_product 13 = .ok (.lload_n 2, 1) := by decide +kernel
theorem dX3_product_14 : decode cX3_product 14 = .ok (.invokestatic 33, 3) := by decide +kernel
theorem dX3_product_17 : decode cX3_product 17 = .ok (.lmul, 1) := by decide +kernel
theorem dX3_product_18 : decode cX3_product 18 = .ok (.invokestatic 36, 3) := by decide +kernel
theorem dX3_product_21 : decode cX3_product 21 = .ok (.lreturn, 1) := by decide +kernel
theorem dX3_order_0 : decode cX3_order 0 = .ok (.lload_n 0, 1) := by decide +kernel
theorem dX3_order_1 : decode cX3_order 1 = .ok (.invokestatic 29, 3) := by decide +kernel
theorem dX3_order_4 : decode cX3_order 4 = .ok (.lload_n 2, 1) := by decide +kernel
theorem dX3_order_5 : decode cX3_order 5 = .ok (.invokestatic 33, 3) := by decide +kernel
theorem dX3_order_8 : decode cX3_order 8 = .ok (.lmul, 1) := by decide +kernel
theorem dX3_order_9 : decode cX3_order 9 = .ok (.lstore 4, 2) := by decide +kernel
theorem dX3_order_11 : decode cX3_order 11 = .ok (.lload_n 2, 1) := by decide +kernel
theorem dX3_order_12 : decode cX3_order 12 = .ok (.invokestatic 29, 3) := by decide +kernel
theorem dX3_order_15 : decode cX3_order 15 = .ok (.lload_n 0, 1) := by decide +kernel
theorem dX3_order_16 : decode cX3_order 16 = .ok (.invokestatic 33, 3) := by decide +kernel
theorem dX3_order_19 : decode cX3_order 19 = .ok (.lmul, 1) := by decide +kernel
theorem dX3_order_20 : decode cX3_order 20 = .ok (.lstore 6, 2) := by decide +kernel
theorem dX3_order_22 : decode cX3_order 22 = .ok (.lload 4, 2) := by decide +kernel
theorem dX3_order_24 : decode cX3_order 24 = .ok (.lload 6, 2) := by decide +kernel
theorem dX3_order_26 : decode cX3_order 26 = .ok (.lcmp, 1) := by decide +kernel
theorem dX3_order_27 : decode cX3_order 27 = .ok (.ifCond .ne 5, 3) := by decide +kernel
theorem dX3_order_30 : decode cX3_order 30 = .ok (.iconst 0, 1) := by decide +kernel
theorem dX3_order_31 : decode cX3_order 31 = .ok (.ireturn, 1) := by decide +kernel
theorem dX3_order_32 : decode cX3_order 32 = .ok (.lload 4, 2) := by decide +kernel
theorem dX3_order_34 : decode cX3_order 34 = .ok (.lload 6, 2) := by decide +kernel
theorem dX3_order_36 : decode cX3_order 36 = .ok (.lcmp, 1) := by decide +kernel
theorem dX3_order_37 : decode cX3_order 37 = .ok (.ifCond .ge 7, 3) := by decide +kernel
theorem dX3_order_40 : decode cX3_order 40 = .ok (.iconst (-1), 1) := by decide +kernel
theorem dX3_order_41 : decode cX3_order 41 = .ok (.goto 4, 3) := by decide +kernel
theorem dX3_order_44 : decode cX3_order 44 = .ok (.iconst 1, 1) := by decide +kernel
theorem dX3_order_45 : decode cX3_order 45 = .ok (.ireturn, 1) := by decide +kernel
theorem dX3_partsApart_0 : decode cX3_partsApart 0 = .ok (.lload_n 0, 1) := by decide +kernel
theorem dX3_partsApart_1 : decode cX3_partsApart 1 = .ok (.invokestatic 29, 3) := by decide +kernel
theorem dX3_partsApart_4 : decode cX3_partsApart 4 = .ok (.iload_n 2, 1) := by decide +kernel
theorem dX3_partsApart_5 : decode cX3_partsApart 5 = .ok (.i2l, 1) := by decide +kernel
theorem dX3_partsApart_6 : decode cX3_partsApart 6 = .ok (.lmul, 1) := by decide +kernel
theorem dX3_partsApart_7 : decode cX3_partsApart 7 = .ok (.lload_n 0, 1) := by decide +kernel
theorem dX3_partsApart_8 : decode cX3_partsApart 8 = .ok (.invokestatic 33, 3) := by decide +kernel
theorem dX3_partsApart_11 : decode cX3_partsApart 11 = .ok (.lrem, 1) := by decide +kernel
theorem dX3_partsApart_12 : decode cX3_partsApart 12 = .ok (.lstore_n 3, 1) := by decide +kernel
theorem dX3_partsApart_13 : decode cX3_partsApart 13 = .ok (.lload_n 3, 1) := by decide +kernel
theorem dX3_partsApart_14 : decode cX3_partsApart 14 = .ok (.lload_n 0, 1) := by decide +kernel
theorem dX3_partsApart_15 : decode cX3_partsApart 15 = .ok (.invokestatic 33, 3) := by decide +kernel
theorem dX3_partsApart_18 : decode cX3_partsApart 18 = .ok (.lload_n 3, 1) := by decide +kernel
theorem dX3_partsApart_19 : decode cX3_partsApart 19 = .ok (.lsub, 1) := by decide +kernel
theorem dX3_partsApart_20 : decode cX3_partsApart 20 = .ok (.invokestatic 39, 3) := by decide +kernel
theorem dX3_partsApart_23 : decode cX3_partsApart 23 = .ok (.lreturn, 1) := by decide +kernel
theorem dX3_nearer_0 : decode cX3_nearer 0 = .ok (.lload_n 0, 1) := by decide +kernel
theorem dX3_nearer_1 : decode cX3_nearer 1 = .ok (.lload_n 2, 1) := by decide +kernel
theorem dX3_nearer_2 : decode cX3_nearer 2 = .ok (.invokestatic 42, 3) := by decide +kernel
theorem dX3_nearer_5 : decode cX3_nearer 5 = .ok (.lload 4, 2) := by decide +kernel
theorem dX3_nearer_7 : decode cX3_nearer 7 = .ok (.invokestatic 33, 3) := by decide +kernel
theorem dX3_nearer_10 : decode cX3_nearer 10 = .ok (.lmul, 1) := by decide +kernel
theorem dX3_nearer_11 : decode cX3_nearer 11 = .ok (.lstore 6, 2) := by decide +kernel
theorem dX3_nearer_13 : decode cX3_nearer 13 = .ok (.lload_n 0, 1) := by decide +kernel
theorem dX3_nearer_14 : decode cX3_nearer 14 = .ok (.lload 4, 2) := by decide +kernel
theorem dX3_nearer_16 : decode cX3_nearer 16 = .ok (.invokestatic 42, 3) := by decide +kernel
theorem dX3_nearer_19 : decode cX3_nearer 19 = .ok (.lload_n 2, 1) := by decide +kernel
theorem dX3_nearer_20 : decode cX3_nearer 20 = .ok (.invokestatic 33, 3) := by decide +kernel
theorem dX3_nearer_23 : decode cX3_nearer 23 = .ok (.lmul, 1) := by decide +kernel
theorem dX3_nearer_24 : decode cX3_nearer 24 = .ok (.lstore 8, 2) := by decide +kernel
theorem dX3_nearer_26 : decode cX3_nearer 26 = .ok (.lload 8, 2) := by decide +kernel
theorem dX3_nearer_28 : decode cX3_nearer 28 = .ok (.lload 6, 2) := by decide +kernel
theorem dX3_nearer_30 : decode cX3_nearer 30 = .ok (.lcmp, 1) := by decide +kernel
theorem dX3_nearer_31 : decode cX3_nearer 31 = .ok (.ifCond .ge 8, 3) := by decide +kernel
theorem dX3_nearer_34 : decode cX3_nearer 34 = .ok (.lload 4, 2) := by decide +kernel
theorem dX3_nearer_36 : decode cX3_nearer 36 = .ok (.goto 4, 3) := by decide +kernel
theorem dX3_nearer_39 : decode cX3_nearer 39 = .ok (.lload_n 2, 1) := by decide +kernel
theorem dX3_nearer_40 : decode cX3_nearer 40 = .ok (.lreturn, 1) := by decide +kernel
theorem dX3_distanceTimesDenominators_0 : decode cX3_distanceTimesDenominators 0 = .ok (.lload_n 0, 1) := by decide +kernel
theorem dX3_distanceTimesDenominators_1 : decode cX3_distanceTimesDenominators 1 = .ok (.invokestatic 29, 3) := by decide +kernel
theorem dX3_distanceTimesDenominators_4 : decode cX3_distanceTimesDenominators 4 = .ok (.lload_n 2, 1) := by decide +kernel
theorem dX3_distanceTimesDenominators_5 : decode cX3_distanceTimesDenominators 5 = .ok (.invokestatic 33, 3) := by decide +kernel
theorem dX3_distanceTimesDenominators_8 : decode cX3_distanceTimesDenominators 8 = .ok (.lmul, 1) := by decide +kernel
theorem dX3_distanceTimesDenominators_9 : decode cX3_distanceTimesDenominators 9 = .ok (.lload_n 2, 1) := by decide +kernel
theorem dX3_distanceTimesDenominators_10 : decode cX3_distanceTimesDenominators 10 = .ok (.invokestatic 29, 3) := by decide +kernel
theorem dX3_distanceTimesDenominators_13 : decode cX3_distanceTimesDenominators 13 = .ok (.lload_n 0, 1) := by decide +kernel
theorem dX3_distanceTimesDenominators_14 : decode cX3_distanceTimesDenominators 14 = .ok (.invokestatic 33, 3) := by decide +kernel
theorem dX3_distanceTimesDenominators_17 : decode cX3_distanceTimesDenominators 17 = .ok (.lmul, 1) := by decide +kernel
theorem dX3_distanceTimesDenominators_18 : decode cX3_distanceTimesDenominators 18 = .ok (.lsub, 1) := by decide +kernel
theorem dX3_distanceTimesDenominators_19 : decode cX3_distanceTimesDenominators 19 = .ok (.invokestatic 45, 3) := by decide +kernel
theorem dX3_distanceTimesDenominators_22 : decode cX3_distanceTimesDenominators 22 = .ok (.lreturn, 1) := by decide +kernel
theorem dX4_init_0 : decode cX4_init 0 = .ok (.aload_n 0, 1) := by decide +kernel
theorem dX4_init_1 : decode cX4_init 1 = .ok (.invokespecial 3, 3) := by decide +kernel
theorem dX4_init_4 : decode cX4_init 4 = .ok (.aload_n 0, 1) := by decide +kernel
theorem dX4_init_5 : decode cX4_init 5 = .ok (.bipush 36, 2) := by decide +kernel
theorem dX4_init_7 : decode cX4_init 7 = .ok (.newarray .long, 2) := by decide +kernel
theorem dX4_init_9 : decode cX4_init 9 = .ok (.putfield 11, 3) := by decide +kernel
theorem dX4_init_12 : decode cX4_init 12 = .ok (.return_, 1) := by decide +kernel
theorem dX4_count_0 : decode cX4_count 0 = .ok (.aload_n 0, 1) := by decide +kernel
theorem dX4_count_1 : decode cX4_count 1 = .ok (.getfield 15, 3) := by decide +kernel
theorem dX4_count_4 : decode cX4_count 4 = .ok (.ireturn, 1) := by decide +kernel
theorem dX4_record_0 : decode cX4_record 0 = .ok (.aload_n 1, 1) := by decide +kernel
theorem dX4_record_1 : decode cX4_record 1 = .ok (.iconst 0, 1) := by decide +kernel
theorem dX4_record_2 : decode cX4_record 2 = .ok (.aload_n 0, 1) := by decide +kernel
theorem dX4_record_3 : decode cX4_record 3 = .ok (.getfield 11, 3) := by decide +kernel
theorem dX4_record_6 : decode cX4_record 6 = .ok (.aload_n 0, 1) := by decide +kernel
theorem dX4_record_7 : decode cX4_record 7 = .ok (.aload_n 0, 1) := by decide +kernel
theorem dX4_record_8 : decode cX4_record 8 = .ok (.getfield 15, 3) := by decide +kernel
theorem dX4_record_11 : decode cX4_record 11 = .ok (.invokevirtual 19, 3) := by decide +kernel
theorem dX4_record_14 : decode cX4_record 14 = .ok (.bipush 6, 2) := by decide +kernel
theorem dX4_record_16 : decode cX4_record 16 = .ok (.invokestatic 23, 3) := by decide +kernel
theorem dX4_record_19 : decode cX4_record 19 = .ok (.aload_n 0, 1) := by decide +kernel
theorem dX4_record_20 : decode cX4_record 20 = .ok (.getfield 15, 3) := by decide +kernel
theorem dX4_record_23 : decode cX4_record 23 = .ok (.bipush 6, 2) := by decide +kernel
theorem dX4_record_25 : decode cX4_record 25 = .ok (.if_icmp .ge 16, 3) := by decide +kernel
theorem dX4_record_28 : decode cX4_record 28 = .ok (.aload_n 0, 1) := by decide +kernel
theorem dX4_record_29 : decode cX4_record 29 = .ok (.dup, 1) := by decide +kernel
theorem dX4_record_30 : decode cX4_record 30 = .ok (.getfield 15, 3) := by decide +kernel
theorem dX4_record_33 : decode cX4_record 33 = .ok (.iconst 1, 1) := by decide +kernel
theorem dX4_record_34 : decode cX4_record 34 = .ok (.iadd, 1) := by decide +kernel
theorem dX4_record_35 : decode cX4_record 35 = .ok (.putfield 15, 3) := by decide +kernel
theorem dX4_record_38 : decode cX4_record 38 = .ok (.goto 16, 3) := by decide +kernel
theorem dX4_record_41 : decode cX4_record 41 = .ok (.aload_n 0, 1) := by decide +kernel
theorem dX4_record_42 : decode cX4_record 42 = .ok (.aload_n 0, 1) := by decide +kernel
theorem dX4_record_43 : decode cX4_record 43 = .ok (.getfield 29, 3) := by decide +kernel
theorem dX4_record_46 : decode cX4_record 46 = .ok (.iconst 1, 1) := by decide +kernel
theorem dX4_record_47 : decode cX4_record 47 = .ok (.iadd, 1) := by decide +kernel
theorem dX4_record_48 : decode cX4_record 48 = .ok (.bipush 6, 2) := by decide +kernel
theorem dX4_record_50 : decode cX4_record 50 = .ok (.irem, 1) := by decide +kernel
theorem dX4_record_51 : decode cX4_record 51 = .ok (.putfield 29, 3) := by decide +kernel
theorem dX4_record_54 : decode cX4_record 54 = .ok (.return_, 1) := by decide +kernel
theorem dX4_restore_0 : decode cX4_restore 0 = .ok (.aload_n 0, 1) := by decide +kernel
theorem dX4_restore_1 : decode cX4_restore 1 = .ok (.dup, 1) := by decide +kernel
theorem dX4_restore_2 : decode cX4_restore 2 = .ok (.getfield 15, 3) := by decide +kernel
theorem dX4_restore_5 : decode cX4_restore 5 = .ok (.iconst 1, 1) := by decide +kernel
theorem dX4_restore_6 : decode cX4_restore 6 = .ok (.isub, 1) := by decide +kernel
theorem dX4_restore_7 : decode cX4_restore 7 = .ok (.putfield 15, 3) := by decide +kernel
theorem dX4_restore_10 : decode cX4_restore 10 = .ok (.aload_n 0, 1) := by decide +kernel
theorem dX4_restore_11 : decode cX4_restore 11 = .ok (.getfield 11, 3) := by decide +kernel
theorem dX4_restore_14 : decode cX4_restore 14 = .ok (.aload_n 0, 1) := by decide +kernel
theorem dX4_restore_15 : decode cX4_restore 15 = .ok (.aload_n 0, 1) := by decide +kernel
theorem dX4_restore_16 : decode cX4_restore 16 = .ok (.getfield 15, 3) := by decide +kernel
theorem dX4_restore_19 : decode cX4_restore 19 = .ok (.invokevirtual 19, 3) := by decide +kernel
theorem dX4_restore_22 : decode cX4_restore 22 = .ok (.aload_n 1, 1) := by decide +kernel
theorem dX4_restore_23 : decode cX4_restore 23 = .ok (.iconst 0, 1) := by decide +kernel
theorem dX4_restore_24 : decode cX4_restore 24 = .ok (.bipush 6, 2) := by decide +kernel
theorem dX4_restore_26 : decode cX4_restore 26 = .ok (.invokestatic 23, 3) := by decide +kernel
theorem dX4_restore_29 : decode cX4_restore 29 = .ok (.return_, 1) := by decide +kernel
theorem dX4_startBehindOldest_0 : decode cX4_startBehindOldest 0 = .ok (.aload_n 0, 1) := by decide +kernel
theorem dX4_startBehindOldest_1 : decode cX4_startBehindOldest 1 = .ok (.getfield 29, 3) := by decide +kernel
theorem dX4_startBehindOldest_4 : decode cX4_startBehindOldest 4 = .ok (.iload_n 1, 1) := by decide +kernel
theorem dX4_startBehindOldest_5 : decode cX4_startBehindOldest 5 = .ok (.iadd, 1) := by decide +kernel
theorem dX4_startBehindOldest_6 : decode cX4_startBehindOldest 6 = .ok (.bipush 6, 2) := by decide +kernel
theorem dX4_startBehindOldest_8 : decode cX4_startBehindOldest 8 = .ok (.irem, 1) := by decide +kernel
theorem dX4_startBehindOldest_9 : decode cX4_startBehindOldest 9 = .ok (.bipush 6, 2) := by decide +kernel
theorem dX4_startBehindOldest_11 : decode cX4_startBehindOldest 11 = .ok (.imul, 1) := by decide +kernel
theorem dX4_startBehindOldest_12 : decode cX4_startBehindOldest 12 = .ok (.ireturn, 1) := by decide +kernel
theorem dX5_count_0 : decode cX5_count 0 = .ok (.iconst 0, 1) := by decide +kernel
theorem dX5_count_1 : decode cX5_count 1 = .ok (.istore_n 2, 1) := by decide +kernel
theorem dX5_count_2 : decode cX5_count 2 = .ok (.lload_n 0, 1) := by decide +kernel
theorem dX5_count_3 : decode cX5_count 3 = .ok (.iload_n 2, 1) := by decide +kernel
theorem dX5_count_4 : decode cX5_count 4 = .ok (.invokestatic 9, 3) := by decide +kernel
theorem dX5_count_7 : decode cX5_count 7 = .ok (.istore_n 3, 1) := by decide +kernel
theorem dX5_count_8 : decode cX5_count 8 = .ok (.iload_n 2, 1) := by decide +kernel
theorem dX5_count_9 : decode cX5_count 9 = .ok (.bipush 8, 2) := by decide +kernel
theorem dX5_count_11 : decode cX5_count 11 = .ok (.if_icmp .ge 19, 3) := by decide +kernel
theorem dX5_count_14 : decode cX5_count 14 = .ok (.iload_n 3, 1) := by decide +kernel
theorem dX5_count_15 : decode cX5_count 15 = .ok (.ifCond .le 15, 3) := by decide +kernel
theorem dX5_count_18 : decode cX5_count 18 = .ok (.iinc 2 1, 3) := by decide +kernel
theorem dX5_count_21 : decode cX5_count 21 = .ok (.lload_n 0, 1) := by decide +kernel
theorem dX5_count_22 : decode cX5_count 22 = .ok (.iload_n 2, 1) := by decide +kernel
theorem dX5_count_23 : decode cX5_count 23 = .ok (.invokestatic 9, 3) := by decide +kernel
theorem dX5_count_26 : decode cX5_count 26 = .ok (.istore_n 3, 1) := by decide +kernel
theorem dX5_count_27 : decode cX5_count 27 = .ok (.goto (-19), 3) := by decide +kernel
theorem dX5_count_30 : decode cX5_count 30 = .ok (.iload_n 3, 1) := by decide +kernel
theorem dX5_count_31 : decode cX5_count 31 = .ok (.ifCond .ne 7, 3) := by decide +kernel
theorem dX5_count_34 : decode cX5_count 34 = .ok (.iload_n 2, 1) := by decide +kernel
theorem dX5_count_35 : decode cX5_count 35 = .ok (.goto 4, 3) := by decide +kernel
theorem dX5_count_38 : decode cX5_count 38 = .ok (.iconst (-1), 1) := by decide +kernel
theorem dX5_count_39 : decode cX5_count 39 = .ok (.ireturn, 1) := by decide +kernel
theorem dX5_unit_0 : decode cX5_unit 0 = .ok (.lload_n 0, 1) := by decide +kernel
theorem dX5_unit_1 : decode cX5_unit 1 = .ok (.invokestatic 15, 3) := by decide +kernel
theorem dX5_unit_4 : decode cX5_unit 4 = .ok (.lstore_n 3, 1) := by decide +kernel
theorem dX5_unit_5 : decode cX5_unit 5 = .ok (.lload_n 0, 1) := by decide +kernel
theorem dX5_unit_6 : decode cX5_unit 6 = .ok (.invokestatic 21, 3) := by decide +kernel
theorem dX5_unit_9 : decode cX5_unit 9 = .ok (.lstore 5, 2) := by decide +kernel
theorem dX5_unit_11 : decode cX5_unit 11 = .ok (.iconst 0, 1) := by decide +kernel
theorem dX5_unit_12 : decode cX5_unit 12 = .ok (.istore 7, 2) := by decide +kernel
theorem dX5_unit_14 : decode cX5_unit 14 = .ok (.iload 7, 2) := by decide +kernel
theorem dX5_unit_16 : decode cX5_unit 16 = .ok (.bipush 8, 2) := by decide +kernel
theorem dX5_unit_18 : decode cX5_unit 18 = .ok (.if_icmp .ge 78, 3) := by decide +kernel
theorem dX5_unit_21 : decode cX5_unit 21 = .ok (.lload_n 3, 1) := by decide +kernel
theorem dX5_unit_22 : decode cX5_unit 22 = .ok (.lconst 0, 1) := by decide +kernel
theorem dX5_unit_23 : decode cX5_unit 23 = .ok (.lcmp, 1) := by decide +kernel
theorem dX5_unit_24 : decode cX5_unit 24 = .ok (.ifCond .le 72, 3) := by decide +kernel
theorem dX5_unit_27 : decode cX5_unit 27 = .ok (.lload 5, 2) := by decide +kernel
theorem dX5_unit_29 : decode cX5_unit 29 = .ok (.lload_n 3, 1) := by decide +kernel
theorem dX5_unit_30 : decode cX5_unit 30 = .ok (.ladd, 1) := by decide +kernel
theorem dX5_unit_31 : decode cX5_unit 31 = .ok (.lconst 1, 1) := by decide +kernel
theorem dX5_unit_32 : decode cX5_unit 32 = .ok (.lsub, 1) := by decide +kernel
theorem dX5_unit_33 : decode cX5_unit 33 = .ok (.lload_n 3, 1) := by decide +kernel
theorem dX5_unit_34 : decode cX5_unit 34 = .ok (.ldiv, 1) := by decide +kernel
theorem dX5_unit_35 : decode cX5_unit 35 = .ok (.lstore 8, 2) := by decide +kernel
theorem dX5_unit_37 : decode cX5_unit 37 = .ok (.lload 8, 2) := by decide +kernel
theorem dX5_unit_39 : decode cX5_unit 39 = .ok (.ldc2_w 24, 3) := by decide +kernel
theorem dX5_unit_42 : decode cX5_unit 42 = .ok (.lcmp, 1) := by decide +kernel
theorem dX5_unit_43 : decode cX5_unit 43 = .ok (.ifCond .le 5, 3) := by decide +kernel
theorem dX5_unit_46 : decode cX5_unit 46 = .ok (.iconst (-1), 1) := by decide +kernel
theorem dX5_unit_47 : decode cX5_unit 47 = .ok (.ireturn, 1) := by decide +kernel
theorem dX5_unit_48 : decode cX5_unit 48 = .ok (.iload 7, 2) := by decide +kernel
theorem dX5_unit_50 : decode cX5_unit 50 = .ok (.iload_n 2, 1) := by decide +kernel
theorem dX5_unit_51 : decode cX5_unit 51 = .ok (.if_icmp .ne 7, 3) := by decide +kernel
theorem dX5_unit_54 : decode cX5_unit 54 = .ok (.lload 8, 2) := by decide +kernel
theorem dX5_unit_56 : decode cX5_unit 56 = .ok (.l2i, 1) := by decide +kernel
theorem dX5_unit_57 : decode cX5_unit 57 = .ok (.ireturn, 1) := by decide +kernel
theorem dX5_unit_58 : decode cX5_unit 58 = .ok (.lload_n 3, 1) := by decide +kernel
theorem dX5_unit_59 : decode cX5_unit 59 = .ok (.lload 8, 2) := by decide +kernel
theorem dX5_unit_61 : decode cX5_unit 61 = .ok (.lmul, 1) := by decide +kernel
theorem dX5_unit_62 : decode cX5_unit 62 = .ok (.lload 5, 2) := by decide +kernel
theorem dX5_unit_64 : decode cX5_unit 64 = .ok (.lsub, 1) := by decide +kernel
theorem dX5_unit_65 : decode cX5_unit 65 = .ok (.lstore_n 3, 1) := by decide +kernel
theorem dX5_unit_66 : decode cX5_unit 66 = .ok (.lload_n 3, 1) := by decide +kernel
theorem dX5_unit_67 : decode cX5_unit 67 = .ok (.lconst 0, 1) := by decide +kernel
theorem dX5_unit_68 : decode cX5_unit 68 = .ok (.lcmp, 1) := by decide +kernel
theorem dX5_unit_69 : decode cX5_unit 69 = .ok (.ifCond .le 14, 3) := by decide +kernel
theorem dX5_unit_72 : decode cX5_unit 72 = .ok (.lload 8, 2) := by decide +kernel
theorem dX5_unit_74 : decode cX5_unit 74 = .ok (.ldc2_w 26, 3) := by decide +kernel
theorem dX5_unit_77 : decode cX5_unit 77 = .ok (.lcmp, 1) := by decide +kernel
theorem dX5_unit_78 : decode cX5_unit 78 = .ok (.ifCond .le 5, 3) := by decide +kernel
theorem dX5_unit_81 : decode cX5_unit 81 = .ok (.iconst (-1), 1) := by decide +kernel
theorem dX5_unit_82 : decode cX5_unit 82 = .ok (.ireturn, 1) := by decide +kernel
theorem dX5_unit_83 : decode cX5_unit 83 = .ok (.lload 5, 2) := by decide +kernel
theorem dX5_unit_85 : decode cX5_unit 85 = .ok (.lload 8, 2) := by decide +kernel
theorem dX5_unit_87 : decode cX5_unit 87 = .ok (.lmul, 1) := by decide +kernel
theorem dX5_unit_88 : decode cX5_unit 88 = .ok (.lstore 5, 2) := by decide +kernel
theorem dX5_unit_90 : decode cX5_unit 90 = .ok (.iinc 7 1, 3) := by decide +kernel
theorem dX5_unit_93 : decode cX5_unit 93 = .ok (.goto (-79), 3) := by decide +kernel
theorem dX5_unit_96 : decode cX5_unit 96 = .ok (.iconst 0, 1) := by decide +kernel
theorem dX5_unit_97 : decode cX5_unit 97 = .ok (.ireturn, 1) := by decide +kernel
theorem dX6_init_0 : decode cX6_init 0 = .ok (.aload_n 0, 1) := by decide +kernel
theorem dX6_init_1 : decode cX6_init 1 = .ok (.invokespecial 1, 3) := by decide +kernel
theorem dX6_init_4 : decode cX6_init 4 = .ok (.aload_n 0, 1) := by decide +kernel
theorem dX6_init_5 : decode cX6_init 5 = .ok (.bipush 6, 2) := by decide +kernel
theorem dX6_init_7 : decode cX6_init 7 = .ok (.newarray .long, 2) := by decide +kernel
theorem dX6_init_9 : decode cX6_init 9 = .ok (.putfield 9, 3) := by decide +kernel
theorem dX6_init_12 : decode cX6_init 12 = .ok (.iconst 0, 1) := by decide +kernel
theorem dX6_init_13 : decode cX6_init 13 = .ok (.istore_n 1, 1) := by decide +kernel
theorem dX6_init_14 : decode cX6_init 14 = .ok (.iload_n 1, 1) := by decide +kernel
theorem dX6_init_15 : decode cX6_init 15 = .ok (.bipush 6, 2) := by decide +kernel
theorem dX6_init_17 : decode cX6_init 17 = .ok (.if_icmp .ge 16, 3) := by decide +kernel
theorem dX6_init_20 : decode cX6_init 20 = .ok (.aload_n 0, 1) := by decide +kernel
theorem dX6_init_21 : decode cX6_init 21 = .ok (.getfield 9, 3) := by decide +kernel
theorem dX6_init_24 : decode cX6_init 24 = .ok (.iload_n 1, 1) := by decide +kernel
theorem dX6_init_25 : decode cX6_init 25 = .ok (.lconst 1, 1) := by decide +kernel
theorem dX6_init_26 : decode cX6_init 26 = .ok (.lastore, 1) := by decide +kernel
theorem dX6_init_27 : decode cX6_init 27 = .ok (.iinc 1 1, 3) := by decide +kernel
theorem dX6_init_30 : decode cX6_init 30 = .ok (.goto (-16), 3) := by decide +kernel
theorem dX6_init_33 : decode cX6_init 33 = .ok (.aload_n 0, 1) := by decide +kernel
theorem dX6_init_34 : decode cX6_init 34 = .ok (.new 15, 3) := by decide +kernel
theorem dX6_init_37 : decode cX6_init 37 = .ok (.dup, 1) := by decide +kernel
theorem dX6_init_38 : decode cX6_init 38 = .ok (.invokespecial 17, 3) := by decide +kernel
theorem dX6_init_41 : decode cX6_init 41 = .ok (.putfield 18, 3) := by decide +kernel
theorem dX6_init_44 : decode cX6_init 44 = .ok (.aload_n 0, 1) := by decide +kernel
theorem dX6_init_45 : decode cX6_init 45 = .ok (.new 22, 3) := by decide +kernel
theorem dX6_init_48 : decode cX6_init 48 = .ok (.dup, 1) := by decide +kernel
theorem dX6_init_49 : decode cX6_init 49 = .ok (.invokespecial 24, 3) := by decide +kernel
theorem dX6_init_52 : decode cX6_init 52 = .ok (.putfield 25, 3) := by decide +kernel
theorem dX6_init_55 : decode cX6_init 55 = .ok (.aload_n 0, 1) := by decide +kernel
theorem dX6_init_56 : decode cX6_init 56 = .ok (.new 29, 3) := by decide +kernel
theorem dX6_init_59 : decode cX6_init 59 = .ok (.dup, 1) := by decide +kernel
theorem dX6_init_60 : decode cX6_init 60 = .ok (.invokespecial 31, 3) := by decide +kernel
theorem dX6_init_63 : decode cX6_init 63 = .ok (.putfield 32, 3) := by decide +kernel
theorem dX6_init_66 : decode cX6_init 66 = .ok (.aload_n 0, 1) := by decide +kernel
theorem dX6_init_67 : decode cX6_init 67 = .ok (.new 36, 3) := by decide +kernel
theorem dX6_init_70 : decode cX6_init 70 = .ok (.dup, 1) := by decide +kernel
theorem dX6_init_71 : decode cX6_init 71 = .ok (.invokespecial 38, 3) := by decide +kernel
theorem dX6_init_74 : decode cX6_init 74 = .ok (.putfield 39, 3) := by decide +kernel
theorem dX6_init_77 : decode cX6_init 77 = .ok (.aload_n 0, 1) := by decide +kernel
theorem dX6_init_78 : decode cX6_init 78 = .ok (.bipush 12, 2) := by decide +kernel
theorem dX6_init_80 : decode cX6_init 80 = .ok (.newarray .long, 2) := by decide +kernel
theorem dX6_init_82 : decode cX6_init 82 = .ok (.putfield 43, 3) := by decide +kernel
theorem dX6_init_85 : decode cX6_init 85 = .ok (.aload_n 0, 1) := by decide +kernel
theorem dX6_init_86 : decode cX6_init 86 = .ok (.iconst 2, 1) := by decide +kernel
theorem dX6_init_87 : decode cX6_init 87 = .ok (.newarray .boolean, 2) := by decide +kernel
theorem dX6_init_89 : decode cX6_init 89 = .ok (.putfield 46, 3) := by decide +kernel
theorem dX6_init_92 : decode cX6_init 92 = .ok (.return_, 1) := by decide +kernel
theorem dX6_set_0 : decode cX6_set 0 = .ok (.iload_n 1, 1) := by decide +kernel
theorem dX6_set_1 : decode cX6_set 1 = .ok (.invokestatic 50, 3) := by decide +kernel
theorem dX6_set_4 : decode cX6_set 4 = .ok (.iload_n 2, 1) := by decide +kernel
theorem dX6_set_5 : decode cX6_set 5 = .ok (.ifCond .lt 9, 3) := by decide +kernel
theorem dX6_set_8 : decode cX6_set 8 = .ok (.iload_n 2, 1) := by decide +kernel
theorem dX6_set_9 : decode cX6_set 9 = .ok (.ldc 54, 2) := by decide +kernel
theorem dX6_set_11 : decode cX6_set 11 = .ok (.if_icmp .le 13, 3) := by decide +kernel
theorem dX6_set_14 : decode cX6_set 14 = .ok (.new 55, 3) := by decide +kernel
theorem dX6_set_17 : decode cX6_set 17 = .ok (.dup, 1) := by decide +kernel
theorem dX6_set_18 : decode cX6_set 18 = .ok (.ldc 57, 2) := by decide +kernel
theorem dX6_set_20 : decode cX6_set 20 = .ok (.invokespecial 59, 3) := by decide +kernel
theorem dX6_set_23 : decode cX6_set 23 = .ok (.athrow, 1) := by decide +kernel
theorem dX6_set_24 : decode cX6_set 24 = .ok (.iload_n 3, 1) := by decide +kernel
theorem dX6_set_25 : decode cX6_set 25 = .ok (.iconst 1, 1) := by decide +kernel
theorem dX6_set_26 : decode cX6_set 26 = .ok (.if_icmp .lt 9, 3) := by decide +kernel
theorem dX6_set_29 : decode cX6_set 29 = .ok (.iload_n 3, 1) := by decide +kernel
theorem dX6_set_30 : decode cX6_set 30 = .ok (.ldc 54, 2) := by decide +kernel
theorem dX6_set_32 : decode cX6_set 32 = .ok (.if_icmp .le 13, 3) := by decide +kernel
theorem dX6_set_35 : decode cX6_set 35 = .ok (.new 55, 3) := by decide +kernel
theorem dX6_set_38 : decode cX6_set 38 = .ok (.dup, 1) := by decide +kernel
theorem dX6_set_39 : decode cX6_set 39 = .ok (.ldc 62, 2) := by decide +kernel
theorem dX6_set_41 : decode cX6_set 41 = .ok (.invokespecial 59, 3) := by decide +kernel
theorem dX6_set_44 : decode cX6_set 44 = .ok (.athrow, 1) := by decide +kernel
theorem dX6_set_45 : decode cX6_set 45 = .ok (.aload_n 0, 1) := by decide +kernel
theorem dX6_set_46 : decode cX6_set 46 = .ok (.iload_n 1, 1) := by decide +kernel
theorem dX6_set_47 : decode cX6_set 47 = .ok (.iload_n 2, 1) := by decide +kernel
theorem dX6_set_48 : decode cX6_set 48 = .ok (.i2l, 1) := by decide +kernel
theorem dX6_set_49 : decode cX6_set 49 = .ok (.iload_n 3, 1) := by decide +kernel
theorem dX6_set_50 : decode cX6_set 50 = .ok (.i2l, 1) := by decide +kernel
theorem dX6_set_51 : decode cX6_set 51 = .ok (.invokestatic 64, 3) := by decide +kernel
theorem dX6_set_54 : decode cX6_set 54 = .ok (.invokevirtual 68, 3) := by decide +kernel
theorem dX6_set_57 : decode cX6_set 57 = .ok (.ireturn, 1) := by decide +kernel
theorem dX6_add_0 : decode cX6_add 0 = .ok (.iload_n 1, 1) := by decide +kernel
theorem dX6_add_1 : decode cX6_add 1 = .ok (.invokestatic 50, 3) := by decide +kernel
theorem dX6_add_4 : decode cX6_add 4 = .ok (.iload_n 2, 1) := by decide +kernel
theorem dX6_add_5 : decode cX6_add 5 = .ok (.invokestatic 50, 3) := by decide +kernel
theorem dX6_add_8 : decode cX6_add 8 = .ok (.aload_n 0, 1) := by decide +kernel
theorem dX6_add_9 : decode cX6_add 9 = .ok (.iload_n 1, 1) := by decide +kernel
theorem dX6_add_10 : decode cX6_add 10 = .ok (.aload_n 0, 1) := by decide +kernel
theorem dX6_add_11 : decode cX6_add 11 = .ok (.getfield 9, 3) := by decide +kernel
theorem dX6_add_14 : decode cX6_add 14 = .ok (.iload_n 1, 1) := by decide +kernel
theorem dX6_add_15 : decode cX6_add 15 = .ok (.laload, 1) := by decide +kernel
theorem dX6_add_16 : decode cX6_add 16 = .ok (.aload_n 0, 1) := by decide +kernel
theorem dX6_add_17 : decode cX6_add 17 = .ok (.getfield 9, 3) := by decide +kernel
theorem dX6_add_20 : decode cX6_add 20 = .ok (.iload_n 2, 1) := by decide +kernel
theorem dX6_add_21 : decode cX6_add 21 = .ok (.laload, 1) := by decide +kernel
theorem dX6_add_22 : decode cX6_add 22 = .ok (.invokestatic 72, 3) := by decide +kernel
theorem dX6_add_25 : decode cX6_add 25 = .ok (.invokevirtual 75, 3) := by decide +kernel
theorem dX6_add_28 : decode cX6_add 28 = .ok (.ireturn, 1) := by decide +kernel
theorem dX6_takeAway_0 : decode cX6_takeAway 0 = .ok (.iload_n 1, 1) := by decide +kernel
theorem dX6_takeAway_1 : decode cX6_takeAway 1 = .ok (.invokestatic 50, 3) := by decide +kernel
theorem dX6_takeAway_4 : decode cX6_takeAway 4 = .ok (.iload_n 2, 1) := by decide +kernel
theorem dX6_takeAway_5 : decode cX6_takeAway 5 = .ok (.invokestatic 50, 3) := by decide +kernel
theorem dX6_takeAway_8 : decode cX6_takeAway 8 = .ok (.aload_n 0, 1) := by decide +kernel
theorem dX6_takeAway_9 : decode cX6_takeAway 9 = .ok (.iload_n 1, 1) := by decide +kernel
theorem dX6_takeAway_10 : decode cX6_takeAway 10 = .ok (.aload_n 0, 1) := by decide +kernel
theorem dX6_takeAway_11 : decode cX6_takeAway 11 = .ok (.getfield 9, 3) := by decide +kernel
theorem dX6_takeAway_14 : decode cX6_takeAway 14 = .ok (.iload_n 1, 1) := by decide +kernel
theorem dX6_takeAway_15 : decode cX6_takeAway 15 = .ok (.laload, 1) := by decide +kernel
theorem dX6_takeAway_16 : decode cX6_takeAway 16 = .ok (.aload_n 0, 1) := by decide +kernel
theorem dX6_takeAway_17 : decode cX6_takeAway 17 = .ok (.getfield 9, 3) := by decide +kernel
theorem dX6_takeAway_20 : decode cX6_takeAway 20 = .ok (.iload_n 2, 1) := by decide +kernel
theorem dX6_takeAway_21 : decode cX6_takeAway 21 = .ok (.laload, 1) := by decide +kernel
theorem dX6_takeAway_22 : decode cX6_takeAway 22 = .ok (.invokestatic 78, 3) := by decide +kernel
theorem dX6_takeAway_25 : decode cX6_takeAway 25 = .ok (.invokevirtual 75, 3) := by decide +kernel
theorem dX6_takeAway_28 : decode cX6_takeAway 28 = .ok (.ireturn, 1) := by decide +kernel
theorem dX6_multiply_0 : decode cX6_multiply 0 = .ok (.iload_n 1, 1) := by decide +kernel
theorem dX6_multiply_1 : decode cX6_multiply 1 = .ok (.invokestatic 50, 3) := by decide +kernel
theorem dX6_multiply_4 : decode cX6_multiply 4 = .ok (.iload_n 2, 1) := by decide +kernel
theorem dX6_multiply_5 : decode cX6_multiply 5 = .ok (.invokestatic 50, 3) := by decide +kernel
theorem dX6_multiply_8 : decode cX6_multiply 8 = .ok (.aload_n 0, 1) := by decide +kernel
theorem dX6_multiply_9 : decode cX6_multiply 9 = .ok (.iload_n 1, 1) := by decide +kernel
theorem dX6_multiply_10 : decode cX6_multiply 10 = .ok (.aload_n 0, 1) := by decide +kernel
theorem dX6_multiply_11 : decode cX6_multiply 11 = .ok (.getfield 9, 3) := by decide +kernel
theorem dX6_multiply_14 : decode cX6_multiply 14 = .ok (.iload_n 1, 1) := by decide +kernel
theorem dX6_multiply_15 : decode cX6_multiply 15 = .ok (.laload, 1) := by decide +kernel
theorem dX6_multiply_16 : decode cX6_multiply 16 = .ok (.aload_n 0, 1) := by decide +kernel
theorem dX6_multiply_17 : decode cX6_multiply 17 = .ok (.getfield 9, 3) := by decide +kernel
theorem dX6_multiply_20 : decode cX6_multiply 20 = .ok (.iload_n 2, 1) := by decide +kernel
theorem dX6_multiply_21 : decode cX6_multiply 21 = .ok (.laload, 1) := by decide +kernel
theorem dX6_multiply_22 : decode cX6_multiply 22 = .ok (.invokestatic 81, 3) := by decide +kernel
theorem dX6_multiply_25 : decode cX6_multiply 25 = .ok (.invokevirtual 75, 3) := by decide +kernel
theorem dX6_multiply_28 : decode cX6_multiply 28 = .ok (.ireturn, 1) := by decide +kernel
theorem dX6_copyTo_0 : decode cX6_copyTo 0 = .ok (.iload_n 1, 1) := by decide +kernel
theorem dX6_copyTo_1 : decode cX6_copyTo 1 = .ok (.invokestatic 50, 3) := by decide +kernel
theorem dX6_copyTo_4 : decode cX6_copyTo 4 = .ok (.iload_n 2, 1) := by decide +kernel
theorem dX6_copyTo_5 : decode cX6_copyTo 5 = .ok (.invokestatic 50, 3) := by decide +kernel
theorem dX6_copyTo_8 : decode cX6_copyTo 8 = .ok (.aload_n 0, 1) := by decide +kernel
theorem dX6_copyTo_9 : decode cX6_copyTo 9 = .ok (.getfield 9, 3) := by decide +kernel
theorem dX6_copyTo_12 : decode cX6_copyTo 12 = .ok (.iload_n 2, 1) := by decide +kernel
theorem dX6_copyTo_13 : decode cX6_copyTo 13 = .ok (.laload, 1) := by decide +kernel
theorem dX6_copyTo_14 : decode cX6_copyTo 14 = .ok (.aload_n 0, 1) := by decide +kernel
theorem dX6_copyTo_15 : decode cX6_copyTo 15 = .ok (.getfield 9, 3) := by decide +kernel
theorem dX6_copyTo_18 : decode cX6_copyTo 18 = .ok (.iload_n 1, 1) := by decide +kernel
theorem dX6_copyTo_19 : decode cX6_copyTo 19 = .ok (.laload, 1) := by decide +kernel
theorem dX6_copyTo_20 : decode cX6_copyTo 20 = .ok (.lcmp, 1) := by decide +kernel
theorem dX6_copyTo_21 : decode cX6_copyTo 21 = .ok (.ifCond .ne 7, 3) := by decide +kernel
theorem dX6_copyTo_24 : decode cX6_copyTo 24 = .ok (.iconst 1, 1) := by decide +kernel
theorem dX6_copyTo_25 : decode cX6_copyTo 25 = .ok (.goto 4, 3) := by decide +kernel
theorem dX6_copyTo_28 : decode cX6_copyTo 28 = .ok (.iconst 0, 1) := by decide +kernel
theorem dX6_copyTo_29 : decode cX6_copyTo 29 = .ok (.istore_n 3, 1) := by decide +kernel
theorem dX6_copyTo_30 : decode cX6_copyTo 30 = .ok (.aload_n 0, 1) := by decide +kernel
theorem dX6_copyTo_31 : decode cX6_copyTo 31 = .ok (.iload_n 2, 1) := by decide +kernel
theorem dX6_copyTo_32 : decode cX6_copyTo 32 = .ok (.aload_n 0, 1) := by decide +kernel
theorem dX6_copyTo_33 : decode cX6_copyTo 33 = .ok (.getfield 9, 3) := by decide +kernel
theorem dX6_copyTo_36 : decode cX6_copyTo 36 = .ok (.iload_n 1, 1) := by decide +kernel
theorem dX6_copyTo_37 : decode cX6_copyTo 37 = .ok (.laload, 1) := by decide +kernel
theorem dX6_copyTo_38 : decode cX6_copyTo 38 = .ok (.invokevirtual 68, 3) := by decide +kernel
theorem dX6_copyTo_41 : decode cX6_copyTo 41 = .ok (.pop, 1) := by decide +kernel
theorem dX6_copyTo_42 : decode cX6_copyTo 42 = .ok (.iload_n 3, 1) := by decide +kernel
theorem dX6_copyTo_43 : decode cX6_copyTo 43 = .ok (.ireturn, 1) := by decide +kernel
theorem dX6_invert_0 : decode cX6_invert 0 = .ok (.aload_n 0, 1) := by decide +kernel
theorem dX6_invert_1 : decode cX6_invert 1 = .ok (.iload_n 1, 1) := by decide +kernel
theorem dX6_invert_2 : decode cX6_invert 2 = .ok (.invokevirtual 84, 3) := by decide +kernel
theorem dX6_invert_5 : decode cX6_invert 5 = .ok (.aload_n 0, 1) := by decide +kernel
theorem dX6_invert_6 : decode cX6_invert 6 = .ok (.getfield 9, 3) := by decide +kernel
theorem dX6_invert_9 : decode cX6_invert 9 = .ok (.iload_n 1, 1) := by decide +kernel
theorem dX6_invert_10 : decode cX6_invert 10 = .ok (.laload, 1) := by decide +kernel
theorem dX6_invert_11 : decode cX6_invert 11 = .ok (.lstore_n 2, 1) := by decide +kernel
theorem dX6_invert_12 : decode cX6_invert 12 = .ok (.aload_n 0, 1) := by decide +kernel
theorem dX6_invert_13 : decode cX6_invert 13 = .ok (.iload_n 1, 1) := by decide +kernel
theorem dX6_invert_14 : decode cX6_invert 14 = .ok (.lload_n 2, 1) := by decide +kernel
theorem dX6_invert_15 : decode cX6_invert 15 = .ok (.invokestatic 87, 3) := by decide +kernel
theorem dX6_invert_18 : decode cX6_invert 18 = .ok (.lload_n 2, 1) := by decide +kernel
theorem dX6_invert_19 : decode cX6_invert 19 = .ok (.invokestatic 91, 3) := by decide +kernel
theorem dX6_invert_22 : decode cX6_invert 22 = .ok (.invokestatic 64, 3) := by decide +kernel
theorem dX6_invert_25 : decode cX6_invert 25 = .ok (.invokevirtual 68, 3) := by decide +kernel
theorem dX6_invert_28 : decode cX6_invert 28 = .ok (.ireturn, 1) := by decide +kernel
theorem dX6_share_0 : decode cX6_share 0 = .ok (.iload_n 1, 1) := by decide +kernel
theorem dX6_share_1 : decode cX6_share 1 = .ok (.invokestatic 50, 3) := by decide +kernel
theorem dX6_share_4 : decode cX6_share 4 = .ok (.iload_n 2, 1) := by decide +kernel
theorem dX6_share_5 : decode cX6_share 5 = .ok (.iconst 1, 1) := by decide +kernel
theorem dX6_share_6 : decode cX6_share 6 = .ok (.if_icmp .lt 9, 3) := by decide +kernel
theorem dX6_share_9 : decode cX6_share 9 = .ok (.iload_n 2, 1) := by decide +kernel
theorem dX6_share_10 : decode cX6_share 10 = .ok (.bipush 100, 2) := by decide +kernel
theorem dX6_share_12 : decode cX6_share 12 = .ok (.if_icmp .le 13, 3) := by decide +kernel
theorem dX6_share_15 : decode cX6_share 15 = .ok (.new 55, 3) := by decide +kernel
theorem dX6_share_18 : decode cX6_share 18 = .ok (.dup, 1) := by decide +kernel
theorem dX6_share_19 : decode cX6_share 19 = .ok (.ldc 94, 2) := by decide +kernel
theorem dX6_share_21 : decode cX6_share 21 = .ok (.invokespecial 59, 3) := by decide +kernel
theorem dX6_share_24 : decode cX6_share 24 = .ok (.athrow, 1) := by decide +kernel
theorem dX6_share_25 : decode cX6_share 25 = .ok (.aload_n 0, 1) := by decide +kernel
theorem dX6_share_26 : decode cX6_share 26 = .ok (.getfield 9, 3) := by decide +kernel
theorem dX6_share_29 : decode cX6_share 29 = .ok (.iload_n 1, 1) := by decide +kernel
theorem dX6_share_30 : decode cX6_share 30 = .ok (.laload, 1) := by decide +kernel
theorem dX6_share_31 : decode cX6_share 31 = .ok (.lstore_n 3, 1) := by decide +kernel
theorem dX6_share_32 : decode cX6_share 32 = .ok (.aload_n 0, 1) := by decide +kernel
theorem dX6_share_33 : decode cX6_share 33 = .ok (.iload_n 1, 1) := by decide +kernel
theorem dX6_share_34 : decode cX6_share 34 = .ok (.lload_n 3, 1) := by decide +kernel
theorem dX6_share_35 : decode cX6_share 35 = .ok (.invokestatic 91, 3) := by decide +kernel
theorem dX6_share_38 : decode cX6_share 38 = .ok (.lload_n 3, 1) := by decide +kernel
theorem dX6_share_39 : decode cX6_share 39 = .ok (.invokestatic 87, 3) := by decide +kernel
theorem dX6_share_42 : decode cX6_share 42 = .ok (.iload_n 2, 1) := by decide +kernel
theorem dX6_share_43 : decode cX6_share 43 = .ok (.i2l, 1) := by decide +kernel
theorem dX6_share_44 : decode cX6_share 44 = .ok (.lmul, 1) := by decide +kernel
theorem dX6_share_45 : decode cX6_share 45 = .ok (.invokestatic 64, 3) := by decide +kernel
theorem dX6_share_48 : decode cX6_share 48 = .ok (.invokevirtual 75, 3) := by decide +kernel
theorem dX6_share_51 : decode cX6_share 51 = .ok (.ireturn, 1) := by decide +kernel
theorem dX6_roundTo_0 : decode cX6_roundTo 0 = .ok (.aload_n 0, 1) := by decide +kernel
theorem dX6_roundTo_1 : decode cX6_roundTo 1 = .ok (.iload_n 1, 1) := by decide +kernel
theorem dX6_roundTo_2 : decode cX6_roundTo 2 = .ok (.aload_n 0, 1) := by decide +kernel
theorem dX6_roundTo_3 : decode cX6_roundTo 3 = .ok (.iload_n 1, 1) := by decide +kernel
theorem dX6_roundTo_4 : decode cX6_roundTo 4 = .ok (.iload_n 2, 1) := by decide +kernel
theorem dX6_roundTo_5 : decode cX6_roundTo 5 = .ok (.invokevirtual 96, 3) := by decide +kernel
theorem dX6_roundTo_8 : decode cX6_roundTo 8 = .ok (.invokevirtual 68, 3) := by decide +kernel
theorem dX6_roundTo_11 : decode cX6_roundTo 11 = .ok (.ireturn, 1) := by decide +kernel
theorem dX6_numeratorOf_0 : decode cX6_numeratorOf 0 = .ok (.iload_n 1, 1) := by decide +kernel
theorem dX6_numeratorOf_1 : decode cX6_numeratorOf 1 = .ok (.invokestatic 50, 3) := by decide +kernel
theorem dX6_numeratorOf_4 : decode cX6_numeratorOf 4 = .ok (.aload_n 0, 1) := by decide +kernel
theorem dX6_numeratorOf_5 : decode cX6_numeratorOf 5 = .ok (.getfield 9, 3) := by decide +kernel
theorem dX6_numeratorOf_8 : decode cX6_numeratorOf 8 = .ok (.iload_n 1, 1) := by decide +kernel
theorem dX6_numeratorOf_9 : decode cX6_numeratorOf 9 = .ok (.laload, 1) := by decide +kernel
theorem dX6_numeratorOf_10 : decode cX6_numeratorOf 10 = .ok (.invokestatic 91, 3) := by decide +kernel
theorem dX6_numeratorOf_13 : decode cX6_numeratorOf 13 = .ok (.l2i, 1) := by decide +kernel
theorem dX6_numeratorOf_14 : decode cX6_numeratorOf 14 = .ok (.ireturn, 1) := by decide +kernel
theorem dX6_denominatorOf_0 : decode cX6_denominatorOf 0 = .ok (.iload_n 1, 1) := by decide +kernel
theorem dX6_denominatorOf_1 : decode cX6_denominatorOf 1 = .ok (.invokestatic 50, 3) := by decide +kernel
theorem dX6_denominatorOf_4 : decode cX6_denominatorOf 4 = .ok (.aload_n 0, 1) := by decide +kernel
theorem dX6_denominatorOf_5 : decode cX6_denominatorOf 5 = .ok (.getfield 9, 3) := by decide +kernel
theorem dX6_denominatorOf_8 : decode cX6_denominatorOf 8 = .ok (.iload_n 1, 1) := by decide +kernel
theorem dX6_denominatorOf_9 : decode cX6_denominatorOf 9 = .ok (.laload, 1) := by decide +kernel
theorem dX6_denominatorOf_10 : decode cX6_denominatorOf 10 = .ok (.invokestatic 87, 3) := by decide +kernel
theorem dX6_denominatorOf_13 : decode cX6_denominatorOf 13 = .ok (.l2i, 1) := by decide +kernel
theorem dX6_denominatorOf_14 : decode cX6_denominatorOf 14 = .ok (.ireturn, 1) := by decide +kernel
theorem dX6_compare_0 : decode cX6_compare 0 = .ok (.iload_n 1, 1) := by decide +kernel
theorem dX6_compare_1 : decode cX6_compare 1 = .ok (.invokestatic 50, 3) := by decide +kernel
theorem dX6_compare_4 : decode cX6_compare 4 = .ok (.iload_n 2, 1) := by decide +kernel
theorem dX6_compare_5 : decode cX6_compare 5 = .ok (.invokestatic 50, 3) := by decide +kernel
theorem dX6_compare_8 : decode cX6_compare 8 = .ok (.aload_n 0, 1) := by decide +kernel
theorem dX6_compare_9 : decode cX6_compare 9 = .ok (.getfield 9, 3) := by decide +kernel
theorem dX6_compare_12 : decode cX6_compare 12 = .ok (.iload_n 1, 1) := by decide +kernel
theorem dX6_compare_13 : decode cX6_compare 13 = .ok (.laload, 1) := by decide +kernel
theorem dX6_compare_14 : decode cX6_compare 14 = .ok (.aload_n 0, 1) := by decide +kernel
theorem dX6_compare_15 : decode cX6_compare 15 = .ok (.getfield 9, 3) := by decide +kernel
theorem dX6_compare_18 : decode cX6_compare 18 = .ok (.iload_n 2, 1) := by decide +kernel
theorem dX6_compare_19 : decode cX6_compare 19 = .ok (.laload, 1) := by decide +kernel
theorem dX6_compare_20 : decode cX6_compare 20 = .ok (.invokestatic 100, 3) := by decide +kernel
theorem dX6_compare_23 : decode cX6_compare 23 = .ok (.ireturn, 1) := by decide +kernel
theorem dX6_plateByAmount_0 : decode cX6_plateByAmount 0 = .ok (.iload_n 1, 1) := by decide +kernel
theorem dX6_plateByAmount_1 : decode cX6_plateByAmount 1 = .ok (.ifCond .lt 9, 3) := by decide +kernel
theorem dX6_plateByAmount_4 : decode cX6_plateByAmount 4 = .ok (.iload_n 1, 1) := by decide +kernel
theorem dX6_plateByAmount_5 : decode cX6_plateByAmount 5 = .ok (.bipush 6, 2) := by decide +kernel
theorem dX6_plateByAmount_7 : decode cX6_plateByAmount 7 = .ok (.if_icmp .lt 13, 3) := by decide +kernel
theorem dX6_plateByAmount_10 : decode cX6_plateByAmount 10 = .ok (.new 104, 3) := by decide +kernel
theorem dX6_plateByAmount_13 : decode cX6_plateByAmount 13 = .ok (.dup, 1) := by decide +kernel
theorem dX6_plateByAmount_14 : decode cX6_plateByAmount 14 = .ok (.ldc 106, 2) := by decide +kernel
theorem dX6_plateByAmount_16 : decode cX6_plateByAmount 16 = .ok (.invokespecial 108, 3) := by decide +kernel
theorem dX6_plateByAmount_19 : decode cX6_plateByAmount 19 = .ok (.athrow, 1) := by decide +kernel
theorem dX6_plateByAmount_20 : decode cX6_plateByAmount 20 = .ok (.iconst (-1), 1) := by decide +kernel
theorem dX6_plateByAmount_21 : decode cX6_plateByAmount 21 = .ok (.istore_n 2, 1) := by decide +kernel
theorem dX6_plateByAmount_22 : decode cX6_plateByAmount 22 = .ok (.iconst 0, 1) := by decide +kernel
theorem dX6_plateByAmount_23 : decode cX6_plateByAmount 23 = .ok (.istore_n 3, 1) := by decide +kernel
theorem dX6_plateByAmount_24 : decode cX6_plateByAmount 24 = .ok (.iload_n 3, 1) := by decide +kernel
theorem dX6_plateByAmount_25 : decode cX6_plateByAmount 25 = .ok (.bipush 6, 2) := by decide +kernel
theorem dX6_plateByAmount_27 : decode cX6_plateByAmount 27 = .ok (.if_icmp .ge 20, 3) := by decide +kernel
theorem dX6_plateByAmount_30 : decode cX6_plateByAmount 30 = .ok (.aload_n 0, 1) := by decide +kernel
theorem dX6_plateByAmount_31 : decode cX6_plateByAmount 31 = .ok (.iload_n 3, 1) := by decide +kernel
theorem dX6_plateByAmount_32 : decode cX6_plateByAmount 32 = .ok (.invokevirtual 109, 3) := by decide +kernel
theorem dX6_plateByAmount_35 : decode cX6_plateByAmount 35 = .ok (.iload_n 1, 1) := by decide +kernel
theorem dX6_plateByAmount_36 : decode cX6_plateByAmount 36 = .ok (.if_icmp .ne 5, 3) := by decide +kernel
theorem dX6_plateByAmount_39 : decode cX6_plateByAmount 39 = .ok (.iload_n 3, 1) := by decide +kernel
theorem dX6_plateByAmount_40 : decode cX6_plateByAmount 40 = .ok (.istore_n 2, 1) := by decide +kernel
theorem dX6_plateByAmount_41 : decode cX6_plateByAmount 41 = .ok (.iinc 3 1, 3) := by decide +kernel
theorem dX6_plateByAmount_44 : decode cX6_plateByAmount 44 = .ok (.goto (-20), 3) := by decide +kernel
theorem dX6_plateByAmount_47 : decode cX6_plateByAmount 47 = .ok (.iload_n 2, 1) := by decide +kernel
theorem dX6_plateByAmount_48 : decode cX6_plateByAmount 48 = .ok (.ireturn, 1) := by decide +kernel
theorem dX6_commonParts_0 : decode cX6_commonParts 0 = .ok (.lconst 1, 1) := by decide +kernel
theorem dX6_commonParts_1 : decode cX6_commonParts 1 = .ok (.lstore_n 1, 1) := by decide +kernel
theorem dX6_commonParts_2 : decode cX6_commonParts 2 = .ok (.iconst 0, 1) := by decide +kernel
theorem dX6_commonParts_3 : decode cX6_commonParts 3 = .ok (.istore_n 3, 1) := by decide +kernel
theorem dX6_commonParts_4 : decode cX6_commonParts 4 = .ok (.iload_n 3, 1) := by decide +kernel
theorem dX6_commonParts_5 : decode cX6_commonParts 5 = .ok (.bipush 6, 2) := by decide +kernel
theorem dX6_commonParts_7 : decode cX6_commonParts 7 = .ok (.if_icmp .ge 52, 3) := by decide +kernel
theorem dX6_commonParts_10 : decode cX6_commonParts 10 = .ok (.aload_n 0, 1) := by decide +kernel
theorem dX6_commonParts_11 : decode cX6_commonParts 11 = .ok (.getfield 9, 3) := by decide +kernel
theorem dX6_commonParts_14 : decode cX6_commonParts 14 = .ok (.iload_n 3, 1) := by decide +kernel
theorem dX6_commonParts_15 : decode cX6_commonParts 15 = .ok (.laload, 1) := by decide +kernel
theorem dX6_commonParts_16 : decode cX6_commonParts 16 = .ok (.invokestatic 87, 3) := by decide +kernel
theorem dX6_commonParts_19 : decode cX6_commonParts 19 = .ok (.lstore 4, 2) := by decide +kernel
theorem dX6_commonParts_21 : decode cX6_commonParts 21 = .ok (.lload_n 1, 1) := by decide +kernel
theorem dX6_commonParts_22 : decode cX6_commonParts 22 = .ok (.lload_n 1, 1) := by decide +kernel
theorem dX6_commonParts_23 : decode cX6_commonParts 23 = .ok (.lload 4, 2) := by decide +kernel
theorem dX6_commonParts_25 : decode cX6_commonParts 25 = .ok (.invokestatic 113, 3) := by decide +kernel
theorem dX6_commonParts_28 : decode cX6_commonParts 28 = .ok (.ldiv, 1) := by decide +kernel
theorem dX6_commonParts_29 : decode cX6_commonParts 29 = .ok (.lstore 6, 2) := by decide +kernel
theorem dX6_commonParts_31 : decode cX6_commonParts 31 = .ok (.lload 6, 2) := by decide +kernel
theorem dX6_commonParts_33 : decode cX6_commonParts 33 = .ok (.ldc2_w 116, 3) := by decide +kernel
theorem dX6_commonParts_36 : decode cX6_commonParts 36 = .ok (.lload 4, 2) := by decide +kernel
theorem dX6_commonParts_38 : decode cX6_commonParts 38 = .ok (.ldiv, 1) := by decide +kernel
theorem dX6_commonParts_39 : decode cX6_commonParts 39 = .ok (.lcmp, 1) := by decide +kernel
theorem dX6_commonParts_40 : decode cX6_commonParts 40 = .ok (.ifCond .le 7, 3) := by decide +kernel
theorem dX6_commonParts_43 : decode cX6_commonParts 43 = .ok (.ldc2_w 118, 3) := by decide +kernel
theorem dX6_commonParts_46 : decode cX6_commonParts 46 = .ok (.lreturn, 1) := by decide +kernel
theorem dX6_commonParts_47 : decode cX6_commonParts 47 = .ok (.lload 6, 2) := by decide +kernel
theorem dX6_commonParts_49 : decode cX6_commonParts 49 = .ok (.lload 4, 2) := by decide +kernel
theorem dX6_commonParts_51 : decode cX6_commonParts 51 = .ok (.lmul, 1) := by decide +kernel
theorem dX6_commonParts_52 : decode cX6_commonParts 52 = .ok (.lstore_n 1, 1) := by decide +kernel
theorem dX6_commonParts_53 : decode cX6_commonParts 53 = .ok (.iinc 3 1, 3) := by decide +kernel
theorem dX6_commonParts_56 : decode cX6_commonParts 56 = .ok (.goto (-52), 3) := by decide +kernel
theorem dX6_commonParts_59 : decode cX6_commonParts 59 = .ok (.lload_n 1, 1) := by decide +kernel
theorem dX6_commonParts_60 : decode cX6_commonParts 60 = .ok (.lreturn, 1) := by decide +kernel
theorem dX6_differentFractions_0 : decode cX6_differentFractions 0 = .ok (.iconst 0, 1) := by decide +kernel
theorem dX6_differentFractions_1 : decode cX6_differentFractions 1 = .ok (.istore_n 1, 1) := by decide +kernel
theorem dX6_differentFractions_2 : decode cX6_differentFractions 2 = .ok (.iconst 0, 1) := by decide +kernel
theorem dX6_differentFractions_3 : decode cX6_differentFractions 3 = .ok (.istore_n 2, 1) := by decide +kernel
theorem dX6_differentFractions_4 : decode cX6_differentFractions 4 = .ok (.iload_n 2, 1) := by decide +kernel
theorem dX6_differentFractions_5 : decode cX6_differentFractions 5 = .ok (.bipush 6, 2) := by decide +kernel
theorem dX6_differentFractions_7 : decode cX6_differentFractions 7 = .ok (.if_icmp .ge 20, 3) := by decide +kernel
theorem dX6_differentFractions_10 : decode cX6_differentFractions 10 = .ok (.aload_n 0, 1) := by decide +kernel
theorem dX6_differentFractions_11 : decode cX6_differentFractions 11 = .ok (.iload_n 2, 1) := by decide +kernel
theorem dX6_differentFractions_12 : decode cX6_differentFractions 12 = .ok (.invokevirtual 120, 3) := by decide +kernel
theorem dX6_differentFractions_15 : decode cX6_differentFractions 15 = .ok (.ifCond .ne 6, 3) := by decide +kernel
theorem dX6_differentFractions_18 : decode cX6_differentFractions 18 = .ok (.iinc 1 1, 3) := by decide +kernel
theorem dX6_differentFractions_21 : decode cX6_differentFractions 21 = .ok (.iinc 2 1, 3) := by decide +kernel
theorem dX6_differentFractions_24 : decode cX6_differentFractions 24 = .ok (.goto (-20), 3) := by decide +kernel
theorem dX6_differentFractions_27 : decode cX6_differentFractions 27 = .ok (.iload_n 1, 1) := by decide +kernel
theorem dX6_differentFractions_28 : decode cX6_differentFractions 28 = .ok (.ireturn, 1) := by decide +kernel
theorem dX6_termCount_0 : decode cX6_termCount 0 = .ok (.iload_n 1, 1) := by decide +kernel
theorem dX6_termCount_1 : decode cX6_termCount 1 = .ok (.invokestatic 50, 3) := by decide +kernel
theorem dX6_termCount_4 : decode cX6_termCount 4 = .ok (.aload_n 0, 1) := by decide +kernel
theorem dX6_termCount_5 : decode cX6_termCount 5 = .ok (.getfield 18, 3) := by decide +kernel
theorem dX6_termCount_8 : decode cX6_termCount 8 = .ok (.aload_n 0, 1) := by decide +kernel
theorem dX6_termCount_9 : decode cX6_termCount 9 = .ok (.getfield 9, 3) := by decide +kernel
theorem dX6_termCount_12 : decode cX6_termCount 12 = .ok (.iload_n 1, 1) := by decide +kernel
theorem dX6_termCount_13 : decode cX6_termCount 13 = .ok (.laload, 1) := by decide +kernel
theorem dX6_termCount_14 : decode cX6_termCount 14 = .ok (.invokevirtual 124, 3) := by decide +kernel
theorem dX6_termCount_17 : decode cX6_termCount 17 = .ok (.aload_n 0, 1) := by decide +kernel
theorem dX6_termCount_18 : decode cX6_termCount 18 = .ok (.getfield 18, 3) := by decide +kernel
theorem dX6_termCount_21 : decode cX6_termCount 21 = .ok (.invokevirtual 128, 3) := by decide +kernel
theorem dX6_termCount_24 : decode cX6_termCount 24 = .ok (.ireturn, 1) := by decide +kernel
theorem dX6_beginningNumerator_0 : decode cX6_beginningNumerator 0 = .ok (.aload_n 0, 1) := by decide +kernel
theorem dX6_beginningNumerator_1 : decode cX6_beginningNumerator 1 = .ok (.iload_n 1, 1) := by decide +kernel
theorem dX6_beginningNumerator_2 : decode cX6_beginningNumerator 2 = .ok (.iload_n 2, 1) := by decide +kernel
theorem dX6_beginningNumerator_3 : decode cX6_beginningNumerator 3 = .ok (.invokevirtual 132, 3) := by decide +kernel
theorem dX6_beginningNumerator_6 : decode cX6_beginningNumerator 6 = .ok (.aload_n 0, 1) := by decide +kernel
theorem dX6_beginningNumerator_7 : decode cX6_beginningNumerator 7 = .ok (.getfield 18, 3) := by decide +kernel
theorem dX6_beginningNumerator_10 : decode cX6_beginningNumerator 10 = .ok (.iload_n 2, 1) := by decide +kernel
theorem dX6_beginningNumerator_11 : decode cX6_beginningNumerator 11 = .ok (.invokevirtual 139, 3) := by decide +kernel
theorem dX6_beginningNumerator_14 : decode cX6_beginningNumerator 14 = .ok (.invokestatic 91, 3) := by decide +kernel
theorem dX6_beginningNumerator_17 : decode cX6_beginningNumerator 17 = .ok (.l2i, 1) := by decide +kernel
theorem dX6_beginningNumerator_18 : decode cX6_beginningNumerator 18 = .ok (.ireturn, 1) := by decide +kernel
theorem dX6_beginningDenominator_0 : decode cX6_beginningDenominator 0 = .ok (.aload_n 0, 1) := by decide +kernel
theorem dX6_beginningDenominator_1 : decode cX6_beginningDenominator 1 = .ok (.iload_n 1, 1) := by decide +kernel
theorem dX6_beginningDenominator_2 : decode cX6_beginningDenominator 2 = .ok (.iload_n 2, 1) := by decide +kernel
theorem dX6_beginningDenominator_3 : decode cX6_beginningDenominator 3 = .ok (.invokevirtual 132, 3) := by decide +kernel
theorem dX6_beginningDenominator_6 : decode cX6_beginningDenominator 6 = .ok (.aload_n 0, 1) := by decide +kernel
theorem dX6_beginningDenominator_7 : decode cX6_beginningDenominator 7 = .ok (.getfield 18, 3) := by decide +kernel
theorem dX6_beginningDenominator_10 : decode cX6_beginningDenominator 10 = .ok (.iload_n 2, 1) := by decide +kernel
theorem dX6_beginningDenominator_11 : decode cX6_beginningDenominator 11 = .ok (.invokevirtual 139, 3) := by decide +kernel
theorem dX6_beginningDenominator_14 : decode cX6_beginningDenominator 14 = .ok (.invokestatic 87, 3) := by decide +kernel
theorem dX6_beginningDenominator_17 : decode cX6_beginningDenominator 17 = .ok (.l2i, 1) := by decide +kernel
theorem dX6_beginningDenominator_18 : decode cX6_beginningDenominator 18 = .ok (.ireturn, 1) := by decide +kernel
theorem dX6_nearestDenominator_0 : decode cX6_nearestDenominator 0 = .ok (.aload_n 0, 1) := by decide +kernel
theorem dX6_nearestDenominator_1 : decode cX6_nearestDenominator 1 = .ok (.iload_n 1, 1) := by decide +kernel
theorem dX6_nearestDenominator_2 : decode cX6_nearestDenominator 2 = .ok (.iload_n 2, 1) := by decide +kernel
theorem dX6_nearestDenominator_3 : decode cX6_nearestDenominator 3 = .ok (.invokevirtual 96, 3) := by decide +kernel
theorem dX6_nearestDenominator_6 : decode cX6_nearestDenominator 6 = .ok (.invokestatic 87, 3) := by decide +kernel
theorem dX6_nearestDenominator_9 : decode cX6_nearestDenominator 9 = .ok (.l2i, 1) := by decide +kernel
theorem dX6_nearestDenominator_10 : decode cX6_nearestDenominator 10 = .ok (.ireturn, 1) := by decide +kernel
theorem dX6_nearestByTrying_0 : decode cX6_nearestByTrying 0 = .ok (.iload_n 1, 1) := by decide +kernel
theorem dX6_nearestByTrying_1 : decode cX6_nearestByTrying 1 = .ok (.invokestatic 50, 3) := by decide +kernel
theorem dX6_nearestByTrying_4 : decode cX6_nearestByTrying 4 = .ok (.iload_n 2, 1) := by decide +kernel
theorem dX6_nearestByTrying_5 : decode cX6_nearestByTrying 5 = .ok (.invokestatic 143, 3) := by decide +kernel
theorem dX6_nearestByTrying_8 : decode cX6_nearestByTrying 8 = .ok (.aload_n 0, 1) := by decide +kernel
theorem dX6_nearestByTrying_9 : decode cX6_nearestByTrying 9 = .ok (.getfield 9, 3) := by decide +kernel
theorem dX6_nearestByTrying_12 : decode cX6_nearestByTrying 12 = .ok (.iload_n 1, 1) := by decide +kernel
theorem dX6_nearestByTrying_13 : decode cX6_nearestByTrying 13 = .ok (.laload, 1) := by decide +kernel
theorem dX6_nearestByTrying_14 : decode cX6_nearestByTrying 14 = .ok (.iload_n 2, 1) := by decide +kernel
theorem dX6_nearestByTrying_15 : decode cX6_nearestByTrying 15 = .ok (.invokestatic 146, 3) := by decide +kernel
theorem dX6_nearestByTrying_18 : decode cX6_nearestByTrying 18 = .ok (.ireturn, 1) := by decide +kernel
theorem dX6_nearestNumerator_0 : decode cX6_nearestNumerator 0 = .ok (.aload_n 0, 1) := by decide +kernel
theorem dX6_nearestNumerator_1 : decode cX6_nearestNumerator 1 = .ok (.iload_n 1, 1) := by decide +kernel
theorem dX6_nearestNumerator_2 : decode cX6_nearestNumerator 2 = .ok (.iload_n 2, 1) := by decide +kernel
theorem dX6_nearestNumerator_3 : decode cX6_nearestNumerator 3 = .ok (.invokevirtual 96, 3) := by decide +kernel
theorem dX6_nearestNumerator_6 : decode cX6_nearestNumerator 6 = .ok (.invokestatic 91, 3) := by decide +kernel
theorem dX6_nearestNumerator_9 : decode cX6_nearestNumerator 9 = .ok (.l2i, 1) := by decide +kernel
theorem dX6_nearestNumerator_10 : decode cX6_nearestNumerator 10 = .ok (.ireturn, 1) := by decide +kernel
theorem dX6_unitCount_0 : decode cX6_unitCount 0 = .ok (.iload_n 1, 1) := by decide +kernel
theorem dX6_unitCount_1 : decode cX6_unitCount 1 = .ok (.invokestatic 50, 3) := by decide +kernel
theorem dX6_unitCount_4 : decode cX6_unitCount 4 = .ok (.aload_n 0, 1) := by decide +kernel
theorem dX6_unitCount_5 : decode cX6_unitCount 5 = .ok (.iload_n 1, 1) := by decide +kernel
theorem dX6_unitCount_6 : decode cX6_unitCount 6 = .ok (.invokevirtual 150, 3) := by decide +kernel
theorem dX6_unitCount_9 : decode cX6_unitCount 9 = .ok (.aload_n 0, 1) := by decide +kernel
theorem dX6_unitCount_10 : decode cX6_unitCount 10 = .ok (.getfield 9, 3) := by decide +kernel
theorem dX6_unitCount_13 : decode cX6_unitCount 13 = .ok (.iload_n 1, 1) := by decide +kernel
theorem dX6_unitCount_14 : decode cX6_unitCount 14 = .ok (.laload, 1) := by decide +kernel
theorem dX6_unitCount_15 : decode cX6_unitCount 15 = .ok (.invokestatic 153, 3) := by decide +kernel
theorem dX6_unitCount_18 : decode cX6_unitCount 18 = .ok (.ireturn, 1) := by decide +kernel
theorem dX6_beginsRight_0 : decode cX6_beginsRight 0 = .ok (.aload_n 0, 1) := by decide +kernel
theorem dX6_beginsRight_1 : decode cX6_beginsRight 1 = .ok (.iload_n 1, 1) := by decide +kernel
theorem dX6_beginsRight_2 : decode cX6_beginsRight 2 = .ok (.invokevirtual 84, 3) := by decide +kernel
theorem dX6_beginsRight_5 : decode cX6_beginsRight 5 = .ok (.aload_n 0, 1) := by decide +kernel
theorem dX6_beginsRight_6 : decode cX6_beginsRight 6 = .ok (.getfield 9, 3) := by decide +kernel
theorem dX6_beginsRight_9 : decode cX6_beginsRight 9 = .ok (.iload_n 1, 1) := by decide +kernel
theorem dX6_beginsRight_10 : decode cX6_beginsRight 10 = .ok (.laload, 1) := by decide +kernel
theorem dX6_beginsRight_11 : decode cX6_beginsRight 11 = .ok (.ldc2_w 166, 3) := by decide +kernel
theorem dX6_beginsRight_14 : decode cX6_beginsRight 14 = .ok (.invokestatic 100, 3) := by decide +kernel
theorem dX6_beginsRight_17 : decode cX6_beginsRight 17 = .ok (.ifCond .le 7, 3) := by decide +kernel
theorem dX6_beginsRight_20 : decode cX6_beginsRight 20 = .ok (.iconst 1, 1) := by decide +kernel
theorem dX6_beginsRight_21 : decode cX6_beginsRight 21 = .ok (.goto 4, 3) := by decide +kernel
theorem dX6_beginsRight_24 : decode cX6_beginsRight 24 = .ok (.iconst 0, 1) := by decide +kernel
theorem dX6_beginsRight_25 : decode cX6_beginsRight 25 = .ok (.ireturn, 1) := by decide +kernel
theorem dX6_textError_0 : decode cX6_textError 0 = .ok (.aload_n 0, 1) := by decide +kernel
theorem dX6_textError_1 : decode cX6_textError 1 = .ok (.getfield 32, 3) := by decide +kernel
theorem dX6_textError_4 : decode cX6_textError 4 = .ok (.invokevirtual 191, 3) := by decide +kernel
theorem dX6_textError_7 : decode cX6_textError 7 = .ok (.iconst 0, 1) := by decide +kernel
theorem dX6_textError_8 : decode cX6_textError 8 = .ok (.istore_n 1, 1) := by decide +kernel
theorem dX6_textError_9 : decode cX6_textError 9 = .ok (.iload_n 1, 1) := by decide +kernel
theorem dX6_textError_10 : decode cX6_textError 10 = .ok (.aload_n 0, 1) := by decide +kernel
theorem dX6_textError_11 : decode cX6_textError 11 = .ok (.getfield 25, 3) := by decide +kernel
theorem dX6_textError_14 : decode cX6_textError 14 = .ok (.invokevirtual 185, 3) := by decide +kernel
theorem dX6_textError_17 : decode cX6_textError 17 = .ok (.if_icmp .ge 29, 3) := by decide +kernel
theorem dX6_textError_20 : decode cX6_textError 20 = .ok (.aload_n 0, 1) := by decide +kernel
theorem dX6_textError_21 : decode cX6_textError 21 = .ok (.getfield 32, 3) := by decide +kernel
theorem dX6_textError_24 : decode cX6_textError 24 = .ok (.aload_n 0, 1) := by decide +kernel
theorem dX6_textError_25 : decode cX6_textError 25 = .ok (.getfield 25, 3) := by decide +kernel
theorem dX6_textError_28 : decode cX6_textError 28 = .ok (.iload_n 1, 1) := by decide +kernel
theorem dX6_textError_29 : decode cX6_textError 29 = .ok (.invokevirtual 194, 3) := by decide +kernel
theorem dX6_textError_32 : decode cX6_textError 32 = .ok (.invokevirtual 198, 3) := by decide +kernel
theorem dX6_textError_35 : decode cX6_textError 35 = .ok (.ifCond .ne 5, 3) := by decide +kernel
theorem dX6_textError_38 : decode cX6_textError 38 = .ok (.iload_n 1, 1) := by decide +kernel
theorem dX6_textError_39 : decode cX6_textError 39 = .ok (.ireturn, 1) := by decide +kernel
theorem dX6_textError_40 : decode cX6_textError 40 = .ok (.iinc 1 1, 3) := by decide +kernel
theorem dX6_textError_43 : decode cX6_textError 43 = .ok (.goto (-34), 3) := by decide +kernel
theorem dX6_textError_46 : decode cX6_textError 46 = .ok (.aload_n 0, 1) := by decide +kernel
theorem dX6_textError_47 : decode cX6_textError 47 = .ok (.getfield 32, 3) := by decide +kernel
theorem dX6_textError_50 : decode cX6_textError 50 = .ok (.invokevirtual 202, 3) := by decide +kernel
theorem dX6_textError_53 : decode cX6_textError 53 = .ok (.ifCond .eq 7, 3) := by decide +kernel
theorem dX6_textError_56 : decode cX6_textError 56 = .ok (.iconst (-1), 1) := by decide +kernel
theorem dX6_textError_57 : decode cX6_textError 57 = .ok (.goto 10, 3) := by decide +kernel
theorem dX6_textError_60 : decode cX6_textError 60 = .ok (.aload_n 0, 1) := by decide +kernel
theorem dX6_textError_61 : decode cX6_textError 61 = .ok (.getfield 25, 3) := by decide +kernel
theorem dX6_textError_64 : decode cX6_textError 64 = .ok (.invokevirtual 185, 3) := by decide +kernel
theorem dX6_textError_67 : decode cX6_textError 67 = .ok (.ireturn, 1) := by decide +kernel
theorem dX6_undo_0 : decode cX6_undo 0 = .ok (.aload_n 0, 1) := by decide +kernel
theorem dX6_undo_1 : decode cX6_undo 1 = .ok (.getfield 39, 3) := by decide +kernel
theorem dX6_undo_4 : decode cX6_undo 4 = .ok (.invokevirtual 218, 3) := by decide +kernel
theorem dX6_undo_7 : decode cX6_undo 7 = .ok (.ifCond .ne 13, 3) := by decide +kernel
theorem dX6_undo_10 : decode cX6_undo 10 = .ok (.new 176, 3) := by decide +kernel
theorem dX6_undo_13 : decode cX6_undo 13 = .ok (.dup, 1) := by decide +kernel
theorem dX6_undo_14 : decode cX6_undo 14 = .ok (.ldc 219, 2) := by decide +kernel
theorem dX6_undo_16 : decode cX6_undo 16 = .ok (.invokespecial 180, 3) := by decide +kernel
theorem dX6_undo_19 : decode cX6_undo 19 = .ok (.athrow, 1) := by decide +kernel
theorem dX6_undo_20 : decode cX6_undo 20 = .ok (.aload_n 0, 1) := by decide +kernel
theorem dX6_undo_21 : decode cX6_undo 21 = .ok (.getfield 39, 3) := by decide +kernel
theorem dX6_undo_24 : decode cX6_undo 24 = .ok (.aload_n 0, 1) := by decide +kernel
theorem dX6_undo_25 : decode cX6_undo 25 = .ok (.getfield 9, 3) := by decide +kernel
theorem dX6_undo_28 : decode cX6_undo 28 = .ok (.invokevirtual 221, 3) := by decide +kernel
theorem dX6_undo_31 : decode cX6_undo 31 = .ok (.aload_n 0, 1) := by decide +kernel
theorem dX6_undo_32 : decode cX6_undo 32 = .ok (.getfield 39, 3) := by decide +kernel
theorem dX6_undo_35 : decode cX6_undo 35 = .ok (.invokevirtual 218, 3) := by decide +kernel
theorem dX6_undo_38 : decode cX6_undo 38 = .ok (.ireturn, 1) := by decide +kernel
theorem dX6_undoCount_0 : decode cX6_undoCount 0 = .ok (.aload_n 0, 1) := by decide +kernel
theorem dX6_undoCount_1 : decode cX6_undoCount 1 = .ok (.getfield 39, 3) := by decide +kernel
theorem dX6_undoCount_4 : decode cX6_undoCount 4 = .ok (.invokevirtual 218, 3) := by decide +kernel
theorem dX6_undoCount_7 : decode cX6_undoCount 7 = .ok (.ireturn, 1) := by decide +kernel
theorem dX6_isPlate_0 : decode cX6_isPlate 0 = .ok (.iload_n 0, 1) := by decide +kernel
theorem dX6_isPlate_1 : decode cX6_isPlate 1 = .ok (.ifCond .lt 13, 3) := by decide +kernel
theorem dX6_isPlate_4 : decode cX6_isPlate 4 = .ok (.iload_n 0, 1) := by decide +kernel
theorem dX6_isPlate_5 : decode cX6_isPlate 5 = .ok (.bipush 6, 2) := by decide +kernel
theorem dX6_isPlate_7 : decode cX6_isPlate 7 = .ok (.if_icmp .ge 7, 3) := by decide +kernel
theorem dX6_isPlate_10 : decode cX6_isPlate 10 = .ok (.iconst 1, 1) := by decide +kernel
theorem dX6_isPlate_11 : decode cX6_isPlate 11 = .ok (.goto 4, 3) := by decide +kernel
theorem dX6_isPlate_14 : decode cX6_isPlate 14 = .ok (.iconst 0, 1) := by decide +kernel
theorem dX6_isPlate_15 : decode cX6_isPlate 15 = .ok (.ireturn, 1) := by decide +kernel
theorem dX6_requirePlate_0 : decode cX6_requirePlate 0 = .ok (.iload_n 0, 1) := by decide +kernel
theorem dX6_requirePlate_1 : decode cX6_requirePlate 1 = .ok (.invokestatic 238, 3) := by decide +kernel
theorem dX6_requirePlate_4 : decode cX6_requirePlate 4 = .ok (.ifCond .ne 13, 3) := by decide +kernel
theorem dX6_requirePlate_7 : decode cX6_requirePlate 7 = .ok (.new 104, 3) := by decide +kernel
theorem dX6_requirePlate_10 : decode cX6_requirePlate 10 = .ok (.dup, 1) := by decide +kernel
theorem dX6_requirePlate_11 : decode cX6_requirePlate 11 = .ok (.ldc 241, 2) := by decide +kernel
theorem dX6_requirePlate_13 : decode cX6_requirePlate 13 = .ok (.invokespecial 108, 3) := by decide +kernel
theorem dX6_requirePlate_16 : decode cX6_requirePlate 16 = .ok (.athrow, 1) := by decide +kernel
theorem dX6_requirePlate_17 : decode cX6_requirePlate 17 = .ok (.return_, 1) := by decide +kernel
theorem dX6_requireNotZero_0 : decode cX6_requireNotZero 0 = .ok (.iload_n 1, 1) := by decide +kernel
theorem dX6_requireNotZero_1 : decode cX6_requireNotZero 1 = .ok (.invokestatic 50, 3) := by decide +kernel
theorem dX6_requireNotZero_4 : decode cX6_requireNotZero 4 = .ok (.aload_n 0, 1) := by decide +kernel
theorem dX6_requireNotZero_5 : decode cX6_requireNotZero 5 = .ok (.getfield 9, 3) := by decide +kernel
theorem dX6_requireNotZero_8 : decode cX6_requireNotZero 8 = .ok (.iload_n 1, 1) := by decide +kernel
theorem dX6_requireNotZero_9 : decode cX6_requireNotZero 9 = .ok (.laload, 1) := by decide +kernel
theorem dX6_requireNotZero_10 : decode cX6_requireNotZero 10 = .ok (.lconst 1, 1) := by decide +kernel
theorem dX6_requireNotZero_11 : decode cX6_requireNotZero 11 = .ok (.lcmp, 1) := by decide +kernel
theorem dX6_requireNotZero_12 : decode cX6_requireNotZero 12 = .ok (.ifCond .ne 13, 3) := by decide +kernel
theorem dX6_requireNotZero_15 : decode cX6_requireNotZero 15 = .ok (.new 176, 3) := by decide +kernel
theorem dX6_requireNotZero_18 : decode cX6_requireNotZero 18 = .ok (.dup, 1) := by decide +kernel
theorem dX6_requireNotZero_19 : decode cX6_requireNotZero 19 = .ok (.ldc 243, 2) := by decide +kernel
theorem dX6_requireNotZero_21 : decode cX6_requireNotZero 21 = .ok (.invokespecial 180, 3) := by decide +kernel
theorem dX6_requireNotZero_24 : decode cX6_requireNotZero 24 = .ok (.athrow, 1) := by decide +kernel
theorem dX6_requireNotZero_25 : decode cX6_requireNotZero 25 = .ok (.return_, 1) := by decide +kernel
theorem dX6_requireLessThanOne_0 : decode cX6_requireLessThanOne 0 = .ok (.aload_n 0, 1) := by decide +kernel
theorem dX6_requireLessThanOne_1 : decode cX6_requireLessThanOne 1 = .ok (.getfield 9, 3) := by decide +kernel
theorem dX6_requireLessThanOne_4 : decode cX6_requireLessThanOne 4 = .ok (.iload_n 1, 1) := by decide +kernel
theorem dX6_requireLessThanOne_5 : decode cX6_requireLessThanOne 5 = .ok (.laload, 1) := by decide +kernel
theorem dX6_requireLessThanOne_6 : decode cX6_requireLessThanOne 6 = .ok (.ldc2_w 166, 3) := by decide +kernel
theorem dX6_requireLessThanOne_9 : decode cX6_requireLessThanOne 9 = .ok (.invokestatic 100, 3) := by decide +kernel
theorem dX6_requireLessThanOne_12 : decode cX6_requireLessThanOne 12 = .ok (.ifCond .lt 13, 3) := by decide +kernel
theorem dX6_requireLessThanOne_15 : decode cX6_requireLessThanOne 15 = .ok (.new 176, 3) := by decide +kernel
theorem dX6_requireLessThanOne_18 : decode cX6_requireLessThanOne 18 = .ok (.dup, 1) := by decide +kernel
theorem dX6_requireLessThanOne_19 : decode cX6_requireLessThanOne 19 = .ok (.ldc 245, 2) := by decide +kernel
theorem dX6_requireLessThanOne_21 : decode cX6_requireLessThanOne 21 = .ok (.invokespecial 180, 3) := by decide +kernel
theorem dX6_requireLessThanOne_24 : decode cX6_requireLessThanOne 24 = .ok (.athrow, 1) := by decide +kernel
theorem dX6_requireLessThanOne_25 : decode cX6_requireLessThanOne 25 = .ok (.return_, 1) := by decide +kernel
theorem dX6_requireLimit_0 : decode cX6_requireLimit 0 = .ok (.iload_n 0, 1) := by decide +kernel
theorem dX6_requireLimit_1 : decode cX6_requireLimit 1 = .ok (.iconst 1, 1) := by decide +kernel
theorem dX6_requireLimit_2 : decode cX6_requireLimit 2 = .ok (.if_icmp .lt 10, 3) := by decide +kernel
theorem dX6_requireLimit_5 : decode cX6_requireLimit 5 = .ok (.iload_n 0, 1) := by decide +kernel
theorem dX6_requireLimit_6 : decode cX6_requireLimit 6 = .ok (.sipush 1000, 3) := by decide +kernel
theorem dX6_requireLimit_9 : decode cX6_requireLimit 9 = .ok (.if_icmp .le 13, 3) := by decide +kernel
theorem dX6_requireLimit_12 : decode cX6_requireLimit 12 = .ok (.new 55, 3) := by decide +kernel
theorem dX6_requireLimit_15 : decode cX6_requireLimit 15 = .ok (.dup, 1) := by decide +kernel
theorem dX6_requireLimit_16 : decode cX6_requireLimit 16 = .ok (.ldc 247, 2) := by decide +kernel
theorem dX6_requireLimit_18 : decode cX6_requireLimit 18 = .ok (.invokespecial 59, 3) := by decide +kernel
theorem dX6_requireLimit_21 : decode cX6_requireLimit 21 = .ok (.athrow, 1) := by decide +kernel
theorem dX6_requireLimit_22 : decode cX6_requireLimit 22 = .ok (.return_, 1) := by decide +kernel
theorem dX6_change_0 : decode cX6_change 0 = .ok (.aload_n 0, 1) := by decide +kernel
theorem dX6_change_1 : decode cX6_change 1 = .ok (.getfield 39, 3) := by decide +kernel
theorem dX6_change_4 : decode cX6_change 4 = .ok (.aload_n 0, 1) := by decide +kernel
theorem dX6_change_5 : decode cX6_change 5 = .ok (.getfield 9, 3) := by decide +kernel
theorem dX6_change_8 : decode cX6_change 8 = .ok (.invokevirtual 211, 3) := by decide +kernel
theorem dX6_change_11 : decode cX6_change 11 = .ok (.aload_n 0, 1) := by decide +kernel
theorem dX6_change_12 : decode cX6_change 12 = .ok (.getfield 9, 3) := by decide +kernel
theorem dX6_change_15 : decode cX6_change 15 = .ok (.iload_n 1, 1) := by decide +kernel
theorem dX6_change_16 : decode cX6_change 16 = .ok (.lload_n 2, 1) := by decide +kernel
theorem dX6_change_17 : decode cX6_change 17 = .ok (.lastore, 1) := by decide +kernel
theorem dX6_change_18 : decode cX6_change 18 = .ok (.lload_n 2, 1) := by decide +kernel
theorem dX6_change_19 : decode cX6_change 19 = .ok (.invokestatic 87, 3) := by decide +kernel
theorem dX6_change_22 : decode cX6_change 22 = .ok (.l2i, 1) := by decide +kernel
theorem dX6_change_23 : decode cX6_change 23 = .ok (.ireturn, 1) := by decide +kernel
theorem dX6_changeIfPossible_0 : decode cX6_changeIfPossible 0 = .ok (.lload_n 2, 1) := by decide +kernel
theorem dX6_changeIfPossible_1 : decode cX6_changeIfPossible 1 = .ok (.ldc2_w 118, 3) := by decide +kernel
theorem dX6_changeIfPossible_4 : decode cX6_changeIfPossible 4 = .ok (.lcmp, 1) := by decide +kernel
theorem dX6_changeIfPossible_5 : decode cX6_changeIfPossible 5 = .ok (.ifCond .ne 13, 3) := by decide +kernel
theorem dX6_changeIfPossible_8 : decode cX6_changeIfPossible 8 = .ok (.new 176, 3) := by decide +kernel
theorem dX6_changeIfPossible_11 : decode cX6_changeIfPossible 11 = .ok (.dup, 1) := by decide +kernel
theorem dX6_changeIfPossible_12 : decode cX6_changeIfPossible 12 = .ok (.ldc 251, 2) := by decide +kernel
theorem dX6_changeIfPossible_14 : decode cX6_changeIfPossible 14 = .ok (.invokespecial 180, 3) := by decide +kernel
theorem dX6_changeIfPossible_17 : decode cX6_changeIfPossible 17 = .ok (.athrow, 1) := by decide +kernel
theorem dX6_changeIfPossible_18 : decode cX6_changeIfPossible 18 = .ok (.aload_n 0, 1) := by decide +kernel
theorem dX6_changeIfPossible_19 : decode cX6_changeIfPossible 19 = .ok (.iload_n 1, 1) := by decide +kernel
theorem dX6_changeIfPossible_20 : decode cX6_changeIfPossible 20 = .ok (.lload_n 2, 1) := by decide +kernel
theorem dX6_changeIfPossible_21 : decode cX6_changeIfPossible 21 = .ok (.invokevirtual 68, 3) := by decide +kernel
theorem dX6_changeIfPossible_24 : decode cX6_changeIfPossible 24 = .ok (.ireturn, 1) := by decide +kernel
theorem dX6_platesAhead_0 : decode cX6_platesAhead 0 = .ok (.iconst 0, 1) := by decide +kernel
theorem dX6_platesAhead_1 : decode cX6_platesAhead 1 = .ok (.istore_n 2, 1) := by decide +kernel
theorem dX6_platesAhead_2 : decode cX6_platesAhead 2 = .ok (.iconst 0, 1) := by decide +kernel
theorem dX6_platesAhead_3 : decode cX6_platesAhead 3 = .ok (.istore_n 3, 1) := by decide +kernel
theorem dX6_platesAhead_4 : decode cX6_platesAhead 4 = .ok (.iload_n 3, 1) := by decide +kernel
theorem dX6_platesAhead_5 : decode cX6_platesAhead 5 = .ok (.bipush 6, 2) := by decide +kernel
theorem dX6_platesAhead_7 : decode cX6_platesAhead 7 = .ok (.if_icmp .ge 44, 3) := by decide +kernel
theorem dX6_platesAhead_10 : decode cX6_platesAhead 10 = .ok (.aload_n 0, 1) := by decide +kernel
theorem dX6_platesAhead_11 : decode cX6_platesAhead 11 = .ok (.getfield 9, 3) := by decide +kernel
theorem dX6_platesAhead_14 : decode cX6_platesAhead 14 = .ok (.iload_n 3, 1) := by decide +kernel
theorem dX6_platesAhead_15 : decode cX6_platesAhead 15 = .ok (.laload, 1) := by decide +kernel
theorem dX6_platesAhead_16 : decode cX6_platesAhead 16 = .ok (.aload_n 0, 1) := by decide +kernel
theorem dX6_platesAhead_17 : decode cX6_platesAhead 17 = .ok (.getfield 9, 3) := by decide +kernel
theorem dX6_platesAhead_20 : decode cX6_platesAhead 20 = .ok (.iload_n 1, 1) := by decide +kernel
theorem dX6_platesAhead_21 : decode cX6_platesAhead 21 = .ok (.laload, 1) := by decide +kernel
theorem dX6_platesAhead_22 : decode cX6_platesAhead 22 = .ok (.invokestatic 100, 3) := by decide +kernel
theorem dX6_platesAhead_25 : decode cX6_platesAhead 25 = .ok (.istore 4, 2) := by decide +kernel
theorem dX6_platesAhead_27 : decode cX6_platesAhead 27 = .ok (.iload 4, 2) := by decide +kernel
theorem dX6_platesAhead_29 : decode cX6_platesAhead 29 = .ok (.ifCond .gt 13, 3) := by decide +kernel
theorem dX6_platesAhead_32 : decode cX6_platesAhead 32 = .ok (.iload 4, 2) := by decide +kernel
theorem dX6_platesAhead_34 : decode cX6_platesAhead 34 = .ok (.ifCond .ne 11, 3) := by decide +kernel
theorem dX6_platesAhead_37 : decode cX6_platesAhead 37 = .ok (.iload_n 3, 1) := by decide +kernel
theorem dX6_platesAhead_38 : decode cX6_platesAhead 38 = .ok (.iload_n 1, 1) := by decide +kernel
theorem dX6_platesAhead_39 : decode cX6_platesAhead 39 = .ok (.if_icmp .ge 6, 3) := by decide +kernel
theorem dX6_platesAhead_42 : decode cX6_platesAhead 42 = .ok (.iinc 2 1, 3) := by decide +kernel
theorem dX6_platesAhead_45 : decode cX6_platesAhead 45 = .ok (.iinc 3 1, 3) := by decide +kernel
theorem dX6_platesAhead_48 : decode cX6_platesAhead 48 = .ok (.goto (-44), 3) := by decide +kernel
theorem dX6_platesAhead_51 : decode cX6_platesAhead 51 = .ok (.iload_n 2, 1) := by decide +kernel
theorem dX6_platesAhead_52 : decode cX6_platesAhead 52 = .ok (.ireturn, 1) := by decide +kernel
theorem dX6_isOnLowerPlate_0 : decode cX6_isOnLowerPlate 0 = .ok (.iconst 0, 1) := by decide +kernel
theorem dX6_isOnLowerPlate_1 : decode cX6_isOnLowerPlate 1 = .ok (.istore_n 2, 1) := by decide +kernel
theorem dX6_isOnLowerPlate_2 : decode cX6_isOnLowerPlate 2 = .ok (.iload_n 2, 1) := by decide +kernel
theorem dX6_isOnLowerPlate_3 : decode cX6_isOnLowerPlate 3 = .ok (.iload_n 1, 1) := by decide +kernel
theorem dX6_isOnLowerPlate_4 : decode cX6_isOnLowerPlate 4 = .ok (.if_icmp .ge 27, 3) := by decide +kernel
theorem dX6_isOnLowerPlate_7 : decode cX6_isOnLowerPlate 7 = .ok (.aload_n 0, 1) := by decide +kernel
theorem dX6_isOnLowerPlate_8 : decode cX6_isOnLowerPlate 8 = .ok (.getfield 9, 3) := by decide +kernel
theorem dX6_isOnLowerPlate_11 : decode cX6_isOnLowerPlate 11 = .ok (.iload_n 2, 1) := by decide +kernel
theorem dX6_isOnLowerPlate_12 : decode cX6_isOnLowerPlate 12 = .ok (.laload, 1) := by decide +kernel
theorem dX6_isOnLowerPlate_13 : decode cX6_isOnLowerPlate 13 = .ok (.aload_n 0, 1) := by decide +kernel
theorem dX6_isOnLowerPlate_14 : decode cX6_isOnLowerPlate 14 = .ok (.getfield 9, 3) := by decide +kernel
theorem dX6_isOnLowerPlate_17 : decode cX6_isOnLowerPlate 17 = .ok (.iload_n 1, 1) := by decide +kernel
theorem dX6_isOnLowerPlate_18 : decode cX6_isOnLowerPlate 18 = .ok (.laload, 1) := by decide +kernel
theorem dX6_isOnLowerPlate_19 : decode cX6_isOnLowerPlate 19 = .ok (.lcmp, 1) := by decide +kernel
theorem dX6_isOnLowerPlate_20 : decode cX6_isOnLowerPlate 20 = .ok (.ifCond .ne 5, 3) := by decide +kernel
theorem dX6_isOnLowerPlate_23 : decode cX6_isOnLowerPlate 23 = .ok (.iconst 1, 1) := by decide +kernel
theorem dX6_isOnLowerPlate_24 : decode cX6_isOnLowerPlate 24 = .ok (.ireturn, 1) := by decide +kernel
theorem dX6_isOnLowerPlate_25 : decode cX6_isOnLowerPlate 25 = .ok (.iinc 2 1, 3) := by decide +kernel
theorem dX6_isOnLowerPlate_28 : decode cX6_isOnLowerPlate 28 = .ok (.goto (-26), 3) := by decide +kernel
theorem dX6_isOnLowerPlate_31 : decode cX6_isOnLowerPlate 31 = .ok (.iconst 0, 1) := by decide +kernel
theorem dX6_isOnLowerPlate_32 : decode cX6_isOnLowerPlate 32 = .ok (.ireturn, 1) := by decide +kernel
theorem dX6_expandToTerm_0 : decode cX6_expandToTerm 0 = .ok (.iload_n 1, 1) := by decide +kernel
theorem dX6_expandToTerm_1 : decode cX6_expandToTerm 1 = .ok (.invokestatic 50, 3) := by decide +kernel
theorem dX6_expandToTerm_4 : decode cX6_expandToTerm 4 = .ok (.aload_n 0, 1) := by decide +kernel
theorem dX6_expandToTerm_5 : decode cX6_expandToTerm 5 = .ok (.getfield 18, 3) := by decide +kernel
theorem dX6_expandToTerm_8 : decode cX6_expandToTerm 8 = .ok (.aload_n 0, 1) := by decide +kernel
theorem dX6_expandToTerm_9 : decode cX6_expandToTerm 9 = .ok (.getfield 9, 3) := by decide +kernel
theorem dX6_expandToTerm_12 : decode cX6_expandToTerm 12 = .ok (.iload_n 1, 1) := by decide +kernel
theorem dX6_expandToTerm_13 : decode cX6_expandToTerm 13 = .ok (.laload, 1) := by decide +kernel
theorem dX6_expandToTerm_14 : decode cX6_expandToTerm 14 = .ok (.invokevirtual 124, 3) := by decide +kernel
theorem dX6_expandToTerm_17 : decode cX6_expandToTerm 17 = .ok (.iload_n 2, 1) := by decide +kernel
theorem dX6_expandToTerm_18 : decode cX6_expandToTerm 18 = .ok (.ifCond .lt 14, 3) := by decide +kernel
theorem dX6_expandToTerm_21 : decode cX6_expandToTerm 21 = .ok (.iload_n 2, 1) := by decide +kernel
theorem dX6_expandToTerm_22 : decode cX6_expandToTerm 22 = .ok (.aload_n 0, 1) := by decide +kernel
theorem dX6_expandToTerm_23 : decode cX6_expandToTerm 23 = .ok (.getfield 18, 3) := by decide +kernel
theorem dX6_expandToTerm_26 : decode cX6_expandToTerm 26 = .ok (.invokevirtual 128, 3) := by decide +kernel
theorem dX6_expandToTerm_29 : decode cX6_expandToTerm 29 = .ok (.if_icmp .lt 13, 3) := by decide +kernel
theorem dX6_expandToTerm_32 : decode cX6_expandToTerm 32 = .ok (.new 104, 3) := by decide +kernel
theorem dX6_expandToTerm_35 : decode cX6_expandToTerm 35 = .ok (.dup, 1) := by decide +kernel
theorem dX6_expandToTerm_36 : decode cX6_expandToTerm 36 = .ok (.ldc 253, 2) := by decide +kernel
theorem dX6_expandToTerm_38 : decode cX6_expandToTerm 38 = .ok (.invokespecial 108, 3) := by decide +kernel
theorem dX6_expandToTerm_41 : decode cX6_expandToTerm 41 = .ok (.athrow, 1) := by decide +kernel
theorem dX6_expandToTerm_42 : decode cX6_expandToTerm 42 = .ok (.return_, 1) := by decide +kernel
theorem dX6_nearest_0 : decode cX6_nearest 0 = .ok (.iload_n 1, 1) := by decide +kernel
theorem dX6_nearest_1 : decode cX6_nearest 1 = .ok (.invokestatic 50, 3) := by decide +kernel
theorem dX6_nearest_4 : decode cX6_nearest 4 = .ok (.iload_n 2, 1) := by decide +kernel
theorem dX6_nearest_5 : decode cX6_nearest 5 = .ok (.invokestatic 143, 3) := by decide +kernel
theorem dX6_nearest_8 : decode cX6_nearest 8 = .ok (.aload_n 0, 1) := by decide +kernel
theorem dX6_nearest_9 : decode cX6_nearest 9 = .ok (.getfield 18, 3) := by decide +kernel
theorem dX6_nearest_12 : decode cX6_nearest 12 = .ok (.aload_n 0, 1) := by decide +kernel
theorem dX6_nearest_13 : decode cX6_nearest 13 = .ok (.getfield 9, 3) := by decide +kernel
theorem dX6_nearest_16 : decode cX6_nearest 16 = .ok (.iload_n 1, 1) := by decide +kernel
theorem dX6_nearest_17 : decode cX6_nearest 17 = .ok (.laload, 1) := by decide +kernel
theorem dX6_nearest_18 : decode cX6_nearest 18 = .ok (.invokevirtual 124, 3) := by decide +kernel
theorem dX6_nearest_21 : decode cX6_nearest 21 = .ok (.aload_n 0, 1) := by decide +kernel
theorem dX6_nearest_22 : decode cX6_nearest 22 = .ok (.getfield 18, 3) := by decide +kernel
theorem dX6_nearest_25 : decode cX6_nearest 25 = .ok (.iload_n 2, 1) := by decide +kernel
theorem dX6_nearest_26 : decode cX6_nearest 26 = .ok (.invokevirtual 255, 3) := by decide +kernel
theorem dX6_nearest_29 : decode cX6_nearest 29 = .ok (.lreturn, 1) := by decide +kernel
theorem dX6_triedDenominator_0 : decode cX6_triedDenominator 0 = .ok (.iconst 1, 1) := by decide +kernel
theorem dX6_triedDenominator_1 : decode cX6_triedDenominator 1 = .ok (.istore_n 3, 1) := by decide +kernel
theorem dX6_triedDenominator_2 : decode cX6_triedDenominator 2 = .ok (.iconst 2, 1) := by decide +kernel
theorem dX6_triedDenominator_3 : decode cX6_triedDenominator 3 = .ok (.istore 4, 2) := by decide +kernel
theorem dX6_triedDenominator_5 : decode cX6_triedDenominator 5 = .ok (.iload 4, 2) := by decide +kernel
theorem dX6_triedDenominator_7 : decode cX6_triedDenominator 7 = .ok (.iload_n 2, 1) := by decide +kernel
theorem dX6_triedDenominator_8 : decode cX6_triedDenominator 8 = .ok (.if_icmp .gt 34, 3) := by decide +kernel
theorem dX6_triedDenominator_11 : decode cX6_triedDenominator 11 = .ok (.lload_n 0, 1) := by decide +kernel
theorem dX6_triedDenominator_12 : decode cX6_triedDenominator 12 = .ok (.iload 4, 2) := by decide +kernel
theorem dX6_triedDenominator_14 : decode cX6_triedDenominator 14 = .ok (.invokestatic 257, 3) := by decide +kernel
theorem dX6_triedDenominator_17 : decode cX6_triedDenominator 17 = .ok (.iload_n 3, 1) := by decide +kernel
theorem dX6_triedDenominator_18 : decode cX6_triedDenominator 18 = .ok (.i2l, 1) := by decide +kernel
theorem dX6_triedDenominator_19 : decode cX6_triedDenominator 19 = .ok (.lmul, 1) := by decide +kernel
theorem dX6_triedDenominator_20 : decode cX6_triedDenominator 20 = .ok (.lload_n 0, 1) := by decide +kernel
theorem dX6_triedDenominator_21 : decode cX6_triedDenominator 21 = .ok (.iload_n 3, 1) := by decide +kernel
theorem dX6_triedDenominator_22 : decode cX6_triedDenominator 22 = .ok (.invokestatic 257, 3) := by decide +kernel
theorem dX6_triedDenominator_25 : decode cX6_triedDenominator 25 = .ok (.iload 4, 2) := by decide +kernel
theorem dX6_triedDenominator_27 : decode cX6_triedDenominator 27 = .ok (.i2l, 1) := by decide +kernel
theorem dX6_triedDenominator_28 : decode cX6_triedDenominator 28 = .ok (.lmul, 1) := by decide +kernel
theorem dX6_triedDenominator_29 : decode cX6_triedDenominator 29 = .ok (.lcmp, 1) := by decide +kernel
theorem dX6_triedDenominator_30 : decode cX6_triedDenominator 30 = .ok (.ifCond .ge 6, 3) := by decide +kernel
theorem dX6_triedDenominator_33 : decode cX6_triedDenominator 33 = .ok (.iload 4, 2) := by decide +kernel
theorem dX6_triedDenominator_35 : decode cX6_triedDenominator 35 = .ok (.istore_n 3, 1) := by decide +kernel
theorem dX6_triedDenominator_36 : decode cX6_triedDenominator 36 = .ok (.iinc 4 1, 3) := by decide +kernel
theorem dX6_triedDenominator_39 : decode cX6_triedDenominator 39 = .ok (.goto (-34), 3) := by decide +kernel
theorem dX6_triedDenominator_42 : decode cX6_triedDenominator 42 = .ok (.iload_n 3, 1) := by decide +kernel
theorem dX6_triedDenominator_43 : decode cX6_triedDenominator 43 = .ok (.ireturn, 1) := by decide +kernel
theorem dJ9_abs_067f4_0 : decode cJ9_abs_067f4 0 = .ok (.lload_n 0, 1) := by decide +kernel
theorem dJ9_abs_067f4_1 : decode cJ9_abs_067f4 1 = .ok (.lconst 0, 1) := by decide +kernel
theorem dJ9_abs_067f4_2 : decode cJ9_abs_067f4 2 = .ok (.lcmp, 1) := by decide +kernel
theorem dJ9_abs_067f4_3 : decode cJ9_abs_067f4 3 = .ok (.ifCond .ge 8, 3) := by decide +kernel
theorem dJ9_abs_067f4_6 : decode cJ9_abs_067f4 6 = .ok (.lload_n 0, 1) := by decide +kernel
theorem dJ9_abs_067f4_7 : decode cJ9_abs_067f4 7 = .ok (.lneg, 1) := by decide +kernel
theorem dJ9_abs_067f4_8 : decode cJ9_abs_067f4 8 = .ok (.goto 4, 3) := by decide +kernel
theorem dJ9_abs_067f4_11 : decode cJ9_abs_067f4 11 = .ok (.lload_n 0, 1) := by decide +kernel
theorem dJ9_abs_067f4_12 : decode cJ9_abs_067f4 12 = .ok (.lreturn, 1) := by decide +kernel
theorem dJ9_max_f86c9_0 : decode cJ9_max_f86c9 0 = .ok (.lload_n 0, 1) := by decide +kernel
theorem dJ9_max_f86c9_1 : decode cJ9_max_f86c9 1 = .ok (.lload_n 2, 1) := by decide +kernel
