theorem dX0_init_0 : decode cX0_init 0 = .ok (.aload_n 0, 1) := by decide +kernel
theorem dX0_init_1 : decode cX0_init 1 = .ok (.invokespecial 3, 3) := by decide +kernel
theorem dX0_init_4 : decode cX0_init 4 = .ok (.aload_n 0, 1) := by decide +kernel
theorem dX0_init_5 : decode cX0_init 5 = .ok (.iconst (-1), 1) := by decide +kernel
theorem dX0_init_6 : decode cX0_init 6 = .ok (.putfield 9, 3) := by decide +kernel
theorem dX0_init_9 : decode cX0_init 9 = .ok (.return_, 1) := by decide +kernel
theorem dX0_becomeNew_0 : decode cX0_becomeNew 0 = .ok (.aload_n 0, 1) := by decide +kernel
theorem dX0_becomeNew_1 : decode cX0_becomeNew 1 = .ok (.iload_n 1, 1) := by decide +kernel
theorem dX0_becomeNew_2 : decode cX0_becomeNew 2 = .ok (.putfield 15, 3) := by decide +kernel
theorem dX0_becomeNew_5 : decode cX0_becomeNew 5 = .ok (.aload_n 0, 1) := by decide +kernel
theorem dX0_becomeNew_6 : decode cX0_becomeNew 6 = .ok (.iload_n 2, 1) := by decide +kernel
theorem dX0_becomeNew_7 : decode cX0_becomeNew 7 = .ok (.putfield 18, 3) := by decide +kernel
theorem dX0_becomeNew_10 : decode cX0_becomeNew 10 = .ok (.aload_n 0, 1) := by decide +kernel
theorem dX0_becomeNew_11 : decode cX0_becomeNew 11 = .ok (.iload_n 3, 1) := by decide +kernel
theorem dX0_becomeNew_12 : decode cX0_becomeNew 12 = .ok (.putfield 21, 3) := by decide +kernel
theorem dX0_becomeNew_15 : decode cX0_becomeNew 15 = .ok (.aload_n 0, 1) := by decide +kernel
theorem dX0_becomeNew_16 : decode cX0_becomeNew 16 = .ok (.bipush 30, 2) := by decide +kernel
theorem dX0_becomeNew_18 : decode cX0_becomeNew 18 = .ok (.putfield 24, 3) := by decide +kernel
theorem dX0_becomeNew_21 : decode cX0_becomeNew 21 = .ok (.aload_n 0, 1) := by decide +kernel
theorem dX0_becomeNew_22 : decode cX0_becomeNew 22 = .ok (.iconst 1, 1) := by decide +kernel
theorem dX0_becomeNew_23 : decode cX0_becomeNew 23 = .ok (.putfield 27, 3) := by decide +kernel
theorem dX0_becomeNew_26 : decode cX0_becomeNew 26 = .ok (.return_, 1) := by decide +kernel
theorem dX0_becomeLike_0 : decode cX0_becomeLike 0 = .ok (.aload_n 0, 1) := by decide +kernel
theorem dX0_becomeLike_1 : decode cX0_becomeLike 1 = .ok (.aload_n 1, 1) := by decide +kernel
theorem dX0_becomeLike_2 : decode cX0_becomeLike 2 = .ok (.getfield 15, 3) := by decide +kernel
theorem dX0_becomeLike_5 : decode cX0_becomeLike 5 = .ok (.putfield 15, 3) := by decide +kernel
theorem dX0_becomeLike_8 : decode cX0_becomeLike 8 = .ok (.aload_n 0, 1) := by decide +kernel
theorem dX0_becomeLike_9 : decode cX0_becomeLike 9 = .ok (.aload_n 1, 1) := by decide +kernel
theorem dX0_becomeLike_10 : decode cX0_becomeLike 10 = .ok (.getfield 18, 3) := by decide +kernel
theorem dX0_becomeLike_13 : decode cX0_becomeLike 13 = .ok (.putfield 18, 3) := by decide +kernel
theorem dX0_becomeLike_16 : decode cX0_becomeLike 16 = .ok (.aload_n 0, 1) := by decide +kernel
theorem dX0_becomeLike_17 : decode cX0_becomeLike 17 = .ok (.aload_n 1, 1) := by decide +kernel
theorem dX0_becomeLike_18 : decode cX0_becomeLike 18 = .ok (.getfield 21, 3) := by decide +kernel
theorem dX0_becomeLike_21 : decode cX0_becomeLike 21 = .ok (.putfield 21, 3) := by decide +kernel
theorem dX0_becomeLike_24 : decode cX0_becomeLike 24 = .ok (.aload_n 0, 1) := by decide +kernel
theorem dX0_becomeLike_25 : decode cX0_becomeLike 25 = .ok (.aload_n 1, 1) := by decide +kernel
theorem dX0_becomeLike_26 : decode cX0_becomeLike 26 = .ok (.getfield 31, 3) := by decide +kernel
theorem dX0_becomeLike_29 : decode cX0_becomeLike 29 = .ok (.putfield 31, 3) := by decide +kernel
theorem dX0_becomeLike_32 : decode cX0_becomeLike 32 = .ok (.aload_n 0, 1) := by decide +kernel
theorem dX0_becomeLike_33 : decode cX0_becomeLike 33 = .ok (.aload_n 1, 1) := by decide +kernel
theorem dX0_becomeLike_34 : decode cX0_becomeLike 34 = .ok (.getfield 34, 3) := by decide +kernel
theorem dX0_becomeLike_37 : decode cX0_becomeLike 37 = .ok (.putfield 34, 3) := by decide +kernel
theorem dX0_becomeLike_40 : decode cX0_becomeLike 40 = .ok (.aload_n 0, 1) := by decide +kernel
theorem dX0_becomeLike_41 : decode cX0_becomeLike 41 = .ok (.aload_n 1, 1) := by decide +kernel
theorem dX0_becomeLike_42 : decode cX0_becomeLike 42 = .ok (.getfield 24, 3) := by decide +kernel
theorem dX0_becomeLike_45 : decode cX0_becomeLike 45 = .ok (.putfield 24, 3) := by decide +kernel
theorem dX0_becomeLike_48 : decode cX0_becomeLike 48 = .ok (.aload_n 0, 1) := by decide +kernel
theorem dX0_becomeLike_49 : decode cX0_becomeLike 49 = .ok (.aload_n 1, 1) := by decide +kernel
theorem dX0_becomeLike_50 : decode cX0_becomeLike 50 = .ok (.getfield 37, 3) := by decide +kernel
theorem dX0_becomeLike_53 : decode cX0_becomeLike 53 = .ok (.putfield 37, 3) := by decide +kernel
theorem dX0_becomeLike_56 : decode cX0_becomeLike 56 = .ok (.aload_n 0, 1) := by decide +kernel
theorem dX0_becomeLike_57 : decode cX0_becomeLike 57 = .ok (.aload_n 1, 1) := by decide +kernel
theorem dX0_becomeLike_58 : decode cX0_becomeLike 58 = .ok (.getfield 40, 3) := by decide +kernel
theorem dX0_becomeLike_61 : decode cX0_becomeLike 61 = .ok (.putfield 40, 3) := by decide +kernel
theorem dX0_becomeLike_64 : decode cX0_becomeLike 64 = .ok (.aload_n 0, 1) := by decide +kernel
theorem dX0_becomeLike_65 : decode cX0_becomeLike 65 = .ok (.aload_n 1, 1) := by decide +kernel
theorem dX0_becomeLike_66 : decode cX0_becomeLike 66 = .ok (.getfield 27, 3) := by decide +kernel
theorem dX0_becomeLike_69 : decode cX0_becomeLike 69 = .ok (.putfield 27, 3) := by decide +kernel
theorem dX0_becomeLike_72 : decode cX0_becomeLike 72 = .ok (.aload_n 0, 1) := by decide +kernel
theorem dX0_becomeLike_73 : decode cX0_becomeLike 73 = .ok (.aload_n 1, 1) := by decide +kernel
theorem dX0_becomeLike_74 : decode cX0_becomeLike 74 = .ok (.getfield 9, 3) := by decide +kernel
theorem dX0_becomeLike_77 : decode cX0_becomeLike 77 = .ok (.putfield 9, 3) := by decide +kernel
theorem dX0_becomeLike_80 : decode cX0_becomeLike 80 = .ok (.return_, 1) := by decide +kernel
theorem dX0_isAfloatAt_0 : decode cX0_isAfloatAt 0 = .ok (.aload_n 0, 1) := by decide +kernel
theorem dX0_isAfloatAt_1 : decode cX0_isAfloatAt 1 = .ok (.getfield 27, 3) := by decide +kernel
theorem dX0_isAfloatAt_4 : decode cX0_isAfloatAt 4 = .ok (.ifCond .eq 15, 3) := by decide +kernel
theorem dX0_isAfloatAt_7 : decode cX0_isAfloatAt 7 = .ok (.aload_n 0, 1) := by decide +kernel
theorem dX0_isAfloatAt_8 : decode cX0_isAfloatAt 8 = .ok (.getfield 31, 3) := by decide +kernel
theorem dX0_isAfloatAt_11 : decode cX0_isAfloatAt 11 = .ok (.iload_n 1, 1) := by decide +kernel
theorem dX0_isAfloatAt_12 : decode cX0_isAfloatAt 12 = .ok (.if_icmp .ne 7, 3) := by decide +kernel
theorem dX0_isAfloatAt_15 : decode cX0_isAfloatAt 15 = .ok (.iconst 1, 1) := by decide +kernel
theorem dX0_isAfloatAt_16 : decode cX0_isAfloatAt 16 = .ok (.goto 4, 3) := by decide +kernel
theorem dX0_isAfloatAt_19 : decode cX0_isAfloatAt 19 = .ok (.iconst 0, 1) := by decide +kernel
theorem dX0_isAfloatAt_20 : decode cX0_isAfloatAt 20 = .ok (.ireturn, 1) := by decide +kernel
theorem dX0_room_0 : decode cX0_room 0 = .ok (.aload_n 0, 1) := by decide +kernel
theorem dX0_room_1 : decode cX0_room 1 = .ok (.getfield 15, 3) := by decide +kernel
theorem dX0_room_4 : decode cX0_room 4 = .ok (.aload_n 0, 1) := by decide +kernel
theorem dX0_room_5 : decode cX0_room 5 = .ok (.getfield 40, 3) := by decide +kernel
theorem dX0_room_8 : decode cX0_room 8 = .ok (.isub, 1) := by decide +kernel
theorem dX0_room_9 : decode cX0_room 9 = .ok (.ireturn, 1) := by decide +kernel
theorem dX0_move_0 : decode cX0_move 0 = .ok (.aload_n 0, 1) := by decide +kernel
theorem dX0_move_1 : decode cX0_move 1 = .ok (.bipush 15, 2) := by decide +kernel
theorem dX0_move_3 : decode cX0_move 3 = .ok (.aload_n 0, 1) := by decide +kernel
theorem dX0_move_4 : decode cX0_move 4 = .ok (.getfield 31, 3) := by decide +kernel
theorem dX0_move_7 : decode cX0_move 7 = .ok (.iload_n 1, 1) := by decide +kernel
theorem dX0_move_8 : decode cX0_move 8 = .ok (.iadd, 1) := by decide +kernel
theorem dX0_move_9 : decode cX0_move 9 = .ok (.invokestatic 43, 3) := by decide +kernel
theorem dX0_move_12 : decode cX0_move 12 = .ok (.putfield 31, 3) := by decide +kernel
theorem dX0_move_15 : decode cX0_move 15 = .ok (.aload_n 0, 1) := by decide +kernel
theorem dX0_move_16 : decode cX0_move 16 = .ok (.getfield 34, 3) := by decide +kernel
theorem dX0_move_19 : decode cX0_move 19 = .ok (.aload_n 0, 1) := by decide +kernel
theorem dX0_move_20 : decode cX0_move 20 = .ok (.getfield 31, 3) := by decide +kernel
theorem dX0_move_23 : decode cX0_move 23 = .ok (.if_icmp .le 26, 3) := by decide +kernel
theorem dX0_move_26 : decode cX0_move 26 = .ok (.aload_n 0, 1) := by decide +kernel
theorem dX0_move_27 : decode cX0_move 27 = .ok (.aload_n 0, 1) := by decide +kernel
theorem dX0_move_28 : decode cX0_move 28 = .ok (.getfield 34, 3) := by decide +kernel
theorem dX0_move_31 : decode cX0_move 31 = .ok (.aload_n 0, 1) := by decide +kernel
theorem dX0_move_32 : decode cX0_move 32 = .ok (.getfield 31, 3) := by decide +kernel
theorem dX0_move_35 : decode cX0_move 35 = .ok (.aload_n 0, 1) := by decide +kernel
theorem dX0_move_36 : decode cX0_move 36 = .ok (.getfield 21, 3) := by decide +kernel
theorem dX0_move_39 : decode cX0_move 39 = .ok (.iadd, 1) := by decide +kernel
theorem dX0_move_40 : decode cX0_move 40 = .ok (.invokestatic 43, 3) := by decide +kernel
theorem dX0_move_43 : decode cX0_move 43 = .ok (.putfield 31, 3) := by decide +kernel
theorem dX0_move_46 : decode cX0_move 46 = .ok (.goto 23, 3) := by decide +kernel
theorem dX0_move_49 : decode cX0_move 49 = .ok (.aload_n 0, 1) := by decide +kernel
theorem dX0_move_50 : decode cX0_move 50 = .ok (.aload_n 0, 1) := by decide +kernel
theorem dX0_move_51 : decode cX0_move 51 = .ok (.getfield 34, 3) := by decide +kernel
theorem dX0_move_54 : decode cX0_move 54 = .ok (.aload_n 0, 1) := by decide +kernel
theorem dX0_move_55 : decode cX0_move 55 = .ok (.getfield 31, 3) := by decide +kernel
theorem dX0_move_58 : decode cX0_move 58 = .ok (.aload_n 0, 1) := by decide +kernel
theorem dX0_move_59 : decode cX0_move 59 = .ok (.getfield 21, 3) := by decide +kernel
theorem dX0_move_62 : decode cX0_move 62 = .ok (.isub, 1) := by decide +kernel
theorem dX0_move_63 : decode cX0_move 63 = .ok (.invokestatic 49, 3) := by decide +kernel
theorem dX0_move_66 : decode cX0_move 66 = .ok (.putfield 31, 3) := by decide +kernel
theorem dX0_move_69 : decode cX0_move 69 = .ok (.return_, 1) := by decide +kernel
set_option maxRecDepth 20000 in
theorem ggX0_wear_X0_leak : GoodIn wsX0_wear wsX0_leak := goodIn_r _ [14, 15, 1, 16, 17, 18, 19, 20, 21, 22, 23, 24, 25] (by decide +kernel) (by decide +kernel)
set_option maxRecDepth 20000 in
theorem gX0_wear_X0_leak : GoodIn wsX0_wear (wsV RX0 52 RX0 yX0_leak wsX0_leak) := goodIn_app (goodIn_of _ (by decide +kernel)) ggX0_wear_X0_leak
theorem dX0_wear_0 : decode cX0_wear 0 = .ok (.aload_n 0, 1) := by decide +kernel
theorem dX0_wear_1 : decode cX0_wear 1 = .ok (.iconst 0, 1) := by decide +kernel
theorem dX0_wear_2 : decode cX0_wear 2 = .ok (.aload_n 0, 1) := by decide +kernel
theorem dX0_wear_3 : decode cX0_wear 3 = .ok (.getfield 24, 3) := by decide +kernel
theorem dX0_wear_6 : decode cX0_wear 6 = .ok (.iconst 1, 1) := by decide +kernel
theorem dX0_wear_7 : decode cX0_wear 7 = .ok (.isub, 1) := by decide +kernel
theorem dX0_wear_8 : decode cX0_wear 8 = .ok (.invokestatic 49, 3) := by decide +kernel
theorem dX0_wear_11 : decode cX0_wear 11 = .ok (.putfield 24, 3) := by decide +kernel
theorem dX0_wear_14 : decode cX0_wear 14 = .ok (.aload_n 0, 1) := by decide +kernel
theorem dX0_wear_15 : decode cX0_wear 15 = .ok (.dup, 1) := by decide +kernel
theorem dX0_wear_16 : decode cX0_wear 16 = .ok (.getfield 37, 3) := by decide +kernel
theorem dX0_wear_19 : decode cX0_wear 19 = .ok (.aload_n 0, 1) := by decide +kernel
theorem dX0_wear_20 : decode cX0_wear 20 = .ok (.invokevirtual 52, 3) := by decide +kernel
theorem dX0_wear_23 : decode cX0_wear 23 = .ok (.iadd, 1) := by decide +kernel
theorem dX0_wear_24 : decode cX0_wear 24 = .ok (.putfield 37, 3) := by decide +kernel
theorem dX0_wear_27 : decode cX0_wear 27 = .ok (.aload_n 0, 1) := by decide +kernel
theorem dX0_wear_28 : decode cX0_wear 28 = .ok (.getfield 37, 3) := by decide +kernel
theorem dX0_wear_31 : decode cX0_wear 31 = .ok (.iconst 2, 1) := by decide +kernel
theorem dX0_wear_32 : decode cX0_wear 32 = .ok (.aload_n 0, 1) := by decide +kernel
theorem dX0_wear_33 : decode cX0_wear 33 = .ok (.getfield 15, 3) := by decide +kernel
theorem dX0_wear_36 : decode cX0_wear 36 = .ok (.imul, 1) := by decide +kernel
theorem dX0_wear_37 : decode cX0_wear 37 = .ok (.if_icmp .lt 13, 3) := by decide +kernel
theorem dX0_wear_40 : decode cX0_wear 40 = .ok (.aload_n 0, 1) := by decide +kernel
theorem dX0_wear_41 : decode cX0_wear 41 = .ok (.iconst 0, 1) := by decide +kernel
theorem dX0_wear_42 : decode cX0_wear 42 = .ok (.putfield 27, 3) := by decide +kernel
theorem dX0_wear_45 : decode cX0_wear 45 = .ok (.aload_n 0, 1) := by decide +kernel
theorem dX0_wear_46 : decode cX0_wear 46 = .ok (.iconst 0, 1) := by decide +kernel
theorem dX0_wear_47 : decode cX0_wear 47 = .ok (.putfield 40, 3) := by decide +kernel
theorem dX0_wear_50 : decode cX0_wear 50 = .ok (.return_, 1) := by decide +kernel
theorem dX0_leak_0 : decode cX0_leak 0 = .ok (.aload_n 0, 1) := by decide +kernel
theorem dX0_leak_1 : decode cX0_leak 1 = .ok (.getfield 18, 3) := by decide +kernel
theorem dX0_leak_4 : decode cX0_leak 4 = .ok (.ifCond .ne 16, 3) := by decide +kernel
theorem dX0_leak_7 : decode cX0_leak 7 = .ok (.aload_n 0, 1) := by decide +kernel
theorem dX0_leak_8 : decode cX0_leak 8 = .ok (.getfield 24, 3) := by decide +kernel
theorem dX0_leak_11 : decode cX0_leak 11 = .ok (.ifCond .ne 7, 3) := by decide +kernel
theorem dX0_leak_14 : decode cX0_leak 14 = .ok (.iconst 1, 1) := by decide +kernel
theorem dX0_leak_15 : decode cX0_leak 15 = .ok (.goto 4, 3) := by decide +kernel
theorem dX0_leak_18 : decode cX0_leak 18 = .ok (.iconst 0, 1) := by decide +kernel
theorem dX0_leak_19 : decode cX0_leak 19 = .ok (.ireturn, 1) := by decide +kernel
theorem dX0_leak_20 : decode cX0_leak 20 = .ok (.aload_n 0, 1) := by decide +kernel
theorem dX0_leak_21 : decode cX0_leak 21 = .ok (.getfield 18, 3) := by decide +kernel
theorem dX0_leak_24 : decode cX0_leak 24 = .ok (.iconst 1, 1) := by decide +kernel
theorem dX0_leak_25 : decode cX0_leak 25 = .ok (.if_icmp .ne 18, 3) := by decide +kernel
theorem dX0_leak_28 : decode cX0_leak 28 = .ok (.aload_n 0, 1) := by decide +kernel
theorem dX0_leak_29 : decode cX0_leak 29 = .ok (.getfield 24, 3) := by decide +kernel
theorem dX0_leak_32 : decode cX0_leak 32 = .ok (.bipush 8, 2) := by decide +kernel
theorem dX0_leak_34 : decode cX0_leak 34 = .ok (.if_icmp .ge 7, 3) := by decide +kernel
theorem dX0_leak_37 : decode cX0_leak 37 = .ok (.iconst 1, 1) := by decide +kernel
theorem dX0_leak_38 : decode cX0_leak 38 = .ok (.goto 4, 3) := by decide +kernel
theorem dX0_leak_41 : decode cX0_leak 41 = .ok (.iconst 0, 1) := by decide +kernel
theorem dX0_leak_42 : decode cX0_leak 42 = .ok (.ireturn, 1) := by decide +kernel
theorem dX0_leak_43 : decode cX0_leak 43 = .ok (.aload_n 0, 1) := by decide +kernel
theorem dX0_leak_44 : decode cX0_leak 44 = .ok (.getfield 24, 3) := by decide +kernel
theorem dX0_leak_47 : decode cX0_leak 47 = .ok (.ifCond .ne 5, 3) := by decide +kernel
theorem dX0_leak_50 : decode cX0_leak 50 = .ok (.iconst 3, 1) := by decide +kernel
theorem dX0_leak_51 : decode cX0_leak 51 = .ok (.ireturn, 1) := by decide +kernel
theorem dX0_leak_52 : decode cX0_leak 52 = .ok (.aload_n 0, 1) := by decide +kernel
theorem dX0_leak_53 : decode cX0_leak 53 = .ok (.getfield 24, 3) := by decide +kernel
theorem dX0_leak_56 : decode cX0_leak 56 = .ok (.bipush 8, 2) := by decide +kernel
theorem dX0_leak_58 : decode cX0_leak 58 = .ok (.if_icmp .ge 7, 3) := by decide +kernel
theorem dX0_leak_61 : decode cX0_leak 61 = .ok (.iconst 2, 1) := by decide +kernel
theorem dX0_leak_62 : decode cX0_leak 62 = .ok (.goto 4, 3) := by decide +kernel
theorem dX0_leak_65 : decode cX0_leak 65 = .ok (.iconst 0, 1) := by decide +kernel
theorem dX0_leak_66 : decode cX0_leak 66 = .ok (.ireturn, 1) := by decide +kernel
theorem dX0_tell_0 : decode cX0_tell 0 = .ok (.iload_n 1, 1) := by decide +kernel
theorem dX0_tell_1 : decode cX0_tell 1 = .ok (.tableswitch 104 0 8 #[51, 56, 61, 66, 71, 76, 81, 86, 91], 51) := by decide +kernel
theorem dX0_tell_52 : decode cX0_tell 52 = .ok (.aload_n 0, 1) := by decide +kernel
theorem dX0_tell_53 : decode cX0_tell 53 = .ok (.getfield 15, 3) := by decide +kernel
theorem dX0_tell_56 : decode cX0_tell 56 = .ok (.ireturn, 1) := by decide +kernel
theorem dX0_tell_57 : decode cX0_tell 57 = .ok (.aload_n 0, 1) := by decide +kernel
theorem dX0_tell_58 : decode cX0_tell 58 = .ok (.getfield 18, 3) := by decide +kernel
theorem dX0_tell_61 : decode cX0_tell 61 = .ok (.ireturn, 1) := by decide +kernel
theorem dX0_tell_62 : decode cX0_tell 62 = .ok (.aload_n 0, 1) := by decide +kernel
theorem dX0_tell_63 : decode cX0_tell 63 = .ok (.getfield 21, 3) := by decide +kernel
theorem dX0_tell_66 : decode cX0_tell 66 = .ok (.ireturn, 1) := by decide +kernel
theorem dX0_tell_67 : decode cX0_tell 67 = .ok (.aload_n 0, 1) := by decide +kernel
theorem dX0_tell_68 : decode cX0_tell 68 = .ok (.getfield 31, 3) := by decide +kernel
theorem dX0_tell_71 : decode cX0_tell 71 = .ok (.ireturn, 1) := by decide +kernel
theorem dX0_tell_72 : decode cX0_tell 72 = .ok (.aload_n 0, 1) := by decide +kernel
theorem dX0_tell_73 : decode cX0_tell 73 = .ok (.getfield 34, 3) := by decide +kernel
theorem dX0_tell_76 : decode cX0_tell 76 = .ok (.ireturn, 1) := by decide +kernel
theorem dX0_tell_77 : decode cX0_tell 77 = .ok (.aload_n 0, 1) := by decide +kernel
theorem dX0_tell_78 : decode cX0_tell 78 = .ok (.getfield 24, 3) := by decide +kernel
theorem dX0_tell_81 : decode cX0_tell 81 = .ok (.ireturn, 1) := by decide +kernel
theorem dX0_tell_82 : decode cX0_tell 82 = .ok (.aload_n 0, 1) := by decide +kernel
theorem dX0_tell_83 : decode cX0_tell 83 = .ok (.getfield 37, 3) := by decide +kernel
theorem dX0_tell_86 : decode cX0_tell 86 = .ok (.ireturn, 1) := by decide +kernel
theorem dX0_tell_87 : decode cX0_tell 87 = .ok (.aload_n 0, 1) := by decide +kernel
theorem dX0_tell_88 : decode cX0_tell 88 = .ok (.getfield 40, 3) := by decide +kernel
theorem dX0_tell_91 : decode cX0_tell 91 = .ok (.ireturn, 1) := by decide +kernel
theorem dX0_tell_92 : decode cX0_tell 92 = .ok (.aload_n 0, 1) := by decide +kernel
theorem dX0_tell_93 : decode cX0_tell 93 = .ok (.getfield 27, 3) := by decide +kernel
theorem dX0_tell_96 : decode cX0_tell 96 = .ok (.ifCond .eq 7, 3) := by decide +kernel
theorem dX0_tell_99 : decode cX0_tell 99 = .ok (.iconst 1, 1) := by decide +kernel
theorem dX0_tell_100 : decode cX0_tell 100 = .ok (.goto 4, 3) := by decide +kernel
theorem dX0_tell_103 : decode cX0_tell 103 = .ok (.iconst 0, 1) := by decide +kernel
theorem dX0_tell_104 : decode cX0_tell 104 = .ok (.ireturn, 1) := by decide +kernel
theorem dX0_tell_105 : decode cX0_tell 105 = .ok (.aload_n 0, 1) := by decide +kernel
theorem dX0_tell_106 : decode cX0_tell 106 = .ok (.getfield 9, 3) := by decide +kernel
theorem dX0_tell_109 : decode cX0_tell 109 = .ok (.ireturn, 1) := by decide +kernel
theorem dX1_init_0 : decode cX1_init 0 = .ok (.aload_n 0, 1) := by decide +kernel
theorem dX1_init_1 : decode cX1_init 1 = .ok (.invokespecial 1, 3) := by decide +kernel
theorem dX1_init_4 : decode cX1_init 4 = .ok (.return_, 1) := by decide +kernel
theorem dX1_becomeLike_0 : decode cX1_becomeLike 0 = .ok (.aload_n 0, 1) := by decide +kernel
theorem dX1_becomeLike_1 : decode cX1_becomeLike 1 = .ok (.aload_n 1, 1) := by decide +kernel
theorem dX1_becomeLike_2 : decode cX1_becomeLike 2 = .ok (.getfield 7, 3) := by decide +kernel
theorem dX1_becomeLike_5 : decode cX1_becomeLike 5 = .ok (.putfield 7, 3) := by decide +kernel
theorem dX1_becomeLike_8 : decode cX1_becomeLike 8 = .ok (.aload_n 0, 1) := by decide +kernel
theorem dX1_becomeLike_9 : decode cX1_becomeLike 9 = .ok (.aload_n 1, 1) := by decide +kernel
theorem dX1_becomeLike_10 : decode cX1_becomeLike 10 = .ok (.getfield 13, 3) := by decide +kernel
theorem dX1_becomeLike_13 : decode cX1_becomeLike 13 = .ok (.putfield 13, 3) := by decide +kernel
theorem dX1_becomeLike_16 : decode cX1_becomeLike 16 = .ok (.aload_n 0, 1) := by decide +kernel
theorem dX1_becomeLike_17 : decode cX1_becomeLike 17 = .ok (.aload_n 1, 1) := by decide +kernel
theorem dX1_becomeLike_18 : decode cX1_becomeLike 18 = .ok (.getfield 16, 3) := by decide +kernel
theorem dX1_becomeLike_21 : decode cX1_becomeLike 21 = .ok (.putfield 16, 3) := by decide +kernel
theorem dX1_becomeLike_24 : decode cX1_becomeLike 24 = .ok (.return_, 1) := by decide +kernel
set_option maxRecDepth 20000 in
theorem ggX2_init_X0_init : GoodIn wsX2_init wsX0_init := goodIn_r _ [17, 18, 2, 3, 19, 33, 34, 35, 36, 37, 38, 39, 40, 41, 42] (by decide +kernel) (by decide +kernel)
set_option maxRecDepth 20000 in
theorem gX2_init_X0_init_n34 : GoodIn wsX2_init (wsX0_init) := ggX2_init_X0_init
set_option maxRecDepth 20000 in
theorem ggX2_init_X1_init : GoodIn wsX2_init wsX1_init := goodIn_r _ [21, 22, 2, 3] (by decide +kernel) (by decide +kernel)
set_option maxRecDepth 20000 in
theorem gX2_init_X1_init_n35 : GoodIn wsX2_init (wsX1_init) := ggX2_init_X1_init
theorem dX2_init_0 : decode cX2_init 0 = .ok (.aload_n 0, 1) := by decide +kernel
theorem dX2_init_1 : decode cX2_init 1 = .ok (.invokespecial 3, 3) := by decide +kernel
theorem dX2_init_4 : decode cX2_init 4 = .ok (.aload_n 0, 1) := by decide +kernel
theorem dX2_init_5 : decode cX2_init 5 = .ok (.bipush 6, 2) := by decide +kernel
theorem dX2_init_7 : decode cX2_init 7 = .ok (.anewarray 9, 3) := by decide +kernel
theorem dX2_init_10 : decode cX2_init 10 = .ok (.putfield 11, 3) := by decide +kernel
theorem dX2_init_13 : decode cX2_init 13 = .ok (.aload_n 0, 1) := by decide +kernel
theorem dX2_init_14 : decode cX2_init 14 = .ok (.iconst 3, 1) := by decide +kernel
theorem dX2_init_15 : decode cX2_init 15 = .ok (.anewarray 17, 3) := by decide +kernel
theorem dX2_init_18 : decode cX2_init 18 = .ok (.putfield 19, 3) := by decide +kernel
theorem dX2_init_21 : decode cX2_init 21 = .ok (.aload_n 0, 1) := by decide +kernel
theorem dX2_init_22 : decode cX2_init 22 = .ok (.bipush 16, 2) := by decide +kernel
theorem dX2_init_24 : decode cX2_init 24 = .ok (.newarray .int, 2) := by decide +kernel
theorem dX2_init_26 : decode cX2_init 26 = .ok (.putfield 23, 3) := by decide +kernel
theorem dX2_init_29 : decode cX2_init 29 = .ok (.aload_n 0, 1) := by decide +kernel
theorem dX2_init_30 : decode cX2_init 30 = .ok (.iconst 4, 1) := by decide +kernel
theorem dX2_init_31 : decode cX2_init 31 = .ok (.newarray .int, 2) := by decide +kernel
theorem dX2_init_33 : decode cX2_init 33 = .ok (.dup, 1) := by decide +kernel
theorem dX2_init_34 : decode cX2_init 34 = .ok (.iconst 0, 1) := by decide +kernel
theorem dX2_init_35 : decode cX2_init 35 = .ok (.iconst 3, 1) := by decide +kernel
theorem dX2_init_36 : decode cX2_init 36 = .ok (.iastore, 1) := by decide +kernel
theorem dX2_init_37 : decode cX2_init 37 = .ok (.dup, 1) := by decide +kernel
theorem dX2_init_38 : decode cX2_init 38 = .ok (.iconst 1, 1) := by decide +kernel
theorem dX2_init_39 : decode cX2_init 39 = .ok (.iconst 3, 1) := by decide +kernel
theorem dX2_init_40 : decode cX2_init 40 = .ok (.iastore, 1) := by decide +kernel
theorem dX2_init_41 : decode cX2_init 41 = .ok (.dup, 1) := by decide +kernel
theorem dX2_init_42 : decode cX2_init 42 = .ok (.iconst 2, 1) := by decide +kernel
theorem dX2_init_43 : decode cX2_init 43 = .ok (.iconst 3, 1) := by decide +kernel
theorem dX2_init_44 : decode cX2_init 44 = .ok (.iastore, 1) := by decide +kernel
theorem dX2_init_45 : decode cX2_init 45 = .ok (.dup, 1) := by decide +kernel
theorem dX2_init_46 : decode cX2_init 46 = .ok (.iconst 3, 1) := by decide +kernel
theorem dX2_init_47 : decode cX2_init 47 = .ok (.bipush 50, 2) := by decide +kernel
theorem dX2_init_49 : decode cX2_init 49 = .ok (.iastore, 1) := by decide +kernel
theorem dX2_init_50 : decode cX2_init 50 = .ok (.putfield 27, 3) := by decide +kernel
theorem dX2_init_53 : decode cX2_init 53 = .ok (.aload_n 0, 1) := by decide +kernel
theorem dX2_init_54 : decode cX2_init 54 = .ok (.bipush 12, 2) := by decide +kernel
theorem dX2_init_56 : decode cX2_init 56 = .ok (.putfield 30, 3) := by decide +kernel
theorem dX2_init_59 : decode cX2_init 59 = .ok (.iconst 0, 1) := by decide +kernel
theorem dX2_init_60 : decode cX2_init 60 = .ok (.istore_n 1, 1) := by decide +kernel
theorem dX2_init_61 : decode cX2_init 61 = .ok (.iload_n 1, 1) := by decide +kernel
theorem dX2_init_62 : decode cX2_init 62 = .ok (.bipush 6, 2) := by decide +kernel
theorem dX2_init_64 : decode cX2_init 64 = .ok (.if_icmp .ge 22, 3) := by decide +kernel
theorem dX2_init_67 : decode cX2_init 67 = .ok (.aload_n 0, 1) := by decide +kernel
theorem dX2_init_68 : decode cX2_init 68 = .ok (.getfield 11, 3) := by decide +kernel
theorem dX2_init_71 : decode cX2_init 71 = .ok (.iload_n 1, 1) := by decide +kernel
theorem dX2_init_72 : decode cX2_init 72 = .ok (.new 9, 3) := by decide +kernel
theorem dX2_init_75 : decode cX2_init 75 = .ok (.dup, 1) := by decide +kernel
theorem dX2_init_76 : decode cX2_init 76 = .ok (.invokespecial 34, 3) := by decide +kernel
theorem dX2_init_79 : decode cX2_init 79 = .ok (.aastore, 1) := by decide +kernel
theorem dX2_init_80 : decode cX2_init 80 = .ok (.iinc 1 1, 3) := by decide +kernel
theorem dX2_init_83 : decode cX2_init 83 = .ok (.goto (-22), 3) := by decide +kernel
theorem dX2_init_86 : decode cX2_init 86 = .ok (.iconst 0, 1) := by decide +kernel
theorem dX2_init_87 : decode cX2_init 87 = .ok (.istore_n 1, 1) := by decide +kernel
theorem dX2_init_88 : decode cX2_init 88 = .ok (.iload_n 1, 1) := by decide +kernel
theorem dX2_init_89 : decode cX2_init 89 = .ok (.iconst 3, 1) := by decide +kernel
theorem dX2_init_90 : decode cX2_init 90 = .ok (.if_icmp .ge 22, 3) := by decide +kernel
theorem dX2_init_93 : decode cX2_init 93 = .ok (.aload_n 0, 1) := by decide +kernel
theorem dX2_init_94 : decode cX2_init 94 = .ok (.getfield 19, 3) := by decide +kernel
theorem dX2_init_97 : decode cX2_init 97 = .ok (.iload_n 1, 1) := by decide +kernel
theorem dX2_init_98 : decode cX2_init 98 = .ok (.new 17, 3) := by decide +kernel
theorem dX2_init_101 : decode cX2_init 101 = .ok (.dup, 1) := by decide +kernel
theorem dX2_init_102 : decode cX2_init 102 = .ok (.invokespecial 35, 3) := by decide +kernel
theorem dX2_init_105 : decode cX2_init 105 = .ok (.aastore, 1) := by decide +kernel
theorem dX2_init_106 : decode cX2_init 106 = .ok (.iinc 1 1, 3) := by decide +kernel
theorem dX2_init_109 : decode cX2_init 109 = .ok (.goto (-21), 3) := by decide +kernel
theorem dX2_init_112 : decode cX2_init 112 = .ok (.iconst 0, 1) := by decide +kernel
theorem dX2_init_113 : decode cX2_init 113 = .ok (.istore_n 1, 1) := by decide +kernel
theorem dX2_init_114 : decode cX2_init 114 = .ok (.iload_n 1, 1) := by decide +kernel
theorem dX2_init_115 : decode cX2_init 115 = .ok (.bipush 16, 2) := by decide +kernel
theorem dX2_init_117 : decode cX2_init 117 = .ok (.if_icmp .ge 16, 3) := by decide +kernel
theorem dX2_init_120 : decode cX2_init 120 = .ok (.aload_n 0, 1) := by decide +kernel
theorem dX2_init_121 : decode cX2_init 121 = .ok (.getfield 23, 3) := by decide +kernel
theorem dX2_init_124 : decode cX2_init 124 = .ok (.iload_n 1, 1) := by decide +kernel
theorem dX2_init_125 : decode cX2_init 125 = .ok (.iconst 4, 1) := by decide +kernel
theorem dX2_init_126 : decode cX2_init 126 = .ok (.iastore, 1) := by decide +kernel
theorem dX2_init_127 : decode cX2_init 127 = .ok (.iinc 1 1, 3) := by decide +kernel
theorem dX2_init_130 : decode cX2_init 130 = .ok (.goto (-16), 3) := by decide +kernel
theorem dX2_init_133 : decode cX2_init 133 = .ok (.return_, 1) := by decide +kernel
set_option maxRecDepth 20000 in
theorem ggX2_becomeLike_X0_becomeLike : GoodIn wsX2_becomeLike wsX0_becomeLike := goodIn_r _ [19, 20, 21, 22, 23, 24, 25, 26, 27, 28, 29, 48, 49, 50, 51, 52, 53, 54, 55, 56, 57] (by decide +kernel) (by decide +kernel)
set_option maxRecDepth 20000 in
theorem gX2_becomeLike_X0_becomeLike : GoodIn wsX2_becomeLike (wsV RX2 36 RX0 yX0_becomeLike wsX0_becomeLike) := goodIn_app (goodIn_of _ (by decide +kernel)) ggX2_becomeLike_X0_becomeLike
set_option maxRecDepth 20000 in
theorem ggX2_becomeLike_X1_becomeLike : GoodIn wsX2_becomeLike wsX1_becomeLike := goodIn_r _ [34, 35, 36, 37, 58, 59, 60] (by decide +kernel) (by decide +kernel)
set_option maxRecDepth 20000 in
theorem gX2_becomeLike_X1_becomeLike : GoodIn wsX2_becomeLike (wsV RX2 40 RX1 yX1_becomeLike wsX1_becomeLike) := goodIn_app (goodIn_of _ (by decide +kernel)) ggX2_becomeLike_X1_becomeLike
theorem dX2_becomeLike_0 : decode cX2_becomeLike 0 = .ok (.iconst 0, 1) := by decide +kernel
theorem dX2_becomeLike_1 : decode cX2_becomeLike 1 = .ok (.istore_n 2, 1) := by decide +kernel
theorem dX2_becomeLike_2 : decode cX2_becomeLike 2 = .ok (.iload_n 2, 1) := by decide +kernel
theorem dX2_becomeLike_3 : decode cX2_becomeLike 3 = .ok (.bipush 6, 2) := by decide +kernel
theorem dX2_becomeLike_5 : decode cX2_becomeLike 5 = .ok (.if_icmp .ge 24, 3) := by decide +kernel
theorem dX2_becomeLike_8 : decode cX2_becomeLike 8 = .ok (.aload_n 0, 1) := by decide +kernel
theorem dX2_becomeLike_9 : decode cX2_becomeLike 9 = .ok (.getfield 11, 3) := by decide +kernel
theorem dX2_becomeLike_12 : decode cX2_becomeLike 12 = .ok (.iload_n 2, 1) := by decide +kernel
theorem dX2_becomeLike_13 : decode cX2_becomeLike 13 = .ok (.aaload, 1) := by decide +kernel
theorem dX2_becomeLike_14 : decode cX2_becomeLike 14 = .ok (.aload_n 1, 1) := by decide +kernel
theorem dX2_becomeLike_15 : decode cX2_becomeLike 15 = .ok (.getfield 11, 3) := by decide +kernel
theorem dX2_becomeLike_18 : decode cX2_becomeLike 18 = .ok (.iload_n 2, 1) := by decide +kernel
theorem dX2_becomeLike_19 : decode cX2_becomeLike 19 = .ok (.aaload, 1) := by decide +kernel
theorem dX2_becomeLike_20 : decode cX2_becomeLike 20 = .ok (.invokevirtual 36, 3) := by decide +kernel
theorem dX2_becomeLike_23 : decode cX2_becomeLike 23 = .ok (.iinc 2 1, 3) := by decide +kernel
theorem dX2_becomeLike_26 : decode cX2_becomeLike 26 = .ok (.goto (-24), 3) := by decide +kernel
theorem dX2_becomeLike_29 : decode cX2_becomeLike 29 = .ok (.iconst 0, 1) := by decide +kernel
theorem dX2_becomeLike_30 : decode cX2_becomeLike 30 = .ok (.istore_n 2, 1) := by decide +kernel
theorem dX2_becomeLike_31 : decode cX2_becomeLike 31 = .ok (.iload_n 2, 1) := by decide +kernel
theorem dX2_becomeLike_32 : decode cX2_becomeLike 32 = .ok (.iconst 3, 1) := by decide +kernel
theorem dX2_becomeLike_33 : decode cX2_becomeLike 33 = .ok (.if_icmp .ge 24, 3) := by decide +kernel
theorem dX2_becomeLike_36 : decode cX2_becomeLike 36 = .ok (.aload_n 0, 1) := by decide +kernel
theorem dX2_becomeLike_37 : decode cX2_becomeLike 37 = .ok (.getfield 19, 3) := by decide +kernel
theorem dX2_becomeLike_40 : decode cX2_becomeLike 40 = .ok (.iload_n 2, 1) := by decide +kernel
theorem dX2_becomeLike_41 : decode cX2_becomeLike 41 = .ok (.aaload, 1) := by decide +kernel
theorem dX2_becomeLike_42 : decode cX2_becomeLike 42 = .ok (.aload_n 1, 1) := by decide +kernel
theorem dX2_becomeLike_43 : decode cX2_becomeLike 43 = .ok (.getfield 19, 3) := by decide +kernel
theorem dX2_becomeLike_46 : decode cX2_becomeLike 46 = .ok (.iload_n 2, 1) := by decide +kernel
theorem dX2_becomeLike_47 : decode cX2_becomeLike 47 = .ok (.aaload, 1) := by decide +kernel
theorem dX2_becomeLike_48 : decode cX2_becomeLike 48 = .ok (.invokevirtual 40, 3) := by decide +kernel
theorem dX2_becomeLike_51 : decode cX2_becomeLike 51 = .ok (.iinc 2 1, 3) := by decide +kernel
theorem dX2_becomeLike_54 : decode cX2_becomeLike 54 = .ok (.goto (-23), 3) := by decide +kernel
theorem dX2_becomeLike_57 : decode cX2_becomeLike 57 = .ok (.aload_n 1, 1) := by decide +kernel
theorem dX2_becomeLike_58 : decode cX2_becomeLike 58 = .ok (.getfield 23, 3) := by decide +kernel
theorem dX2_becomeLike_61 : decode cX2_becomeLike 61 = .ok (.iconst 0, 1) := by decide +kernel
theorem dX2_becomeLike_62 : decode cX2_becomeLike 62 = .ok (.aload_n 0, 1) := by decide +kernel
theorem dX2_becomeLike_63 : decode cX2_becomeLike 63 = .ok (.getfield 23, 3) := by decide +kernel
theorem dX2_becomeLike_66 : decode cX2_becomeLike 66 = .ok (.iconst 0, 1) := by decide +kernel
theorem dX2_becomeLike_67 : decode cX2_becomeLike 67 = .ok (.bipush 16, 2) := by decide +kernel
theorem dX2_becomeLike_69 : decode cX2_becomeLike 69 = .ok (.invokestatic 43, 3) := by decide +kernel
theorem dX2_becomeLike_72 : decode cX2_becomeLike 72 = .ok (.aload_n 1, 1) := by decide +kernel
theorem dX2_becomeLike_73 : decode cX2_becomeLike 73 = .ok (.getfield 27, 3) := by decide +kernel
theorem dX2_becomeLike_76 : decode cX2_becomeLike 76 = .ok (.iconst 0, 1) := by decide +kernel
theorem dX2_becomeLike_77 : decode cX2_becomeLike 77 = .ok (.aload_n 0, 1) := by decide +kernel
theorem dX2_becomeLike_78 : decode cX2_becomeLike 78 = .ok (.getfield 27, 3) := by decide +kernel
theorem dX2_becomeLike_81 : decode cX2_becomeLike 81 = .ok (.iconst 0, 1) := by decide +kernel
theorem dX2_becomeLike_82 : decode cX2_becomeLike 82 = .ok (.iconst 4, 1) := by decide +kernel
theorem dX2_becomeLike_83 : decode cX2_becomeLike 83 = .ok (.invokestatic 43, 3) := by decide +kernel
theorem dX2_becomeLike_86 : decode cX2_becomeLike 86 = .ok (.aload_n 0, 1) := by decide +kernel
theorem dX2_becomeLike_87 : decode cX2_becomeLike 87 = .ok (.aload_n 1, 1) := by decide +kernel
theorem dX2_becomeLike_88 : decode cX2_becomeLike 88 = .ok (.getfield 49, 3) := by decide +kernel
theorem dX2_becomeLike_91 : decode cX2_becomeLike 91 = .ok (.putfield 49, 3) := by decide +kernel
theorem dX2_becomeLike_94 : decode cX2_becomeLike 94 = .ok (.aload_n 0, 1) := by decide +kernel
theorem dX2_becomeLike_95 : decode cX2_becomeLike 95 = .ok (.aload_n 1, 1) := by decide +kernel
theorem dX2_becomeLike_96 : decode cX2_becomeLike 96 = .ok (.getfield 30, 3) := by decide +kernel
theorem dX2_becomeLike_99 : decode cX2_becomeLike 99 = .ok (.putfield 30, 3) := by decide +kernel
theorem dX2_becomeLike_102 : decode cX2_becomeLike 102 = .ok (.aload_n 0, 1) := by decide +kernel
theorem dX2_becomeLike_103 : decode cX2_becomeLike 103 = .ok (.aload_n 1, 1) := by decide +kernel
theorem dX2_becomeLike_104 : decode cX2_becomeLike 104 = .ok (.getfield 52, 3) := by decide +kernel
theorem dX2_becomeLike_107 : decode cX2_becomeLike 107 = .ok (.putfield 52, 3) := by decide +kernel
theorem dX2_becomeLike_110 : decode cX2_becomeLike 110 = .ok (.aload_n 0, 1) := by decide +kernel
theorem dX2_becomeLike_111 : decode cX2_becomeLike 111 = .ok (.aload_n 1, 1) := by decide +kernel
theorem dX2_becomeLike_112 : decode cX2_becomeLike 112 = .ok (.getfield 55, 3) := by decide +kernel
theorem dX2_becomeLike_115 : decode cX2_becomeLike 115 = .ok (.putfield 55, 3) := by decide +kernel
theorem dX2_becomeLike_118 : decode cX2_becomeLike 118 = .ok (.aload_n 0, 1) := by decide +kernel
theorem dX2_becomeLike_119 : decode cX2_becomeLike 119 = .ok (.aload_n 1, 1) := by decide +kernel
theorem dX2_becomeLike_120 : decode cX2_becomeLike 120 = .ok (.getfield 58, 3) := by decide +kernel
theorem dX2_becomeLike_123 : decode cX2_becomeLike 123 = .ok (.putfield 58, 3) := by decide +kernel
theorem dX2_becomeLike_126 : decode cX2_becomeLike 126 = .ok (.aload_n 0, 1) := by decide +kernel
theorem dX2_becomeLike_127 : decode cX2_becomeLike 127 = .ok (.aload_n 1, 1) := by decide +kernel
theorem dX2_becomeLike_128 : decode cX2_becomeLike 128 = .ok (.getfield 61, 3) := by decide +kernel
theorem dX2_becomeLike_131 : decode cX2_becomeLike 131 = .ok (.putfield 61, 3) := by decide +kernel
theorem dX2_becomeLike_134 : decode cX2_becomeLike 134 = .ok (.return_, 1) := by decide +kernel
theorem dX2_coracleOf_0 : decode cX2_coracleOf 0 = .ok (.iload_n 1, 1) := by decide +kernel
theorem dX2_coracleOf_1 : decode cX2_coracleOf 1 = .ok (.ifCond .lt 18, 3) := by decide +kernel
theorem dX2_coracleOf_4 : decode cX2_coracleOf 4 = .ok (.iload_n 1, 1) := by decide +kernel
theorem dX2_coracleOf_5 : decode cX2_coracleOf 5 = .ok (.bipush 6, 2) := by decide +kernel
theorem dX2_coracleOf_7 : decode cX2_coracleOf 7 = .ok (.if_icmp .ge 12, 3) := by decide +kernel
theorem dX2_coracleOf_10 : decode cX2_coracleOf 10 = .ok (.aload_n 0, 1) := by decide +kernel
theorem dX2_coracleOf_11 : decode cX2_coracleOf 11 = .ok (.getfield 11, 3) := by decide +kernel
theorem dX2_coracleOf_14 : decode cX2_coracleOf 14 = .ok (.iload_n 1, 1) := by decide +kernel
theorem dX2_coracleOf_15 : decode cX2_coracleOf 15 = .ok (.aaload, 1) := by decide +kernel
theorem dX2_coracleOf_16 : decode cX2_coracleOf 16 = .ok (.goto 9, 3) := by decide +kernel
theorem dX2_coracleOf_19 : decode cX2_coracleOf 19 = .ok (.aload_n 0, 1) := by decide +kernel
theorem dX2_coracleOf_20 : decode cX2_coracleOf 20 = .ok (.getfield 11, 3) := by decide +kernel
theorem dX2_coracleOf_23 : decode cX2_coracleOf 23 = .ok (.iconst 0, 1) := by decide +kernel
theorem dX2_coracleOf_24 : decode cX2_coracleOf 24 = .ok (.aaload, 1) := by decide +kernel
theorem dX2_coracleOf_25 : decode cX2_coracleOf 25 = .ok (.areturn, 1) := by decide +kernel
theorem dX2_netOf_0 : decode cX2_netOf 0 = .ok (.iload_n 1, 1) := by decide +kernel
theorem dX2_netOf_1 : decode cX2_netOf 1 = .ok (.ifCond .lt 17, 3) := by decide +kernel
theorem dX2_netOf_4 : decode cX2_netOf 4 = .ok (.iload_n 1, 1) := by decide +kernel
theorem dX2_netOf_5 : decode cX2_netOf 5 = .ok (.iconst 3, 1) := by decide +kernel
theorem dX2_netOf_6 : decode cX2_netOf 6 = .ok (.if_icmp .ge 12, 3) := by decide +kernel
theorem dX2_netOf_9 : decode cX2_netOf 9 = .ok (.aload_n 0, 1) := by decide +kernel
theorem dX2_netOf_10 : decode cX2_netOf 10 = .ok (.getfield 19, 3) := by decide +kernel
theorem dX2_netOf_13 : decode cX2_netOf 13 = .ok (.iload_n 1, 1) := by decide +kernel
theorem dX2_netOf_14 : decode cX2_netOf 14 = .ok (.aaload, 1) := by decide +kernel
theorem dX2_netOf_15 : decode cX2_netOf 15 = .ok (.goto 9, 3) := by decide +kernel
theorem dX2_netOf_18 : decode cX2_netOf 18 = .ok (.aload_n 0, 1) := by decide +kernel
theorem dX2_netOf_19 : decode cX2_netOf 19 = .ok (.getfield 19, 3) := by decide +kernel
theorem dX2_netOf_22 : decode cX2_netOf 22 = .ok (.iconst 0, 1) := by decide +kernel
theorem dX2_netOf_23 : decode cX2_netOf 23 = .ok (.aaload, 1) := by decide +kernel
theorem dX2_netOf_24 : decode cX2_netOf 24 = .ok (.areturn, 1) := by decide +kernel
theorem dX2_salmonAt_0 : decode cX2_salmonAt 0 = .ok (.iload_n 1, 1) := by decide +kernel
theorem dX2_salmonAt_1 : decode cX2_salmonAt 1 = .ok (.ifCond .lt 18, 3) := by decide +kernel
theorem dX2_salmonAt_4 : decode cX2_salmonAt 4 = .ok (.iload_n 1, 1) := by decide +kernel
theorem dX2_salmonAt_5 : decode cX2_salmonAt 5 = .ok (.bipush 16, 2) := by decide +kernel
theorem dX2_salmonAt_7 : decode cX2_salmonAt 7 = .ok (.if_icmp .ge 12, 3) := by decide +kernel
theorem dX2_salmonAt_10 : decode cX2_salmonAt 10 = .ok (.aload_n 0, 1) := by decide +kernel
theorem dX2_salmonAt_11 : decode cX2_salmonAt 11 = .ok (.getfield 23, 3) := by decide +kernel
theorem dX2_salmonAt_14 : decode cX2_salmonAt 14 = .ok (.iload_n 1, 1) := by decide +kernel
theorem dX2_salmonAt_15 : decode cX2_salmonAt 15 = .ok (.iaload, 1) := by decide +kernel
theorem dX2_salmonAt_16 : decode cX2_salmonAt 16 = .ok (.goto 4, 3) := by decide +kernel
theorem dX2_salmonAt_19 : decode cX2_salmonAt 19 = .ok (.iconst 0, 1) := by decide +kernel
theorem dX2_salmonAt_20 : decode cX2_salmonAt 20 = .ok (.ireturn, 1) := by decide +kernel
theorem dX2_takeSalmon_0 : decode cX2_takeSalmon 0 = .ok (.iload_n 1, 1) := by decide +kernel
theorem dX2_takeSalmon_1 : decode cX2_takeSalmon 1 = .ok (.ifCond .lt 19, 3) := by decide +kernel
theorem dX2_takeSalmon_4 : decode cX2_takeSalmon 4 = .ok (.iload_n 1, 1) := by decide +kernel
theorem dX2_takeSalmon_5 : decode cX2_takeSalmon 5 = .ok (.bipush 16, 2) := by decide +kernel
theorem dX2_takeSalmon_7 : decode cX2_takeSalmon 7 = .ok (.if_icmp .ge 13, 3) := by decide +kernel
theorem dX2_takeSalmon_10 : decode cX2_takeSalmon 10 = .ok (.aload_n 0, 1) := by decide +kernel
theorem dX2_takeSalmon_11 : decode cX2_takeSalmon 11 = .ok (.getfield 23, 3) := by decide +kernel
theorem dX2_takeSalmon_14 : decode cX2_takeSalmon 14 = .ok (.iload_n 1, 1) := by decide +kernel
theorem dX2_takeSalmon_15 : decode cX2_takeSalmon 15 = .ok (.dup2, 1) := by decide +kernel
theorem dX2_takeSalmon_16 : decode cX2_takeSalmon 16 = .ok (.iaload, 1) := by decide +kernel
theorem dX2_takeSalmon_17 : decode cX2_takeSalmon 17 = .ok (.iload_n 2, 1) := by decide +kernel
theorem dX2_takeSalmon_18 : decode cX2_takeSalmon 18 = .ok (.isub, 1) := by decide +kernel
theorem dX2_takeSalmon_19 : decode cX2_takeSalmon 19 = .ok (.iastore, 1) := by decide +kernel
theorem dX2_takeSalmon_20 : decode cX2_takeSalmon 20 = .ok (.return_, 1) := by decide +kernel
set_option maxRecDepth 20000 in
theorem ggX2_makeCoracle_X2_coracleOf : GoodIn wsX2_makeCoracle wsX2_coracleOf := goodIn_r _ [7, 8, 19, 20, 21, 22, 23, 24, 25, 26, 27, 28] (by decide +kernel) (by decide +kernel)
set_option maxRecDepth 20000 in
theorem gX2_makeCoracle_X2_coracleOf : GoodIn wsX2_makeCoracle (wsV RX2 64 RX2 yX2_coracleOf wsX2_coracleOf) := goodIn_app (goodIn_of _ (by decide +kernel)) ggX2_makeCoracle_X2_coracleOf
set_option maxRecDepth 20000 in
theorem ggX2_makeCoracle_X0_becomeNew : GoodIn wsX2_makeCoracle wsX0_becomeNew := goodIn_r _ [13, 14, 15, 16, 17, 18, 29, 30, 31, 32, 33, 34, 35, 36, 37, 38] (by decide +kernel) (by decide +kernel)
set_option maxRecDepth 20000 in
theorem gX2_makeCoracle_X0_becomeNew : GoodIn wsX2_makeCoracle (wsV RX2 68 RX0 yX0_becomeNew wsX0_becomeNew) := goodIn_app (goodIn_of _ (by decide +kernel)) ggX2_makeCoracle_X0_becomeNew
theorem dX2_makeCoracle_0 : decode cX2_makeCoracle 0 = .ok (.aload_n 0, 1) := by decide +kernel
theorem dX2_makeCoracle_1 : decode cX2_makeCoracle 1 = .ok (.getfield 52, 3) := by decide +kernel
theorem dX2_makeCoracle_4 : decode cX2_makeCoracle 4 = .ok (.istore 4, 2) := by decide +kernel
theorem dX2_makeCoracle_6 : decode cX2_makeCoracle 6 = .ok (.aload_n 0, 1) := by decide +kernel
theorem dX2_makeCoracle_7 : decode cX2_makeCoracle 7 = .ok (.getfield 27, 3) := by decide +kernel
theorem dX2_makeCoracle_10 : decode cX2_makeCoracle 10 = .ok (.iconst 3, 1) := by decide +kernel
theorem dX2_makeCoracle_11 : decode cX2_makeCoracle 11 = .ok (.dup2, 1) := by decide +kernel
theorem dX2_makeCoracle_12 : decode cX2_makeCoracle 12 = .ok (.iaload, 1) := by decide +kernel
theorem dX2_makeCoracle_13 : decode cX2_makeCoracle 13 = .ok (.iload_n 1, 1) := by decide +kernel
theorem dX2_makeCoracle_14 : decode cX2_makeCoracle 14 = .ok (.isub, 1) := by decide +kernel
theorem dX2_makeCoracle_15 : decode cX2_makeCoracle 15 = .ok (.iastore, 1) := by decide +kernel
theorem dX2_makeCoracle_16 : decode cX2_makeCoracle 16 = .ok (.iload_n 2, 1) := by decide +kernel
theorem dX2_makeCoracle_17 : decode cX2_makeCoracle 17 = .ok (.ifCond .lt 18, 3) := by decide +kernel
theorem dX2_makeCoracle_20 : decode cX2_makeCoracle 20 = .ok (.iload_n 2, 1) := by decide +kernel
theorem dX2_makeCoracle_21 : decode cX2_makeCoracle 21 = .ok (.iconst 2, 1) := by decide +kernel
theorem dX2_makeCoracle_22 : decode cX2_makeCoracle 22 = .ok (.if_icmp .gt 13, 3) := by decide +kernel
theorem dX2_makeCoracle_25 : decode cX2_makeCoracle 25 = .ok (.aload_n 0, 1) := by decide +kernel
theorem dX2_makeCoracle_26 : decode cX2_makeCoracle 26 = .ok (.getfield 27, 3) := by decide +kernel
theorem dX2_makeCoracle_29 : decode cX2_makeCoracle 29 = .ok (.iload_n 2, 1) := by decide +kernel
theorem dX2_makeCoracle_30 : decode cX2_makeCoracle 30 = .ok (.dup2, 1) := by decide +kernel
theorem dX2_makeCoracle_31 : decode cX2_makeCoracle 31 = .ok (.iaload, 1) := by decide +kernel
theorem dX2_makeCoracle_32 : decode cX2_makeCoracle 32 = .ok (.iconst 1, 1) := by decide +kernel
theorem dX2_makeCoracle_33 : decode cX2_makeCoracle 33 = .ok (.isub, 1) := by decide +kernel
theorem dX2_makeCoracle_34 : decode cX2_makeCoracle 34 = .ok (.iastore, 1) := by decide +kernel
theorem dX2_makeCoracle_35 : decode cX2_makeCoracle 35 = .ok (.aload_n 0, 1) := by decide +kernel
theorem dX2_makeCoracle_36 : decode cX2_makeCoracle 36 = .ok (.iload 4, 2) := by decide +kernel
theorem dX2_makeCoracle_38 : decode cX2_makeCoracle 38 = .ok (.invokevirtual 64, 3) := by decide +kernel
theorem dX2_makeCoracle_41 : decode cX2_makeCoracle 41 = .ok (.iload_n 1, 1) := by decide +kernel
theorem dX2_makeCoracle_42 : decode cX2_makeCoracle 42 = .ok (.iload_n 2, 1) := by decide +kernel
theorem dX2_makeCoracle_43 : decode cX2_makeCoracle 43 = .ok (.iload_n 3, 1) := by decide +kernel
theorem dX2_makeCoracle_44 : decode cX2_makeCoracle 44 = .ok (.invokevirtual 68, 3) := by decide +kernel
theorem dX2_makeCoracle_47 : decode cX2_makeCoracle 47 = .ok (.aload_n 0, 1) := by decide +kernel
theorem dX2_makeCoracle_48 : decode cX2_makeCoracle 48 = .ok (.dup, 1) := by decide +kernel
theorem dX2_makeCoracle_49 : decode cX2_makeCoracle 49 = .ok (.getfield 52, 3) := by decide +kernel
theorem dX2_makeCoracle_52 : decode cX2_makeCoracle 52 = .ok (.iconst 1, 1) := by decide +kernel
theorem dX2_makeCoracle_53 : decode cX2_makeCoracle 53 = .ok (.iadd, 1) := by decide +kernel
theorem dX2_makeCoracle_54 : decode cX2_makeCoracle 54 = .ok (.putfield 52, 3) := by decide +kernel
theorem dX2_makeCoracle_57 : decode cX2_makeCoracle 57 = .ok (.iload 4, 2) := by decide +kernel
theorem dX2_makeCoracle_59 : decode cX2_makeCoracle 59 = .ok (.ireturn, 1) := by decide +kernel
set_option maxRecDepth 20000 in
theorem ggX2_tieNet_X2_netOf : GoodIn wsX2_tieNet wsX2_netOf := goodIn_r _ [9, 10, 16, 17, 18, 19, 20, 21, 22, 23, 24, 25] (by decide +kernel) (by decide +kernel)
set_option maxRecDepth 20000 in
theorem gX2_tieNet_X2_netOf : GoodIn wsX2_tieNet (wsV RX2 72 RX2 yX2_netOf wsX2_netOf) := goodIn_app (goodIn_of _ (by decide +kernel)) ggX2_tieNet_X2_netOf
set_option maxRecDepth 20000 in
theorem ggX2_tieNet_X2_coracleOf : GoodIn wsX2_tieNet wsX2_coracleOf := goodIn_r _ [14, 15, 16, 17, 18, 19, 20, 21, 22, 23, 24, 25] (by decide +kernel) (by decide +kernel)
set_option maxRecDepth 20000 in
theorem gX2_tieNet_X2_coracleOf : GoodIn wsX2_tieNet (wsV RX2 64 RX2 yX2_coracleOf wsX2_coracleOf) := goodIn_app (goodIn_of _ (by decide +kernel)) ggX2_tieNet_X2_coracleOf
theorem dX2_tieNet_0 : decode cX2_tieNet 0 = .ok (.aload_n 0, 1) := by decide +kernel
theorem dX2_tieNet_1 : decode cX2_tieNet 1 = .ok (.getfield 55, 3) := by decide +kernel
theorem dX2_tieNet_4 : decode cX2_tieNet 4 = .ok (.istore_n 3, 1) := by decide +kernel
theorem dX2_tieNet_5 : decode cX2_tieNet 5 = .ok (.aload_n 0, 1) := by decide +kernel
theorem dX2_tieNet_6 : decode cX2_tieNet 6 = .ok (.iload_n 3, 1) := by decide +kernel
theorem dX2_tieNet_7 : decode cX2_tieNet 7 = .ok (.invokevirtual 72, 3) := by decide +kernel
theorem dX2_tieNet_10 : decode cX2_tieNet 10 = .ok (.astore 4, 2) := by decide +kernel
theorem dX2_tieNet_12 : decode cX2_tieNet 12 = .ok (.aload 4, 2) := by decide +kernel
theorem dX2_tieNet_14 : decode cX2_tieNet 14 = .ok (.iload_n 1, 1) := by decide +kernel
theorem dX2_tieNet_15 : decode cX2_tieNet 15 = .ok (.putfield 76, 3) := by decide +kernel
theorem dX2_tieNet_18 : decode cX2_tieNet 18 = .ok (.aload 4, 2) := by decide +kernel
theorem dX2_tieNet_20 : decode cX2_tieNet 20 = .ok (.iload_n 2, 1) := by decide +kernel
theorem dX2_tieNet_21 : decode cX2_tieNet 21 = .ok (.putfield 79, 3) := by decide +kernel
theorem dX2_tieNet_24 : decode cX2_tieNet 24 = .ok (.aload_n 0, 1) := by decide +kernel
theorem dX2_tieNet_25 : decode cX2_tieNet 25 = .ok (.iload_n 1, 1) := by decide +kernel
theorem dX2_tieNet_26 : decode cX2_tieNet 26 = .ok (.invokevirtual 64, 3) := by decide +kernel
theorem dX2_tieNet_29 : decode cX2_tieNet 29 = .ok (.iload_n 2, 1) := by decide +kernel
theorem dX2_tieNet_30 : decode cX2_tieNet 30 = .ok (.putfield 82, 3) := by decide +kernel
theorem dX2_tieNet_33 : decode cX2_tieNet 33 = .ok (.aload_n 0, 1) := by decide +kernel
theorem dX2_tieNet_34 : decode cX2_tieNet 34 = .ok (.iload_n 2, 1) := by decide +kernel
theorem dX2_tieNet_35 : decode cX2_tieNet 35 = .ok (.invokevirtual 64, 3) := by decide +kernel
theorem dX2_tieNet_38 : decode cX2_tieNet 38 = .ok (.iload_n 1, 1) := by decide +kernel
theorem dX2_tieNet_39 : decode cX2_tieNet 39 = .ok (.putfield 82, 3) := by decide +kernel
theorem dX2_tieNet_42 : decode cX2_tieNet 42 = .ok (.aload_n 0, 1) := by decide +kernel
theorem dX2_tieNet_43 : decode cX2_tieNet 43 = .ok (.dup, 1) := by decide +kernel
theorem dX2_tieNet_44 : decode cX2_tieNet 44 = .ok (.getfield 55, 3) := by decide +kernel
theorem dX2_tieNet_47 : decode cX2_tieNet 47 = .ok (.iconst 1, 1) := by decide +kernel
theorem dX2_tieNet_48 : decode cX2_tieNet 48 = .ok (.iadd, 1) := by decide +kernel
theorem dX2_tieNet_49 : decode cX2_tieNet 49 = .ok (.putfield 55, 3) := by decide +kernel
theorem dX2_tieNet_52 : decode cX2_tieNet 52 = .ok (.iload_n 3, 1) := by decide +kernel
theorem dX2_tieNet_53 : decode cX2_tieNet 53 = .ok (.ireturn, 1) := by decide +kernel
set_option maxRecDepth 20000 in
theorem ggX2_liveHour_X2_moveAll : GoodIn wsX2_liveHour wsX2_moveAll := goodIn_r _ [12, 13, 14, 15, 16, 17, 18, 19, 20, 21, 5, 6, 7, 22, 23, 24, 25, 26, 98, 99, 100, 101, 102, 103, 104, 105, 106, 107, 108, 109, 110, 111, 112, 113, 114, 115, 116, 117] (by decide +kernel) (by decide +kernel)
set_option maxRecDepth 20000 in
theorem gX2_liveHour_X2_moveAll : GoodIn wsX2_liveHour (wsV RX2 85 RX2 yX2_moveAll wsX2_moveAll) := goodIn_app (goodIn_of _ (by decide +kernel)) ggX2_liveHour_X2_moveAll
set_option maxRecDepth 20000 in
theorem ggX2_liveHour_X2_netOf : GoodIn wsX2_liveHour wsX2_netOf := goodIn_r _ [30, 31, 98, 99, 100, 101, 102, 103, 104, 105, 106, 107] (by decide +kernel) (by decide +kernel)
set_option maxRecDepth 20000 in
theorem gX2_liveHour_X2_netOf : GoodIn wsX2_liveHour (wsV RX2 72 RX2 yX2_netOf wsX2_netOf) := goodIn_app (goodIn_of _ (by decide +kernel)) ggX2_liveHour_X2_netOf
set_option maxRecDepth 20000 in
theorem ggX2_liveHour_X2_draw : GoodIn wsX2_liveHour wsX2_draw := goodIn_r _ [35, 36, 37, 38, 25, 6, 26, 4, 5, 7, 39, 40, 41, 42, 43, 44, 11, 45, 13, 46, 47, 48, 49, 50, 51, 52, 53, 54, 14, 55, 56, 57, 18, 58, 59, 20, 60, 61, 62, 63, 64, 65, 66, 67, 68, 69, 3, 70, 71, 72, 73, 118, 119, 120, 108, 109, 110, 111, 112, 113, 114, 115, 116, 117, 98, 99, 100, 101, 102, 103, 104, 105, 106, 107] (by decide +kernel) (by decide +kernel)
set_option maxRecDepth 20000 in
theorem gX2_liveHour_X2_draw : GoodIn wsX2_liveHour (wsV RX2 89 RX2 yX2_draw wsX2_draw) := goodIn_app (goodIn_of _ (by decide +kernel)) ggX2_liveHour_X2_draw
set_option maxRecDepth 20000 in
theorem ggX2_liveHour_X2_wearAll : GoodIn wsX2_liveHour wsX2_wearAll := goodIn_r _ [77, 13, 14, 78, 79, 80, 18, 81, 82, 24, 25, 6, 26, 83, 64, 59, 65, 84, 85, 86, 87, 88, 98, 99, 100, 101, 102, 103, 104, 105, 106, 107, 108, 109, 110, 111, 112, 113, 114, 115, 116, 117] (by decide +kernel) (by decide +kernel)
set_option maxRecDepth 20000 in
theorem gX2_liveHour_X2_wearAll : GoodIn wsX2_liveHour (wsV RX2 93 RX2 yX2_wearAll wsX2_wearAll) := goodIn_app (goodIn_of _ (by decide +kernel)) ggX2_liveHour_X2_wearAll
set_option maxRecDepth 20000 in
theorem ggX2_liveHour_J9_floorMod_7cf53 : GoodIn wsX2_liveHour wsJ9_floorMod_7cf53 := goodIn_r _ [92] (by decide +kernel) (by decide +kernel)
set_option maxRecDepth 20000 in
theorem gX2_liveHour_J9_floorMod_7cf53 : GoodIn wsX2_liveHour (va_wsS RX2 96 yJ9_floorMod_7cf53 wsJ9_floorMod_7cf53) := goodIn_app (goodIn_of _ (by decide +kernel)) ggX2_liveHour_J9_floorMod_7cf53
set_option maxRecDepth 20000 in
theorem ggX2_liveHour_X2_climb : GoodIn wsX2_liveHour wsX2_climb := goodIn_r _ [96, 3, 4, 5, 6, 7, 97, 98, 99, 100, 101, 102, 103, 104, 105, 106, 107] (by decide +kernel) (by decide +kernel)
set_option maxRecDepth 20000 in
theorem gX2_liveHour_X2_climb : GoodIn wsX2_liveHour (wsV RX2 102 RX2 yX2_climb wsX2_climb) := goodIn_app (goodIn_of _ (by decide +kernel)) ggX2_liveHour_X2_climb
theorem dX2_liveHour_0 : decode cX2_liveHour 0 = .ok (.aload_n 0, 1) := by decide +kernel
theorem dX2_liveHour_1 : decode cX2_liveHour 1 = .ok (.iload_n 1, 1) := by decide +kernel
theorem dX2_liveHour_2 : decode cX2_liveHour 2 = .ok (.invokevirtual 85, 3) := by decide +kernel
theorem dX2_liveHour_5 : decode cX2_liveHour 5 = .ok (.iconst 0, 1) := by decide +kernel
theorem dX2_liveHour_6 : decode cX2_liveHour 6 = .ok (.istore_n 3, 1) := by decide +kernel
theorem dX2_liveHour_7 : decode cX2_liveHour 7 = .ok (.iconst 0, 1) := by decide +kernel
theorem dX2_liveHour_8 : decode cX2_liveHour 8 = .ok (.istore 4, 2) := by decide +kernel
theorem dX2_liveHour_10 : decode cX2_liveHour 10 = .ok (.iload 4, 2) := by decide +kernel
theorem dX2_liveHour_12 : decode cX2_liveHour 12 = .ok (.aload_n 0, 1) := by decide +kernel
theorem dX2_liveHour_13 : decode cX2_liveHour 13 = .ok (.getfield 55, 3) := by decide +kernel
theorem dX2_liveHour_16 : decode cX2_liveHour 16 = .ok (.if_icmp .ge 22, 3) := by decide +kernel
theorem dX2_liveHour_19 : decode cX2_liveHour 19 = .ok (.iload_n 3, 1) := by decide +kernel
theorem dX2_liveHour_20 : decode cX2_liveHour 20 = .ok (.aload_n 0, 1) := by decide +kernel
theorem dX2_liveHour_21 : decode cX2_liveHour 21 = .ok (.aload_n 0, 1) := by decide +kernel
theorem dX2_liveHour_22 : decode cX2_liveHour 22 = .ok (.iload 4, 2) := by decide +kernel
theorem dX2_liveHour_24 : decode cX2_liveHour 24 = .ok (.invokevirtual 72, 3) := by decide +kernel
theorem dX2_liveHour_27 : decode cX2_liveHour 27 = .ok (.invokevirtual 89, 3) := by decide +kernel
theorem dX2_liveHour_30 : decode cX2_liveHour 30 = .ok (.iadd, 1) := by decide +kernel
theorem dX2_liveHour_31 : decode cX2_liveHour 31 = .ok (.istore_n 3, 1) := by decide +kernel
theorem dX2_liveHour_32 : decode cX2_liveHour 32 = .ok (.iinc 4 1, 3) := by decide +kernel
theorem dX2_liveHour_35 : decode cX2_liveHour 35 = .ok (.goto (-25), 3) := by decide +kernel
theorem dX2_liveHour_38 : decode cX2_liveHour 38 = .ok (.aload_n 0, 1) := by decide +kernel
theorem dX2_liveHour_39 : decode cX2_liveHour 39 = .ok (.invokevirtual 93, 3) := by decide +kernel
theorem dX2_liveHour_42 : decode cX2_liveHour 42 = .ok (.aload_n 0, 1) := by decide +kernel
theorem dX2_liveHour_43 : decode cX2_liveHour 43 = .ok (.getfield 49, 3) := by decide +kernel
theorem dX2_liveHour_46 : decode cX2_liveHour 46 = .ok (.iconst 4, 1) := by decide +kernel
theorem dX2_liveHour_47 : decode cX2_liveHour 47 = .ok (.invokestatic 96, 3) := by decide +kernel
theorem dX2_liveHour_50 : decode cX2_liveHour 50 = .ok (.iconst 3, 1) := by decide +kernel
theorem dX2_liveHour_51 : decode cX2_liveHour 51 = .ok (.if_icmp .ne 7, 3) := by decide +kernel
theorem dX2_liveHour_54 : decode cX2_liveHour 54 = .ok (.aload_n 0, 1) := by decide +kernel
theorem dX2_liveHour_55 : decode cX2_liveHour 55 = .ok (.invokevirtual 102, 3) := by decide +kernel
theorem dX2_liveHour_58 : decode cX2_liveHour 58 = .ok (.aload_n 0, 1) := by decide +kernel
theorem dX2_liveHour_59 : decode cX2_liveHour 59 = .ok (.getfield 23, 3) := by decide +kernel
theorem dX2_liveHour_62 : decode cX2_liveHour 62 = .ok (.bipush 15, 2) := by decide +kernel
theorem dX2_liveHour_64 : decode cX2_liveHour 64 = .ok (.bipush 60, 2) := by decide +kernel
theorem dX2_liveHour_66 : decode cX2_liveHour 66 = .ok (.aload_n 0, 1) := by decide +kernel
theorem dX2_liveHour_67 : decode cX2_liveHour 67 = .ok (.getfield 23, 3) := by decide +kernel
theorem dX2_liveHour_70 : decode cX2_liveHour 70 = .ok (.bipush 15, 2) := by decide +kernel
theorem dX2_liveHour_72 : decode cX2_liveHour 72 = .ok (.iaload, 1) := by decide +kernel
theorem dX2_liveHour_73 : decode cX2_liveHour 73 = .ok (.iload_n 2, 1) := by decide +kernel
theorem dX2_liveHour_74 : decode cX2_liveHour 74 = .ok (.iadd, 1) := by decide +kernel
theorem dX2_liveHour_75 : decode cX2_liveHour 75 = .ok (.invokestatic 105, 3) := by decide +kernel
theorem dX2_liveHour_78 : decode cX2_liveHour 78 = .ok (.iastore, 1) := by decide +kernel
theorem dX2_liveHour_79 : decode cX2_liveHour 79 = .ok (.aload_n 0, 1) := by decide +kernel
theorem dX2_liveHour_80 : decode cX2_liveHour 80 = .ok (.dup, 1) := by decide +kernel
theorem dX2_liveHour_81 : decode cX2_liveHour 81 = .ok (.getfield 49, 3) := by decide +kernel
theorem dX2_liveHour_84 : decode cX2_liveHour 84 = .ok (.iconst 1, 1) := by decide +kernel
theorem dX2_liveHour_85 : decode cX2_liveHour 85 = .ok (.iadd, 1) := by decide +kernel
theorem dX2_liveHour_86 : decode cX2_liveHour 86 = .ok (.putfield 49, 3) := by decide +kernel
theorem dX2_liveHour_89 : decode cX2_liveHour 89 = .ok (.iload_n 3, 1) := by decide +kernel
theorem dX2_liveHour_90 : decode cX2_liveHour 90 = .ok (.ireturn, 1) := by decide +kernel
set_option maxRecDepth 20000 in
theorem ggX2_moveAll_X0_move : GoodIn wsX2_moveAll wsX0_move := goodIn_r _ [7, 8, 9, 10, 11, 12, 13, 14, 15, 16, 17, 28, 29, 30, 31, 32, 33, 34, 35, 36, 37] (by decide +kernel) (by decide +kernel)
set_option maxRecDepth 20000 in
theorem gX2_moveAll_X0_move : GoodIn wsX2_moveAll (wsV RX2 112 RX0 yX0_move wsX0_move) := goodIn_app (goodIn_of _ (by decide +kernel)) ggX2_moveAll_X0_move
theorem dX2_moveAll_0 : decode cX2_moveAll 0 = .ok (.aload_n 0, 1) := by decide +kernel
theorem dX2_moveAll_1 : decode cX2_moveAll 1 = .ok (.getfield 11, 3) := by decide +kernel
theorem dX2_moveAll_4 : decode cX2_moveAll 4 = .ok (.astore_n 2, 1) := by decide +kernel
theorem dX2_moveAll_5 : decode cX2_moveAll 5 = .ok (.aload_n 2, 1) := by decide +kernel
theorem dX2_moveAll_6 : decode cX2_moveAll 6 = .ok (.arraylength, 1) := by decide +kernel
theorem dX2_moveAll_7 : decode cX2_moveAll 7 = .ok (.istore_n 3, 1) := by decide +kernel
theorem dX2_moveAll_8 : decode cX2_moveAll 8 = .ok (.iconst 0, 1) := by decide +kernel
theorem dX2_moveAll_9 : decode cX2_moveAll 9 = .ok (.istore 4, 2) := by decide +kernel
theorem dX2_moveAll_11 : decode cX2_moveAll 11 = .ok (.iload 4, 2) := by decide +kernel
theorem dX2_moveAll_13 : decode cX2_moveAll 13 = .ok (.iload_n 3, 1) := by decide +kernel
theorem dX2_moveAll_14 : decode cX2_moveAll 14 = .ok (.if_icmp .ge 29, 3) := by decide +kernel
theorem dX2_moveAll_17 : decode cX2_moveAll 17 = .ok (.aload_n 2, 1) := by decide +kernel
theorem dX2_moveAll_18 : decode cX2_moveAll 18 = .ok (.iload 4, 2) := by decide +kernel
theorem dX2_moveAll_20 : decode cX2_moveAll 20 = .ok (.aaload, 1) := by decide +kernel
theorem dX2_moveAll_21 : decode cX2_moveAll 21 = .ok (.astore 5, 2) := by decide +kernel
theorem dX2_moveAll_23 : decode cX2_moveAll 23 = .ok (.aload 5, 2) := by decide +kernel
theorem dX2_moveAll_25 : decode cX2_moveAll 25 = .ok (.getfield 108, 3) := by decide +kernel
theorem dX2_moveAll_28 : decode cX2_moveAll 28 = .ok (.ifCond .eq 9, 3) := by decide +kernel
theorem dX2_moveAll_31 : decode cX2_moveAll 31 = .ok (.aload 5, 2) := by decide +kernel
theorem dX2_moveAll_33 : decode cX2_moveAll 33 = .ok (.iload_n 1, 1) := by decide +kernel
theorem dX2_moveAll_34 : decode cX2_moveAll 34 = .ok (.invokevirtual 112, 3) := by decide +kernel
theorem dX2_moveAll_37 : decode cX2_moveAll 37 = .ok (.iinc 4 1, 3) := by decide +kernel
theorem dX2_moveAll_40 : decode cX2_moveAll 40 = .ok (.goto (-29), 3) := by decide +kernel
theorem dX2_moveAll_43 : decode cX2_moveAll 43 = .ok (.return_, 1) := by decide +kernel
set_option maxRecDepth 20000 in
theorem ggX2_draw_X2_coracleOf : GoodIn wsX2_draw wsX2_coracleOf := goodIn_r _ [17, 18, 64, 65, 66, 67, 68, 69, 70, 71, 72, 73] (by decide +kernel) (by decide +kernel)
set_option maxRecDepth 20000 in
theorem gX2_draw_X2_coracleOf : GoodIn wsX2_draw (wsV RX2 64 RX2 yX2_coracleOf wsX2_coracleOf) := goodIn_app (goodIn_of _ (by decide +kernel)) ggX2_draw_X2_coracleOf
set_option maxRecDepth 20000 in
theorem ggX2_draw_X2_wouldCatch : GoodIn wsX2_draw wsX2_wouldCatch := goodIn_r _ [22, 1, 2, 23, 7, 8, 5, 9, 10, 24, 25, 26, 16, 27, 28, 13, 14, 15, 17, 18, 29, 30, 31, 32, 33, 34, 35, 36, 37, 38, 39, 40, 41, 42, 43, 44, 45, 46, 51, 52, 53, 54, 55, 56, 57, 58, 59, 60, 61, 62, 63, 64, 65, 66, 67, 68, 69, 70, 71, 72, 73] (by decide +kernel) (by decide +kernel)
set_option maxRecDepth 20000 in
theorem gX2_draw_X2_wouldCatch : GoodIn wsX2_draw (wsV RX2 115 RX2 yX2_wouldCatch wsX2_wouldCatch) := goodIn_app (goodIn_of _ (by decide +kernel)) ggX2_draw_X2_wouldCatch
set_option maxRecDepth 20000 in
theorem ggX2_draw_X0_room : GoodIn wsX2_draw wsX0_room := goodIn_r _ [39, 40, 41, 54, 55, 56, 57, 58, 59, 60, 61, 62, 63] (by decide +kernel) (by decide +kernel)
set_option maxRecDepth 20000 in
theorem gX2_draw_X0_room : GoodIn wsX2_draw (wsV RX2 118 RX0 yX0_room wsX0_room) := goodIn_app (goodIn_of _ (by decide +kernel)) ggX2_draw_X0_room
set_option maxRecDepth 20000 in
theorem ggX2_draw_X2_takeSalmon : GoodIn wsX2_draw wsX2_takeSalmon := goodIn_r _ [50, 46, 64, 65, 66, 67, 68, 69, 70, 71, 72, 73] (by decide +kernel) (by decide +kernel)
set_option maxRecDepth 20000 in
theorem gX2_draw_X2_takeSalmon : GoodIn wsX2_draw (wsV RX2 128 RX2 yX2_takeSalmon wsX2_takeSalmon) := goodIn_app (goodIn_of _ (by decide +kernel)) ggX2_draw_X2_takeSalmon
theorem dX2_draw_0 : decode cX2_draw 0 = .ok (.aload_n 0, 1) := by decide +kernel
theorem dX2_draw_1 : decode cX2_draw 1 = .ok (.aload_n 1, 1) := by decide +kernel
theorem dX2_draw_2 : decode cX2_draw 2 = .ok (.getfield 76, 3) := by decide +kernel
theorem dX2_draw_5 : decode cX2_draw 5 = .ok (.invokevirtual 64, 3) := by decide +kernel
theorem dX2_draw_8 : decode cX2_draw 8 = .ok (.astore_n 2, 1) := by decide +kernel
theorem dX2_draw_9 : decode cX2_draw 9 = .ok (.aload_n 0, 1) := by decide +kernel
theorem dX2_draw_10 : decode cX2_draw 10 = .ok (.aload_n 1, 1) := by decide +kernel
theorem dX2_draw_11 : decode cX2_draw 11 = .ok (.getfield 79, 3) := by decide +kernel
theorem dX2_draw_14 : decode cX2_draw 14 = .ok (.invokevirtual 64, 3) := by decide +kernel
theorem dX2_draw_17 : decode cX2_draw 17 = .ok (.astore_n 3, 1) := by decide +kernel
theorem dX2_draw_18 : decode cX2_draw 18 = .ok (.aload_n 0, 1) := by decide +kernel
theorem dX2_draw_19 : decode cX2_draw 19 = .ok (.aload_n 1, 1) := by decide +kernel
theorem dX2_draw_20 : decode cX2_draw 20 = .ok (.invokevirtual 115, 3) := by decide +kernel
theorem dX2_draw_23 : decode cX2_draw 23 = .ok (.istore 4, 2) := by decide +kernel
theorem dX2_draw_25 : decode cX2_draw 25 = .ok (.iload 4, 2) := by decide +kernel
theorem dX2_draw_27 : decode cX2_draw 27 = .ok (.iload 4, 2) := by decide +kernel
theorem dX2_draw_29 : decode cX2_draw 29 = .ok (.iconst 2, 1) := by decide +kernel
theorem dX2_draw_30 : decode cX2_draw 30 = .ok (.idiv, 1) := by decide +kernel
theorem dX2_draw_31 : decode cX2_draw 31 = .ok (.isub, 1) := by decide +kernel
theorem dX2_draw_32 : decode cX2_draw 32 = .ok (.istore 5, 2) := by decide +kernel
theorem dX2_draw_34 : decode cX2_draw 34 = .ok (.aload_n 2, 1) := by decide +kernel
theorem dX2_draw_35 : decode cX2_draw 35 = .ok (.invokevirtual 118, 3) := by decide +kernel
theorem dX2_draw_38 : decode cX2_draw 38 = .ok (.iload 5, 2) := by decide +kernel
theorem dX2_draw_40 : decode cX2_draw 40 = .ok (.iload 4, 2) := by decide +kernel
theorem dX2_draw_42 : decode cX2_draw 42 = .ok (.aload_n 3, 1) := by decide +kernel
theorem dX2_draw_43 : decode cX2_draw 43 = .ok (.invokevirtual 118, 3) := by decide +kernel
theorem dX2_draw_46 : decode cX2_draw 46 = .ok (.isub, 1) := by decide +kernel
theorem dX2_draw_47 : decode cX2_draw 47 = .ok (.invokestatic 122, 3) := by decide +kernel
theorem dX2_draw_50 : decode cX2_draw 50 = .ok (.invokestatic 105, 3) := by decide +kernel
theorem dX2_draw_53 : decode cX2_draw 53 = .ok (.istore 6, 2) := by decide +kernel
theorem dX2_draw_55 : decode cX2_draw 55 = .ok (.aload_n 0, 1) := by decide +kernel
theorem dX2_draw_56 : decode cX2_draw 56 = .ok (.aload_n 2, 1) := by decide +kernel
theorem dX2_draw_57 : decode cX2_draw 57 = .ok (.getfield 125, 3) := by decide +kernel
theorem dX2_draw_60 : decode cX2_draw 60 = .ok (.iload 4, 2) := by decide +kernel
theorem dX2_draw_62 : decode cX2_draw 62 = .ok (.invokevirtual 128, 3) := by decide +kernel
theorem dX2_draw_65 : decode cX2_draw 65 = .ok (.aload_n 2, 1) := by decide +kernel
theorem dX2_draw_66 : decode cX2_draw 66 = .ok (.dup, 1) := by decide +kernel
theorem dX2_draw_67 : decode cX2_draw 67 = .ok (.getfield 132, 3) := by decide +kernel
theorem dX2_draw_70 : decode cX2_draw 70 = .ok (.iload 6, 2) := by decide +kernel
theorem dX2_draw_72 : decode cX2_draw 72 = .ok (.iadd, 1) := by decide +kernel
theorem dX2_draw_73 : decode cX2_draw 73 = .ok (.putfield 132, 3) := by decide +kernel
theorem dX2_draw_76 : decode cX2_draw 76 = .ok (.aload_n 3, 1) := by decide +kernel
theorem dX2_draw_77 : decode cX2_draw 77 = .ok (.dup, 1) := by decide +kernel
theorem dX2_draw_78 : decode cX2_draw 78 = .ok (.getfield 132, 3) := by decide +kernel
theorem dX2_draw_81 : decode cX2_draw 81 = .ok (.iload 4, 2) := by decide +kernel
theorem dX2_draw_83 : decode cX2_draw 83 = .ok (.iload 6, 2) := by decide +kernel
theorem dX2_draw_85 : decode cX2_draw 85 = .ok (.isub, 1) := by decide +kernel
theorem dX2_draw_86 : decode cX2_draw 86 = .ok (.iadd, 1) := by decide +kernel
theorem dX2_draw_87 : decode cX2_draw 87 = .ok (.putfield 132, 3) := by decide +kernel
theorem dX2_draw_90 : decode cX2_draw 90 = .ok (.aload_n 1, 1) := by decide +kernel
theorem dX2_draw_91 : decode cX2_draw 91 = .ok (.dup, 1) := by decide +kernel
theorem dX2_draw_92 : decode cX2_draw 92 = .ok (.getfield 135, 3) := by decide +kernel
theorem dX2_draw_95 : decode cX2_draw 95 = .ok (.iload 4, 2) := by decide +kernel
theorem dX2_draw_97 : decode cX2_draw 97 = .ok (.iadd, 1) := by decide +kernel
theorem dX2_draw_98 : decode cX2_draw 98 = .ok (.putfield 135, 3) := by decide +kernel
theorem dX2_draw_101 : decode cX2_draw 101 = .ok (.iload 4, 2) := by decide +kernel
theorem dX2_draw_103 : decode cX2_draw 103 = .ok (.ireturn, 1) := by decide +kernel
set_option maxRecDepth 20000 in
theorem ggX2_wearAll_X0_wear : GoodIn wsX2_wearAll wsX0_wear := goodIn_r _ [7, 8, 9, 10, 11, 12, 13, 14, 15, 16, 17, 18, 19, 6, 20, 21, 32, 33, 34, 35, 36, 37, 38, 39, 40, 41] (by decide +kernel) (by decide +kernel)
set_option maxRecDepth 20000 in
theorem gX2_wearAll_X0_wear : GoodIn wsX2_wearAll (wsV RX2 138 RX0 yX0_wear wsX0_wear) := goodIn_app (goodIn_of _ (by decide +kernel)) ggX2_wearAll_X0_wear
theorem dX2_wearAll_0 : decode cX2_wearAll 0 = .ok (.aload_n 0, 1) := by decide +kernel
theorem dX2_wearAll_1 : decode cX2_wearAll 1 = .ok (.getfield 11, 3) := by decide +kernel
theorem dX2_wearAll_4 : decode cX2_wearAll 4 = .ok (.astore_n 1, 1) := by decide +kernel
theorem dX2_wearAll_5 : decode cX2_wearAll 5 = .ok (.aload_n 1, 1) := by decide +kernel
theorem dX2_wearAll_6 : decode cX2_wearAll 6 = .ok (.arraylength, 1) := by decide +kernel
theorem dX2_wearAll_7 : decode cX2_wearAll 7 = .ok (.istore_n 2, 1) := by decide +kernel
theorem dX2_wearAll_8 : decode cX2_wearAll 8 = .ok (.iconst 0, 1) := by decide +kernel
theorem dX2_wearAll_9 : decode cX2_wearAll 9 = .ok (.istore_n 3, 1) := by decide +kernel
theorem dX2_wearAll_10 : decode cX2_wearAll 10 = .ok (.iload_n 3, 1) := by decide +kernel
theorem dX2_wearAll_11 : decode cX2_wearAll 11 = .ok (.iload_n 2, 1) := by decide +kernel
theorem dX2_wearAll_12 : decode cX2_wearAll 12 = .ok (.if_icmp .ge 27, 3) := by decide +kernel
theorem dX2_wearAll_15 : decode cX2_wearAll 15 = .ok (.aload_n 1, 1) := by decide +kernel
theorem dX2_wearAll_16 : decode cX2_wearAll 16 = .ok (.iload_n 3, 1) := by decide +kernel
theorem dX2_wearAll_17 : decode cX2_wearAll 17 = .ok (.aaload, 1) := by decide +kernel
theorem dX2_wearAll_18 : decode cX2_wearAll 18 = .ok (.astore 4, 2) := by decide +kernel
theorem dX2_wearAll_20 : decode cX2_wearAll 20 = .ok (.aload 4, 2) := by decide +kernel
theorem dX2_wearAll_22 : decode cX2_wearAll 22 = .ok (.getfield 108, 3) := by decide +kernel
theorem dX2_wearAll_25 : decode cX2_wearAll 25 = .ok (.ifCond .eq 8, 3) := by decide +kernel
theorem dX2_wearAll_28 : decode cX2_wearAll 28 = .ok (.aload 4, 2) := by decide +kernel
theorem dX2_wearAll_30 : decode cX2_wearAll 30 = .ok (.invokevirtual 138, 3) := by decide +kernel
theorem dX2_wearAll_33 : decode cX2_wearAll 33 = .ok (.iinc 3 1, 3) := by decide +kernel
theorem dX2_wearAll_36 : decode cX2_wearAll 36 = .ok (.goto (-26), 3) := by decide +kernel
theorem dX2_wearAll_39 : decode cX2_wearAll 39 = .ok (.return_, 1) := by decide +kernel
theorem dX2_climb_0 : decode cX2_climb 0 = .ok (.iconst 0, 1) := by decide +kernel
theorem dX2_climb_1 : decode cX2_climb 1 = .ok (.istore_n 1, 1) := by decide +kernel
theorem dX2_climb_2 : decode cX2_climb 2 = .ok (.bipush 15, 2) := by decide +kernel
theorem dX2_climb_4 : decode cX2_climb 4 = .ok (.istore_n 2, 1) := by decide +kernel
theorem dX2_climb_5 : decode cX2_climb 5 = .ok (.iload_n 2, 1) := by decide +kernel
theorem dX2_climb_6 : decode cX2_climb 6 = .ok (.ifCond .lt 41, 3) := by decide +kernel
theorem dX2_climb_9 : decode cX2_climb 9 = .ok (.aload_n 0, 1) := by decide +kernel
theorem dX2_climb_10 : decode cX2_climb 10 = .ok (.getfield 23, 3) := by decide +kernel
theorem dX2_climb_13 : decode cX2_climb 13 = .ok (.iload_n 2, 1) := by decide +kernel
theorem dX2_climb_14 : decode cX2_climb 14 = .ok (.iaload, 1) := by decide +kernel
theorem dX2_climb_15 : decode cX2_climb 15 = .ok (.iconst 2, 1) := by decide +kernel
theorem dX2_climb_16 : decode cX2_climb 16 = .ok (.idiv, 1) := by decide +kernel
theorem dX2_climb_17 : decode cX2_climb 17 = .ok (.istore_n 3, 1) := by decide +kernel
theorem dX2_climb_18 : decode cX2_climb 18 = .ok (.aload_n 0, 1) := by decide +kernel
theorem dX2_climb_19 : decode cX2_climb 19 = .ok (.getfield 23, 3) := by decide +kernel
theorem dX2_climb_22 : decode cX2_climb 22 = .ok (.iload_n 2, 1) := by decide +kernel
theorem dX2_climb_23 : decode cX2_climb 23 = .ok (.bipush 60, 2) := by decide +kernel
theorem dX2_climb_25 : decode cX2_climb 25 = .ok (.aload_n 0, 1) := by decide +kernel
theorem dX2_climb_26 : decode cX2_climb 26 = .ok (.getfield 23, 3) := by decide +kernel
theorem dX2_climb_29 : decode cX2_climb 29 = .ok (.iload_n 2, 1) := by decide +kernel
theorem dX2_climb_30 : decode cX2_climb 30 = .ok (.iaload, 1) := by decide +kernel
theorem dX2_climb_31 : decode cX2_climb 31 = .ok (.iload_n 3, 1) := by decide +kernel
theorem dX2_climb_32 : decode cX2_climb 32 = .ok (.isub, 1) := by decide +kernel
theorem dX2_climb_33 : decode cX2_climb 33 = .ok (.iload_n 1, 1) := by decide +kernel
theorem dX2_climb_34 : decode cX2_climb 34 = .ok (.iadd, 1) := by decide +kernel
theorem dX2_climb_35 : decode cX2_climb 35 = .ok (.invokestatic 105, 3) := by decide +kernel
theorem dX2_climb_38 : decode cX2_climb 38 = .ok (.iastore, 1) := by decide +kernel
theorem dX2_climb_39 : decode cX2_climb 39 = .ok (.iload_n 3, 1) := by decide +kernel
theorem dX2_climb_40 : decode cX2_climb 40 = .ok (.istore_n 1, 1) := by decide +kernel
theorem dX2_climb_41 : decode cX2_climb 41 = .ok (.iinc 2 (-1), 3) := by decide +kernel
theorem dX2_climb_44 : decode cX2_climb 44 = .ok (.goto (-39), 3) := by decide +kernel
theorem dX2_climb_47 : decode cX2_climb 47 = .ok (.aload_n 0, 1) := by decide +kernel
theorem dX2_climb_48 : decode cX2_climb 48 = .ok (.dup, 1) := by decide +kernel
theorem dX2_climb_49 : decode cX2_climb 49 = .ok (.getfield 61, 3) := by decide +kernel
theorem dX2_climb_52 : decode cX2_climb 52 = .ok (.iload_n 1, 1) := by decide +kernel
theorem dX2_climb_53 : decode cX2_climb 53 = .ok (.iadd, 1) := by decide +kernel
theorem dX2_climb_54 : decode cX2_climb 54 = .ok (.putfield 61, 3) := by decide +kernel
theorem dX2_climb_57 : decode cX2_climb 57 = .ok (.return_, 1) := by decide +kernel
set_option maxRecDepth 20000 in
theorem ggX2_isTogether_X2_coracleOf : GoodIn wsX2_isTogether wsX2_coracleOf := goodIn_r _ [9, 10, 31, 32, 33, 34, 35, 36, 37, 38, 39, 40] (by decide +kernel) (by decide +kernel)
set_option maxRecDepth 20000 in
theorem gX2_isTogether_X2_coracleOf : GoodIn wsX2_isTogether (wsV RX2 64 RX2 yX2_coracleOf wsX2_coracleOf) := goodIn_app (goodIn_of _ (by decide +kernel)) ggX2_isTogether_X2_coracleOf
set_option maxRecDepth 20000 in
theorem ggX2_isTogether_X0_isAfloatAt : GoodIn wsX2_isTogether wsX0_isAfloatAt := goodIn_r _ [15, 16, 17, 21, 22, 23, 24, 25, 26, 27, 28, 29, 30] (by decide +kernel) (by decide +kernel)
set_option maxRecDepth 20000 in
theorem gX2_isTogether_X0_isAfloatAt : GoodIn wsX2_isTogether (wsV RX2 141 RX0 yX0_isAfloatAt wsX0_isAfloatAt) := goodIn_app (goodIn_of _ (by decide +kernel)) ggX2_isTogether_X0_isAfloatAt
theorem dX2_isTogether_0 : decode cX2_isTogether 0 = .ok (.aload_n 0, 1) := by decide +kernel
theorem dX2_isTogether_1 : decode cX2_isTogether 1 = .ok (.aload_n 1, 1) := by decide +kernel
theorem dX2_isTogether_2 : decode cX2_isTogether 2 = .ok (.getfield 76, 3) := by decide +kernel
theorem dX2_isTogether_5 : decode cX2_isTogether 5 = .ok (.invokevirtual 64, 3) := by decide +kernel
theorem dX2_isTogether_8 : decode cX2_isTogether 8 = .ok (.astore_n 2, 1) := by decide +kernel
theorem dX2_isTogether_9 : decode cX2_isTogether 9 = .ok (.aload_n 0, 1) := by decide +kernel
theorem dX2_isTogether_10 : decode cX2_isTogether 10 = .ok (.aload_n 1, 1) := by decide +kernel
theorem dX2_isTogether_11 : decode cX2_isTogether 11 = .ok (.getfield 79, 3) := by decide +kernel
theorem dX2_isTogether_14 : decode cX2_isTogether 14 = .ok (.invokevirtual 64, 3) := by decide +kernel
theorem dX2_isTogether_17 : decode cX2_isTogether 17 = .ok (.astore_n 3, 1) := by decide +kernel
theorem dX2_isTogether_18 : decode cX2_isTogether 18 = .ok (.aload_n 2, 1) := by decide +kernel
theorem dX2_isTogether_19 : decode cX2_isTogether 19 = .ok (.getfield 108, 3) := by decide +kernel
theorem dX2_isTogether_22 : decode cX2_isTogether 22 = .ok (.ifCond .eq 18, 3) := by decide +kernel
theorem dX2_isTogether_25 : decode cX2_isTogether 25 = .ok (.aload_n 3, 1) := by decide +kernel
theorem dX2_isTogether_26 : decode cX2_isTogether 26 = .ok (.aload_n 2, 1) := by decide +kernel
theorem dX2_isTogether_27 : decode cX2_isTogether 27 = .ok (.getfield 125, 3) := by decide +kernel
theorem dX2_isTogether_30 : decode cX2_isTogether 30 = .ok (.invokevirtual 141, 3) := by decide +kernel
theorem dX2_isTogether_33 : decode cX2_isTogether 33 = .ok (.ifCond .eq 7, 3) := by decide +kernel
theorem dX2_isTogether_36 : decode cX2_isTogether 36 = .ok (.iconst 1, 1) := by decide +kernel
theorem dX2_isTogether_37 : decode cX2_isTogether 37 = .ok (.goto 4, 3) := by decide +kernel
theorem dX2_isTogether_40 : decode cX2_isTogether 40 = .ok (.iconst 0, 1) := by decide +kernel
theorem dX2_isTogether_41 : decode cX2_isTogether 41 = .ok (.ireturn, 1) := by decide +kernel
set_option maxRecDepth 20000 in
theorem ggX2_wouldCatch_X2_isTogether : GoodIn wsX2_wouldCatch wsX2_isTogether := goodIn_r _ [13, 1, 2, 14, 8, 15, 16, 17, 12, 18, 19, 20, 21, 22, 23, 24, 25, 26, 38, 39, 40, 41, 42, 43, 44, 45, 46, 47, 48, 49, 50, 51, 52, 53, 54, 55, 56, 57, 58, 59, 60] (by decide +kernel) (by decide +kernel)
set_option maxRecDepth 20000 in
theorem gX2_wouldCatch_X2_isTogether : GoodIn wsX2_wouldCatch (wsV RX2 145 RX2 yX2_isTogether wsX2_isTogether) := goodIn_app (goodIn_of _ (by decide +kernel)) ggX2_wouldCatch_X2_isTogether
set_option maxRecDepth 20000 in
theorem ggX2_wouldCatch_X2_coracleOf : GoodIn wsX2_wouldCatch wsX2_coracleOf := goodIn_r _ [18, 19, 51, 52, 53, 54, 55, 56, 57, 58, 59, 60] (by decide +kernel) (by decide +kernel)
set_option maxRecDepth 20000 in
theorem gX2_wouldCatch_X2_coracleOf : GoodIn wsX2_wouldCatch (wsV RX2 64 RX2 yX2_coracleOf wsX2_coracleOf) := goodIn_app (goodIn_of _ (by decide +kernel)) ggX2_wouldCatch_X2_coracleOf
set_option maxRecDepth 20000 in
theorem ggX2_wouldCatch_X0_room : GoodIn wsX2_wouldCatch wsX0_room := goodIn_r _ [30, 31, 32, 41, 42, 43, 44, 45, 46, 47, 48, 49, 50] (by decide +kernel) (by decide +kernel)
set_option maxRecDepth 20000 in
theorem gX2_wouldCatch_X0_room : GoodIn wsX2_wouldCatch (wsV RX2 118 RX0 yX0_room wsX0_room) := goodIn_app (goodIn_of _ (by decide +kernel)) ggX2_wouldCatch_X0_room
set_option maxRecDepth 20000 in
theorem ggX2_wouldCatch_X2_salmonAt : GoodIn wsX2_wouldCatch wsX2_salmonAt := goodIn_r _ [36, 37, 51, 52, 53, 54, 55, 56, 57, 58, 59, 60] (by decide +kernel) (by decide +kernel)
set_option maxRecDepth 20000 in
theorem gX2_wouldCatch_X2_salmonAt : GoodIn wsX2_wouldCatch (wsV RX2 152 RX2 yX2_salmonAt wsX2_salmonAt) := goodIn_app (goodIn_of _ (by decide +kernel)) ggX2_wouldCatch_X2_salmonAt
theorem dX2_wouldCatch_0 : decode cX2_wouldCatch 0 = .ok (.aload_n 0, 1) := by decide +kernel
theorem dX2_wouldCatch_1 : decode cX2_wouldCatch 1 = .ok (.aload_n 1, 1) := by decide +kernel
theorem dX2_wouldCatch_2 : decode cX2_wouldCatch 2 = .ok (.invokevirtual 145, 3) := by decide +kernel
theorem dX2_wouldCatch_5 : decode cX2_wouldCatch 5 = .ok (.ifCond .ne 5, 3) := by decide +kernel
theorem dX2_wouldCatch_8 : decode cX2_wouldCatch 8 = .ok (.iconst 0, 1) := by decide +kernel
theorem dX2_wouldCatch_9 : decode cX2_wouldCatch 9 = .ok (.ireturn, 1) := by decide +kernel
theorem dX2_wouldCatch_10 : decode cX2_wouldCatch 10 = .ok (.aload_n 0, 1) := by decide +kernel
theorem dX2_wouldCatch_11 : decode cX2_wouldCatch 11 = .ok (.aload_n 1, 1) := by decide +kernel
theorem dX2_wouldCatch_12 : decode cX2_wouldCatch 12 = .ok (.getfield 76, 3) := by decide +kernel
theorem dX2_wouldCatch_15 : decode cX2_wouldCatch 15 = .ok (.invokevirtual 64, 3) := by decide +kernel
theorem dX2_wouldCatch_18 : decode cX2_wouldCatch 18 = .ok (.astore_n 2, 1) := by decide +kernel
theorem dX2_wouldCatch_19 : decode cX2_wouldCatch 19 = .ok (.aload_n 0, 1) := by decide +kernel
theorem dX2_wouldCatch_20 : decode cX2_wouldCatch 20 = .ok (.aload_n 1, 1) := by decide +kernel
theorem dX2_wouldCatch_21 : decode cX2_wouldCatch 21 = .ok (.getfield 79, 3) := by decide +kernel
theorem dX2_wouldCatch_24 : decode cX2_wouldCatch 24 = .ok (.invokevirtual 64, 3) := by decide +kernel
theorem dX2_wouldCatch_27 : decode cX2_wouldCatch 27 = .ok (.astore_n 3, 1) := by decide +kernel
theorem dX2_wouldCatch_28 : decode cX2_wouldCatch 28 = .ok (.iconst 2, 1) := by decide +kernel
theorem dX2_wouldCatch_29 : decode cX2_wouldCatch 29 = .ok (.aload_n 2, 1) := by decide +kernel
theorem dX2_wouldCatch_30 : decode cX2_wouldCatch 30 = .ok (.getfield 149, 3) := by decide +kernel
theorem dX2_wouldCatch_33 : decode cX2_wouldCatch 33 = .ok (.aload_n 3, 1) := by decide +kernel
theorem dX2_wouldCatch_34 : decode cX2_wouldCatch 34 = .ok (.getfield 149, 3) := by decide +kernel
theorem dX2_wouldCatch_37 : decode cX2_wouldCatch 37 = .ok (.invokestatic 105, 3) := by decide +kernel
theorem dX2_wouldCatch_40 : decode cX2_wouldCatch 40 = .ok (.iadd, 1) := by decide +kernel
theorem dX2_wouldCatch_41 : decode cX2_wouldCatch 41 = .ok (.istore 4, 2) := by decide +kernel
theorem dX2_wouldCatch_43 : decode cX2_wouldCatch 43 = .ok (.aload_n 2, 1) := by decide +kernel
theorem dX2_wouldCatch_44 : decode cX2_wouldCatch 44 = .ok (.invokevirtual 118, 3) := by decide +kernel
theorem dX2_wouldCatch_47 : decode cX2_wouldCatch 47 = .ok (.aload_n 3, 1) := by decide +kernel
theorem dX2_wouldCatch_48 : decode cX2_wouldCatch 48 = .ok (.invokevirtual 118, 3) := by decide +kernel
theorem dX2_wouldCatch_51 : decode cX2_wouldCatch 51 = .ok (.iadd, 1) := by decide +kernel
theorem dX2_wouldCatch_52 : decode cX2_wouldCatch 52 = .ok (.istore 5, 2) := by decide +kernel
theorem dX2_wouldCatch_54 : decode cX2_wouldCatch 54 = .ok (.aload_n 0, 1) := by decide +kernel
theorem dX2_wouldCatch_55 : decode cX2_wouldCatch 55 = .ok (.aload_n 2, 1) := by decide +kernel
theorem dX2_wouldCatch_56 : decode cX2_wouldCatch 56 = .ok (.getfield 125, 3) := by decide +kernel
theorem dX2_wouldCatch_59 : decode cX2_wouldCatch 59 = .ok (.invokevirtual 152, 3) := by decide +kernel
theorem dX2_wouldCatch_62 : decode cX2_wouldCatch 62 = .ok (.iload 4, 2) := by decide +kernel
theorem dX2_wouldCatch_64 : decode cX2_wouldCatch 64 = .ok (.iload 5, 2) := by decide +kernel
theorem dX2_wouldCatch_66 : decode cX2_wouldCatch 66 = .ok (.invokestatic 105, 3) := by decide +kernel
theorem dX2_wouldCatch_69 : decode cX2_wouldCatch 69 = .ok (.invokestatic 105, 3) := by decide +kernel
theorem dX2_wouldCatch_72 : decode cX2_wouldCatch 72 = .ok (.ireturn, 1) := by decide +kernel
set_option maxRecDepth 20000 in
theorem ggX2_tellOfNet_X2_netOf : GoodIn wsX2_tellOfNet wsX2_netOf := goodIn_r _ [8, 9, 51, 52, 53, 54, 55, 56, 57, 58, 59, 60] (by decide +kernel) (by decide +kernel)
set_option maxRecDepth 20000 in
theorem gX2_tellOfNet_X2_netOf : GoodIn wsX2_tellOfNet (wsV RX2 72 RX2 yX2_netOf wsX2_netOf) := goodIn_app (goodIn_of _ (by decide +kernel)) ggX2_tellOfNet_X2_netOf
set_option maxRecDepth 20000 in
theorem ggX2_tellOfNet_X2_wouldCatch : GoodIn wsX2_tellOfNet wsX2_wouldCatch := goodIn_r _ [13, 1, 2, 14, 15, 16, 17, 18, 19, 20, 21, 22, 7, 23, 24, 25, 26, 27, 28, 29, 30, 31, 32, 33, 34, 35, 36, 37, 38, 39, 40, 41, 42, 43, 44, 45, 46, 47, 48, 49, 50, 61, 62, 63, 64, 65, 66, 67, 68, 69, 70, 51, 52, 53, 54, 55, 56, 57, 58, 59, 60] (by decide +kernel) (by decide +kernel)
set_option maxRecDepth 20000 in
theorem gX2_tellOfNet_X2_wouldCatch : GoodIn wsX2_tellOfNet (wsV RX2 115 RX2 yX2_wouldCatch wsX2_wouldCatch) := goodIn_app (goodIn_of _ (by decide +kernel)) ggX2_tellOfNet_X2_wouldCatch
theorem dX2_tellOfNet_0 : decode cX2_tellOfNet 0 = .ok (.aload_n 0, 1) := by decide +kernel
theorem dX2_tellOfNet_1 : decode cX2_tellOfNet 1 = .ok (.iload_n 1, 1) := by decide +kernel
theorem dX2_tellOfNet_2 : decode cX2_tellOfNet 2 = .ok (.invokevirtual 72, 3) := by decide +kernel
theorem dX2_tellOfNet_5 : decode cX2_tellOfNet 5 = .ok (.astore_n 3, 1) := by decide +kernel
theorem dX2_tellOfNet_6 : decode cX2_tellOfNet 6 = .ok (.iload_n 2, 1) := by decide +kernel
theorem dX2_tellOfNet_7 : decode cX2_tellOfNet 7 = .ok (.tableswitch 40 0 2 #[25, 30, 35], 25) := by decide +kernel
theorem dX2_tellOfNet_32 : decode cX2_tellOfNet 32 = .ok (.aload_n 3, 1) := by decide +kernel
theorem dX2_tellOfNet_33 : decode cX2_tellOfNet 33 = .ok (.getfield 76, 3) := by decide +kernel
theorem dX2_tellOfNet_36 : decode cX2_tellOfNet 36 = .ok (.ireturn, 1) := by decide +kernel
theorem dX2_tellOfNet_37 : decode cX2_tellOfNet 37 = .ok (.aload_n 3, 1) := by decide +kernel
theorem dX2_tellOfNet_38 : decode cX2_tellOfNet 38 = .ok (.getfield 79, 3) := by decide +kernel
theorem dX2_tellOfNet_41 : decode cX2_tellOfNet 41 = .ok (.ireturn, 1) := by decide +kernel
theorem dX2_tellOfNet_42 : decode cX2_tellOfNet 42 = .ok (.aload_n 3, 1) := by decide +kernel
theorem dX2_tellOfNet_43 : decode cX2_tellOfNet 43 = .ok (.getfield 135, 3) := by decide +kernel
theorem dX2_tellOfNet_46 : decode cX2_tellOfNet 46 = .ok (.ireturn, 1) := by decide +kernel
theorem dX2_tellOfNet_47 : decode cX2_tellOfNet 47 = .ok (.aload_n 0, 1) := by decide +kernel
theorem dX2_tellOfNet_48 : decode cX2_tellOfNet 48 = .ok (.aload_n 3, 1) := by decide +kernel
theorem dX2_tellOfNet_49 : decode cX2_tellOfNet 49 = .ok (.invokevirtual 115, 3) := by decide +kernel
theorem dX2_tellOfNet_52 : decode cX2_tellOfNet 52 = .ok (.ireturn, 1) := by decide +kernel
set_option maxRecDepth 20000 in
theorem ggX2_tellOfReach_X2_salmonAt : GoodIn wsX2_tellOfReach wsX2_salmonAt := goodIn_r _ [5, 6, 19, 20, 21, 22, 23, 24, 25, 26, 27, 28] (by decide +kernel) (by decide +kernel)
set_option maxRecDepth 20000 in
theorem gX2_tellOfReach_X2_salmonAt : GoodIn wsX2_tellOfReach (wsV RX2 152 RX2 yX2_salmonAt wsX2_salmonAt) := goodIn_app (goodIn_of _ (by decide +kernel)) ggX2_tellOfReach_X2_salmonAt
set_option maxRecDepth 20000 in
theorem ggX2_tellOfReach_X2_afloatAt : GoodIn wsX2_tellOfReach wsX2_afloatAt := goodIn_r _ [10, 11, 12, 13, 14, 15, 16, 17, 18, 19, 20, 21, 22, 23, 24, 25, 26, 27, 28, 29, 30, 31, 32, 33, 34, 35, 36, 37, 38] (by decide +kernel) (by decide +kernel)
set_option maxRecDepth 20000 in
theorem gX2_tellOfReach_X2_afloatAt : GoodIn wsX2_tellOfReach (wsV RX2 156 RX2 yX2_afloatAt wsX2_afloatAt) := goodIn_app (goodIn_of _ (by decide +kernel)) ggX2_tellOfReach_X2_afloatAt
theorem dX2_tellOfReach_0 : decode cX2_tellOfReach 0 = .ok (.iload_n 2, 1) := by decide +kernel
theorem dX2_tellOfReach_1 : decode cX2_tellOfReach 1 = .ok (.ifCond .ne 11, 3) := by decide +kernel
theorem dX2_tellOfReach_4 : decode cX2_tellOfReach 4 = .ok (.aload_n 0, 1) := by decide +kernel
theorem dX2_tellOfReach_5 : decode cX2_tellOfReach 5 = .ok (.iload_n 1, 1) := by decide +kernel
theorem dX2_tellOfReach_6 : decode cX2_tellOfReach 6 = .ok (.invokevirtual 152, 3) := by decide +kernel
theorem dX2_tellOfReach_9 : decode cX2_tellOfReach 9 = .ok (.goto 8, 3) := by decide +kernel
theorem dX2_tellOfReach_12 : decode cX2_tellOfReach 12 = .ok (.aload_n 0, 1) := by decide +kernel
theorem dX2_tellOfReach_13 : decode cX2_tellOfReach 13 = .ok (.iload_n 1, 1) := by decide +kernel
theorem dX2_tellOfReach_14 : decode cX2_tellOfReach 14 = .ok (.invokevirtual 156, 3) := by decide +kernel
theorem dX2_tellOfReach_17 : decode cX2_tellOfReach 17 = .ok (.ireturn, 1) := by decide +kernel
set_option maxRecDepth 20000 in
theorem ggX2_tellCount_X2_afloatInAll : GoodIn wsX2_tellCount wsX2_afloatInAll := goodIn_r _ [12, 13, 14, 25, 26, 27, 28, 29, 30, 31, 32, 33, 34, 35, 36, 37, 38, 39, 40, 41, 42, 43, 44] (by decide +kernel) (by decide +kernel)
set_option maxRecDepth 20000 in
theorem gX2_tellCount_X2_afloatInAll : GoodIn wsX2_tellCount (wsV RX2 159 RX2 yX2_afloatInAll wsX2_afloatInAll) := goodIn_app (goodIn_of _ (by decide +kernel)) ggX2_tellCount_X2_afloatInAll
set_option maxRecDepth 20000 in
theorem ggX2_tellCount_X2_loadOfAll : GoodIn wsX2_tellCount wsX2_loadOfAll := goodIn_r _ [18, 13, 19, 25, 26, 27, 28, 29, 30, 31, 32, 33, 34, 35, 36, 37, 38, 39, 40, 41, 42, 43, 44] (by decide +kernel) (by decide +kernel)
set_option maxRecDepth 20000 in
theorem gX2_tellCount_X2_loadOfAll : GoodIn wsX2_tellCount (wsV RX2 162 RX2 yX2_loadOfAll wsX2_loadOfAll) := goodIn_app (goodIn_of _ (by decide +kernel)) ggX2_tellCount_X2_loadOfAll
set_option maxRecDepth 20000 in
theorem ggX2_tellCount_X2_salmonOfAll : GoodIn wsX2_tellCount wsX2_salmonOfAll := goodIn_r _ [23, 24, 25, 26, 27, 28, 29, 30, 31, 32, 33, 34] (by decide +kernel) (by decide +kernel)
set_option maxRecDepth 20000 in
theorem gX2_tellCount_X2_salmonOfAll : GoodIn wsX2_tellCount (wsV RX2 165 RX2 yX2_salmonOfAll wsX2_salmonOfAll) := goodIn_app (goodIn_of _ (by decide +kernel)) ggX2_tellCount_X2_salmonOfAll
theorem dX2_tellCount_0 : decode cX2_tellCount 0 = .ok (.iload_n 1, 1) := by decide +kernel
theorem dX2_tellCount_1 : decode cX2_tellCount 1 = .ok (.tableswitch 129 0 11 #[63, 68, 73, 80, 85, 90, 95, 100, 105, 110, 115, 122], 63) := by decide +kernel
theorem dX2_tellCount_64 : decode cX2_tellCount 64 = .ok (.aload_n 0, 1) := by decide +kernel
theorem dX2_tellCount_65 : decode cX2_tellCount 65 = .ok (.getfield 49, 3) := by decide +kernel
theorem dX2_tellCount_68 : decode cX2_tellCount 68 = .ok (.ireturn, 1) := by decide +kernel
theorem dX2_tellCount_69 : decode cX2_tellCount 69 = .ok (.aload_n 0, 1) := by decide +kernel
theorem dX2_tellCount_70 : decode cX2_tellCount 70 = .ok (.getfield 30, 3) := by decide +kernel
theorem dX2_tellCount_73 : decode cX2_tellCount 73 = .ok (.ireturn, 1) := by decide +kernel
theorem dX2_tellCount_74 : decode cX2_tellCount 74 = .ok (.aload_n 0, 1) := by decide +kernel
theorem dX2_tellCount_75 : decode cX2_tellCount 75 = .ok (.getfield 27, 3) := by decide +kernel
theorem dX2_tellCount_78 : decode cX2_tellCount 78 = .ok (.iconst 3, 1) := by decide +kernel
theorem dX2_tellCount_79 : decode cX2_tellCount 79 = .ok (.iaload, 1) := by decide +kernel
theorem dX2_tellCount_80 : decode cX2_tellCount 80 = .ok (.ireturn, 1) := by decide +kernel
theorem dX2_tellCount_81 : decode cX2_tellCount 81 = .ok (.aload_n 0, 1) := by decide +kernel
theorem dX2_tellCount_82 : decode cX2_tellCount 82 = .ok (.getfield 52, 3) := by decide +kernel
theorem dX2_tellCount_85 : decode cX2_tellCount 85 = .ok (.ireturn, 1) := by decide +kernel
theorem dX2_tellCount_86 : decode cX2_tellCount 86 = .ok (.aload_n 0, 1) := by decide +kernel
theorem dX2_tellCount_87 : decode cX2_tellCount 87 = .ok (.invokevirtual 159, 3) := by decide +kernel
theorem dX2_tellCount_90 : decode cX2_tellCount 90 = .ok (.ireturn, 1) := by decide +kernel
theorem dX2_tellCount_91 : decode cX2_tellCount 91 = .ok (.aload_n 0, 1) := by decide +kernel
