theorem dX0_init_0 : decode cX0_init 0 = .ok (.aload_n 0, 1) := by decide +kernel
theorem dX0_init_1 : decode cX0_init 1 = .ok (.invokespecial 3, 3) := by decide +kernel
theorem dX0_init_4 : decode cX0_init 4 = .ok (.aload_n 0, 1) := by decide +kernel
theorem dX0_init_5 : decode cX0_init 5 = .ok (.bipush 8, 2) := by decide +kernel
theorem dX0_init_7 : decode cX0_init 7 = .ok (.newarray .int, 2) := by decide +kernel
theorem dX0_init_9 : decode cX0_init 9 = .ok (.putfield 9, 3) := by decide +kernel
theorem dX0_init_12 : decode cX0_init 12 = .ok (.aload_n 0, 1) := by decide +kernel
theorem dX0_init_13 : decode cX0_init 13 = .ok (.bipush 8, 2) := by decide +kernel
theorem dX0_init_15 : decode cX0_init 15 = .ok (.newarray .int, 2) := by decide +kernel
theorem dX0_init_17 : decode cX0_init 17 = .ok (.putfield 15, 3) := by decide +kernel
theorem dX0_init_20 : decode cX0_init 20 = .ok (.aload_n 0, 1) := by decide +kernel
theorem dX0_init_21 : decode cX0_init 21 = .ok (.iconst 3, 1) := by decide +kernel
theorem dX0_init_22 : decode cX0_init 22 = .ok (.newarray .int, 2) := by decide +kernel
theorem dX0_init_24 : decode cX0_init 24 = .ok (.putfield 18, 3) := by decide +kernel
theorem dX0_init_27 : decode cX0_init 27 = .ok (.aload_n 0, 1) := by decide +kernel
theorem dX0_init_28 : decode cX0_init 28 = .ok (.iconst 3, 1) := by decide +kernel
theorem dX0_init_29 : decode cX0_init 29 = .ok (.newarray .int, 2) := by decide +kernel
theorem dX0_init_31 : decode cX0_init 31 = .ok (.putfield 21, 3) := by decide +kernel
theorem dX0_init_34 : decode cX0_init 34 = .ok (.aload_n 0, 1) := by decide +kernel
theorem dX0_init_35 : decode cX0_init 35 = .ok (.invokevirtual 24, 3) := by decide +kernel
theorem dX0_init_38 : decode cX0_init 38 = .ok (.return_, 1) := by decide +kernel
theorem dX0_clear_0 : decode cX0_clear 0 = .ok (.aload_n 0, 1) := by decide +kernel
theorem dX0_clear_1 : decode cX0_clear 1 = .ok (.iconst 1, 1) := by decide +kernel
theorem dX0_clear_2 : decode cX0_clear 2 = .ok (.putfield 27, 3) := by decide +kernel
theorem dX0_clear_5 : decode cX0_clear 5 = .ok (.aload_n 0, 1) := by decide +kernel
theorem dX0_clear_6 : decode cX0_clear 6 = .ok (.iconst 0, 1) := by decide +kernel
theorem dX0_clear_7 : decode cX0_clear 7 = .ok (.putfield 31, 3) := by decide +kernel
theorem dX0_clear_10 : decode cX0_clear 10 = .ok (.aload_n 0, 1) := by decide +kernel
theorem dX0_clear_11 : decode cX0_clear 11 = .ok (.iconst 0, 1) := by decide +kernel
theorem dX0_clear_12 : decode cX0_clear 12 = .ok (.putfield 34, 3) := by decide +kernel
theorem dX0_clear_15 : decode cX0_clear 15 = .ok (.aload_n 0, 1) := by decide +kernel
theorem dX0_clear_16 : decode cX0_clear 16 = .ok (.bipush 12, 2) := by decide +kernel
theorem dX0_clear_18 : decode cX0_clear 18 = .ok (.putfield 37, 3) := by decide +kernel
theorem dX0_clear_21 : decode cX0_clear 21 = .ok (.aload_n 0, 1) := by decide +kernel
theorem dX0_clear_22 : decode cX0_clear 22 = .ok (.iconst 0, 1) := by decide +kernel
theorem dX0_clear_23 : decode cX0_clear 23 = .ok (.putfield 40, 3) := by decide +kernel
theorem dX0_clear_26 : decode cX0_clear 26 = .ok (.return_, 1) := by decide +kernel
theorem dX0_addDoor_0 : decode cX0_addDoor 0 = .ok (.aload_n 0, 1) := by decide +kernel
theorem dX0_addDoor_1 : decode cX0_addDoor 1 = .ok (.getfield 31, 3) := by decide +kernel
theorem dX0_addDoor_4 : decode cX0_addDoor 4 = .ok (.bipush 8, 2) := by decide +kernel
theorem dX0_addDoor_6 : decode cX0_addDoor 6 = .ok (.if_icmp .lt 4, 3) := by decide +kernel
theorem dX0_addDoor_9 : decode cX0_addDoor 9 = .ok (.return_, 1) := by decide +kernel
theorem dX0_addDoor_10 : decode cX0_addDoor 10 = .ok (.aload_n 0, 1) := by decide +kernel
theorem dX0_addDoor_11 : decode cX0_addDoor 11 = .ok (.getfield 9, 3) := by decide +kernel
theorem dX0_addDoor_14 : decode cX0_addDoor 14 = .ok (.aload_n 0, 1) := by decide +kernel
theorem dX0_addDoor_15 : decode cX0_addDoor 15 = .ok (.getfield 31, 3) := by decide +kernel
theorem dX0_addDoor_18 : decode cX0_addDoor 18 = .ok (.iload_n 1, 1) := by decide +kernel
theorem dX0_addDoor_19 : decode cX0_addDoor 19 = .ok (.iload_n 2, 1) := by decide +kernel
theorem dX0_addDoor_20 : decode cX0_addDoor 20 = .ok (.invokestatic 43, 3) := by decide +kernel
theorem dX0_addDoor_23 : decode cX0_addDoor 23 = .ok (.iastore, 1) := by decide +kernel
theorem dX0_addDoor_24 : decode cX0_addDoor 24 = .ok (.aload_n 0, 1) := by decide +kernel
theorem dX0_addDoor_25 : decode cX0_addDoor 25 = .ok (.getfield 15, 3) := by decide +kernel
theorem dX0_addDoor_28 : decode cX0_addDoor 28 = .ok (.aload_n 0, 1) := by decide +kernel
theorem dX0_addDoor_29 : decode cX0_addDoor 29 = .ok (.getfield 31, 3) := by decide +kernel
theorem dX0_addDoor_32 : decode cX0_addDoor 32 = .ok (.iload_n 1, 1) := by decide +kernel
theorem dX0_addDoor_33 : decode cX0_addDoor 33 = .ok (.iload_n 2, 1) := by decide +kernel
theorem dX0_addDoor_34 : decode cX0_addDoor 34 = .ok (.invokestatic 49, 3) := by decide +kernel
theorem dX0_addDoor_37 : decode cX0_addDoor 37 = .ok (.iastore, 1) := by decide +kernel
theorem dX0_addDoor_38 : decode cX0_addDoor 38 = .ok (.iload_n 3, 1) := by decide +kernel
theorem dX0_addDoor_39 : decode cX0_addDoor 39 = .ok (.ifCond .eq 18, 3) := by decide +kernel
theorem dX0_addDoor_42 : decode cX0_addDoor 42 = .ok (.aload_n 0, 1) := by decide +kernel
theorem dX0_addDoor_43 : decode cX0_addDoor 43 = .ok (.dup, 1) := by decide +kernel
theorem dX0_addDoor_44 : decode cX0_addDoor 44 = .ok (.getfield 40, 3) := by decide +kernel
theorem dX0_addDoor_47 : decode cX0_addDoor 47 = .ok (.iconst 1, 1) := by decide +kernel
theorem dX0_addDoor_48 : decode cX0_addDoor 48 = .ok (.aload_n 0, 1) := by decide +kernel
theorem dX0_addDoor_49 : decode cX0_addDoor 49 = .ok (.getfield 31, 3) := by decide +kernel
theorem dX0_addDoor_52 : decode cX0_addDoor 52 = .ok (.ishl, 1) := by decide +kernel
theorem dX0_addDoor_53 : decode cX0_addDoor 53 = .ok (.ior, 1) := by decide +kernel
theorem dX0_addDoor_54 : decode cX0_addDoor 54 = .ok (.putfield 40, 3) := by decide +kernel
theorem dX0_addDoor_57 : decode cX0_addDoor 57 = .ok (.aload_n 0, 1) := by decide +kernel
theorem dX0_addDoor_58 : decode cX0_addDoor 58 = .ok (.dup, 1) := by decide +kernel
theorem dX0_addDoor_59 : decode cX0_addDoor 59 = .ok (.getfield 31, 3) := by decide +kernel
theorem dX0_addDoor_62 : decode cX0_addDoor 62 = .ok (.iconst 1, 1) := by decide +kernel
theorem dX0_addDoor_63 : decode cX0_addDoor 63 = .ok (.iadd, 1) := by decide +kernel
theorem dX0_addDoor_64 : decode cX0_addDoor 64 = .ok (.putfield 31, 3) := by decide +kernel
theorem dX0_addDoor_67 : decode cX0_addDoor 67 = .ok (.return_, 1) := by decide +kernel
theorem dX0_addWalker_0 : decode cX0_addWalker 0 = .ok (.aload_n 0, 1) := by decide +kernel
theorem dX0_addWalker_1 : decode cX0_addWalker 1 = .ok (.getfield 34, 3) := by decide +kernel
theorem dX0_addWalker_4 : decode cX0_addWalker 4 = .ok (.iconst 3, 1) := by decide +kernel
theorem dX0_addWalker_5 : decode cX0_addWalker 5 = .ok (.if_icmp .lt 4, 3) := by decide +kernel
theorem dX0_addWalker_8 : decode cX0_addWalker 8 = .ok (.return_, 1) := by decide +kernel
theorem dX0_addWalker_9 : decode cX0_addWalker 9 = .ok (.aload_n 0, 1) := by decide +kernel
theorem dX0_addWalker_10 : decode cX0_addWalker 10 = .ok (.getfield 18, 3) := by decide +kernel
theorem dX0_addWalker_13 : decode cX0_addWalker 13 = .ok (.aload_n 0, 1) := by decide +kernel
theorem dX0_addWalker_14 : decode cX0_addWalker 14 = .ok (.getfield 34, 3) := by decide +kernel
theorem dX0_addWalker_17 : decode cX0_addWalker 17 = .ok (.iload_n 1, 1) := by decide +kernel
theorem dX0_addWalker_18 : decode cX0_addWalker 18 = .ok (.iastore, 1) := by decide +kernel
theorem dX0_addWalker_19 : decode cX0_addWalker 19 = .ok (.aload_n 0, 1) := by decide +kernel
theorem dX0_addWalker_20 : decode cX0_addWalker 20 = .ok (.getfield 21, 3) := by decide +kernel
theorem dX0_addWalker_23 : decode cX0_addWalker 23 = .ok (.aload_n 0, 1) := by decide +kernel
theorem dX0_addWalker_24 : decode cX0_addWalker 24 = .ok (.getfield 34, 3) := by decide +kernel
theorem dX0_addWalker_27 : decode cX0_addWalker 27 = .ok (.iload_n 2, 1) := by decide +kernel
theorem dX0_addWalker_28 : decode cX0_addWalker 28 = .ok (.iastore, 1) := by decide +kernel
theorem dX0_addWalker_29 : decode cX0_addWalker 29 = .ok (.aload_n 0, 1) := by decide +kernel
theorem dX0_addWalker_30 : decode cX0_addWalker 30 = .ok (.dup, 1) := by decide +kernel
theorem dX0_addWalker_31 : decode cX0_addWalker 31 = .ok (.getfield 34, 3) := by decide +kernel
theorem dX0_addWalker_34 : decode cX0_addWalker 34 = .ok (.iconst 1, 1) := by decide +kernel
theorem dX0_addWalker_35 : decode cX0_addWalker 35 = .ok (.iadd, 1) := by decide +kernel
theorem dX0_addWalker_36 : decode cX0_addWalker 36 = .ok (.putfield 34, 3) := by decide +kernel
theorem dX0_addWalker_39 : decode cX0_addWalker 39 = .ok (.return_, 1) := by decide +kernel
theorem dX0_hasRoom_0 : decode cX0_hasRoom 0 = .ok (.iload_n 1, 1) := by decide +kernel
theorem dX0_hasRoom_1 : decode cX0_hasRoom 1 = .ok (.ifCond .lt 15, 3) := by decide +kernel
theorem dX0_hasRoom_4 : decode cX0_hasRoom 4 = .ok (.iload_n 1, 1) := by decide +kernel
theorem dX0_hasRoom_5 : decode cX0_hasRoom 5 = .ok (.aload_n 0, 1) := by decide +kernel
theorem dX0_hasRoom_6 : decode cX0_hasRoom 6 = .ok (.getfield 27, 3) := by decide +kernel
theorem dX0_hasRoom_9 : decode cX0_hasRoom 9 = .ok (.if_icmp .ge 7, 3) := by decide +kernel
theorem dX0_hasRoom_12 : decode cX0_hasRoom 12 = .ok (.iconst 1, 1) := by decide +kernel
theorem dX0_hasRoom_13 : decode cX0_hasRoom 13 = .ok (.goto 4, 3) := by decide +kernel
theorem dX0_hasRoom_16 : decode cX0_hasRoom 16 = .ok (.iconst 0, 1) := by decide +kernel
theorem dX0_hasRoom_17 : decode cX0_hasRoom 17 = .ok (.ireturn, 1) := by decide +kernel
theorem dX0_hasDoor_0 : decode cX0_hasDoor 0 = .ok (.iload_n 1, 1) := by decide +kernel
theorem dX0_hasDoor_1 : decode cX0_hasDoor 1 = .ok (.ifCond .lt 15, 3) := by decide +kernel
theorem dX0_hasDoor_4 : decode cX0_hasDoor 4 = .ok (.iload_n 1, 1) := by decide +kernel
theorem dX0_hasDoor_5 : decode cX0_hasDoor 5 = .ok (.aload_n 0, 1) := by decide +kernel
theorem dX0_hasDoor_6 : decode cX0_hasDoor 6 = .ok (.getfield 31, 3) := by decide +kernel
theorem dX0_hasDoor_9 : decode cX0_hasDoor 9 = .ok (.if_icmp .ge 7, 3) := by decide +kernel
theorem dX0_hasDoor_12 : decode cX0_hasDoor 12 = .ok (.iconst 1, 1) := by decide +kernel
theorem dX0_hasDoor_13 : decode cX0_hasDoor 13 = .ok (.goto 4, 3) := by decide +kernel
theorem dX0_hasDoor_16 : decode cX0_hasDoor 16 = .ok (.iconst 0, 1) := by decide +kernel
theorem dX0_hasDoor_17 : decode cX0_hasDoor 17 = .ok (.ireturn, 1) := by decide +kernel
theorem dX0_hasBoard_0 : decode cX0_hasBoard 0 = .ok (.aload_n 0, 1) := by decide +kernel
theorem dX0_hasBoard_1 : decode cX0_hasBoard 1 = .ok (.iload_n 1, 1) := by decide +kernel
theorem dX0_hasBoard_2 : decode cX0_hasBoard 2 = .ok (.invokevirtual 52, 3) := by decide +kernel
theorem dX0_hasBoard_5 : decode cX0_hasBoard 5 = .ok (.ifCond .eq 18, 3) := by decide +kernel
theorem dX0_hasBoard_8 : decode cX0_hasBoard 8 = .ok (.aload_n 0, 1) := by decide +kernel
theorem dX0_hasBoard_9 : decode cX0_hasBoard 9 = .ok (.getfield 40, 3) := by decide +kernel
theorem dX0_hasBoard_12 : decode cX0_hasBoard 12 = .ok (.iload_n 1, 1) := by decide +kernel
theorem dX0_hasBoard_13 : decode cX0_hasBoard 13 = .ok (.ishr, 1) := by decide +kernel
theorem dX0_hasBoard_14 : decode cX0_hasBoard 14 = .ok (.iconst 1, 1) := by decide +kernel
theorem dX0_hasBoard_15 : decode cX0_hasBoard 15 = .ok (.iand, 1) := by decide +kernel
theorem dX0_hasBoard_16 : decode cX0_hasBoard 16 = .ok (.ifCond .eq 7, 3) := by decide +kernel
theorem dX0_hasBoard_19 : decode cX0_hasBoard 19 = .ok (.iconst 1, 1) := by decide +kernel
theorem dX0_hasBoard_20 : decode cX0_hasBoard 20 = .ok (.goto 4, 3) := by decide +kernel
theorem dX0_hasBoard_23 : decode cX0_hasBoard 23 = .ok (.iconst 0, 1) := by decide +kernel
theorem dX0_hasBoard_24 : decode cX0_hasBoard 24 = .ok (.ireturn, 1) := by decide +kernel
theorem dX0_hasWalker_0 : decode cX0_hasWalker 0 = .ok (.iload_n 1, 1) := by decide +kernel
theorem dX0_hasWalker_1 : decode cX0_hasWalker 1 = .ok (.ifCond .lt 15, 3) := by decide +kernel
theorem dX0_hasWalker_4 : decode cX0_hasWalker 4 = .ok (.iload_n 1, 1) := by decide +kernel
theorem dX0_hasWalker_5 : decode cX0_hasWalker 5 = .ok (.aload_n 0, 1) := by decide +kernel
theorem dX0_hasWalker_6 : decode cX0_hasWalker 6 = .ok (.getfield 34, 3) := by decide +kernel
theorem dX0_hasWalker_9 : decode cX0_hasWalker 9 = .ok (.if_icmp .ge 7, 3) := by decide +kernel
theorem dX0_hasWalker_12 : decode cX0_hasWalker 12 = .ok (.iconst 1, 1) := by decide +kernel
theorem dX0_hasWalker_13 : decode cX0_hasWalker 13 = .ok (.goto 4, 3) := by decide +kernel
theorem dX0_hasWalker_16 : decode cX0_hasWalker 16 = .ok (.iconst 0, 1) := by decide +kernel
theorem dX0_hasWalker_17 : decode cX0_hasWalker 17 = .ok (.ireturn, 1) := by decide +kernel
theorem dX0_hasMinute_0 : decode cX0_hasMinute 0 = .ok (.iload_n 1, 1) := by decide +kernel
theorem dX0_hasMinute_1 : decode cX0_hasMinute 1 = .ok (.ifCond .lt 15, 3) := by decide +kernel
theorem dX0_hasMinute_4 : decode cX0_hasMinute 4 = .ok (.iload_n 1, 1) := by decide +kernel
theorem dX0_hasMinute_5 : decode cX0_hasMinute 5 = .ok (.aload_n 0, 1) := by decide +kernel
theorem dX0_hasMinute_6 : decode cX0_hasMinute 6 = .ok (.getfield 37, 3) := by decide +kernel
theorem dX0_hasMinute_9 : decode cX0_hasMinute 9 = .ok (.if_icmp .gt 7, 3) := by decide +kernel
theorem dX0_hasMinute_12 : decode cX0_hasMinute 12 = .ok (.iconst 1, 1) := by decide +kernel
theorem dX0_hasMinute_13 : decode cX0_hasMinute 13 = .ok (.goto 4, 3) := by decide +kernel
theorem dX0_hasMinute_16 : decode cX0_hasMinute 16 = .ok (.iconst 0, 1) := by decide +kernel
theorem dX0_hasMinute_17 : decode cX0_hasMinute 17 = .ok (.ireturn, 1) := by decide +kernel
theorem dX0_roomBits_0 : decode cX0_roomBits 0 = .ok (.iconst 1, 1) := by decide +kernel
theorem dX0_roomBits_1 : decode cX0_roomBits 1 = .ok (.aload_n 0, 1) := by decide +kernel
theorem dX0_roomBits_2 : decode cX0_roomBits 2 = .ok (.getfield 27, 3) := by decide +kernel
theorem dX0_roomBits_5 : decode cX0_roomBits 5 = .ok (.ishl, 1) := by decide +kernel
theorem dX0_roomBits_6 : decode cX0_roomBits 6 = .ok (.iconst 1, 1) := by decide +kernel
theorem dX0_roomBits_7 : decode cX0_roomBits 7 = .ok (.isub, 1) := by decide +kernel
theorem dX0_roomBits_8 : decode cX0_roomBits 8 = .ok (.ireturn, 1) := by decide +kernel
theorem dX0_doorBits_0 : decode cX0_doorBits 0 = .ok (.iconst 1, 1) := by decide +kernel
theorem dX0_doorBits_1 : decode cX0_doorBits 1 = .ok (.aload_n 0, 1) := by decide +kernel
theorem dX0_doorBits_2 : decode cX0_doorBits 2 = .ok (.getfield 31, 3) := by decide +kernel
theorem dX0_doorBits_5 : decode cX0_doorBits 5 = .ok (.ishl, 1) := by decide +kernel
theorem dX0_doorBits_6 : decode cX0_doorBits 6 = .ok (.iconst 1, 1) := by decide +kernel
theorem dX0_doorBits_7 : decode cX0_doorBits 7 = .ok (.isub, 1) := by decide +kernel
theorem dX0_doorBits_8 : decode cX0_doorBits 8 = .ok (.ireturn, 1) := by decide +kernel
theorem dX0_walkerBits_0 : decode cX0_walkerBits 0 = .ok (.iconst 1, 1) := by decide +kernel
theorem dX0_walkerBits_1 : decode cX0_walkerBits 1 = .ok (.aload_n 0, 1) := by decide +kernel
theorem dX0_walkerBits_2 : decode cX0_walkerBits 2 = .ok (.getfield 34, 3) := by decide +kernel
theorem dX0_walkerBits_5 : decode cX0_walkerBits 5 = .ok (.ishl, 1) := by decide +kernel
theorem dX0_walkerBits_6 : decode cX0_walkerBits 6 = .ok (.iconst 1, 1) := by decide +kernel
theorem dX0_walkerBits_7 : decode cX0_walkerBits 7 = .ok (.isub, 1) := by decide +kernel
theorem dX0_walkerBits_8 : decode cX0_walkerBits 8 = .ok (.ireturn, 1) := by decide +kernel
theorem dX0_allows_0 : decode cX0_allows 0 = .ok (.iload_n 1, 1) := by decide +kernel
theorem dX0_allows_1 : decode cX0_allows 1 = .ok (.tableswitch 173 1 5 #[35, 63, 86, 117, 140], 35) := by decide +kernel
theorem dX0_allows_36 : decode cX0_allows 36 = .ok (.aload_n 0, 1) := by decide +kernel
theorem dX0_allows_37 : decode cX0_allows 37 = .ok (.iload_n 2, 1) := by decide +kernel
theorem dX0_allows_38 : decode cX0_allows 38 = .ok (.invokevirtual 56, 3) := by decide +kernel
theorem dX0_allows_41 : decode cX0_allows 41 = .ok (.ifCond .eq 21, 3) := by decide +kernel
theorem dX0_allows_44 : decode cX0_allows 44 = .ok (.iload 4, 2) := by decide +kernel
theorem dX0_allows_46 : decode cX0_allows 46 = .ok (.ifCond .lt 16, 3) := by decide +kernel
theorem dX0_allows_49 : decode cX0_allows 49 = .ok (.iload 4, 2) := by decide +kernel
theorem dX0_allows_51 : decode cX0_allows 51 = .ok (.aload_n 0, 1) := by decide +kernel
theorem dX0_allows_52 : decode cX0_allows 52 = .ok (.getfield 37, 3) := by decide +kernel
theorem dX0_allows_55 : decode cX0_allows 55 = .ok (.if_icmp .ge 7, 3) := by decide +kernel
theorem dX0_allows_58 : decode cX0_allows 58 = .ok (.iconst 1, 1) := by decide +kernel
theorem dX0_allows_59 : decode cX0_allows 59 = .ok (.goto 4, 3) := by decide +kernel
theorem dX0_allows_62 : decode cX0_allows 62 = .ok (.iconst 0, 1) := by decide +kernel
theorem dX0_allows_63 : decode cX0_allows 63 = .ok (.ireturn, 1) := by decide +kernel
theorem dX0_allows_64 : decode cX0_allows 64 = .ok (.aload_n 0, 1) := by decide +kernel
theorem dX0_allows_65 : decode cX0_allows 65 = .ok (.iload_n 2, 1) := by decide +kernel
theorem dX0_allows_66 : decode cX0_allows 66 = .ok (.invokevirtual 59, 3) := by decide +kernel
theorem dX0_allows_69 : decode cX0_allows 69 = .ok (.ifCond .eq 16, 3) := by decide +kernel
theorem dX0_allows_72 : decode cX0_allows 72 = .ok (.aload_n 0, 1) := by decide +kernel
theorem dX0_allows_73 : decode cX0_allows 73 = .ok (.iload 4, 2) := by decide +kernel
theorem dX0_allows_75 : decode cX0_allows 75 = .ok (.invokevirtual 62, 3) := by decide +kernel
theorem dX0_allows_78 : decode cX0_allows 78 = .ok (.ifCond .eq 7, 3) := by decide +kernel
theorem dX0_allows_81 : decode cX0_allows 81 = .ok (.iconst 1, 1) := by decide +kernel
theorem dX0_allows_82 : decode cX0_allows 82 = .ok (.goto 4, 3) := by decide +kernel
theorem dX0_allows_85 : decode cX0_allows 85 = .ok (.iconst 0, 1) := by decide +kernel
theorem dX0_allows_86 : decode cX0_allows 86 = .ok (.ireturn, 1) := by decide +kernel
theorem dX0_allows_87 : decode cX0_allows 87 = .ok (.aload_n 0, 1) := by decide +kernel
theorem dX0_allows_88 : decode cX0_allows 88 = .ok (.iload_n 2, 1) := by decide +kernel
theorem dX0_allows_89 : decode cX0_allows 89 = .ok (.invokevirtual 59, 3) := by decide +kernel
theorem dX0_allows_92 : decode cX0_allows 92 = .ok (.ifCond .eq 24, 3) := by decide +kernel
theorem dX0_allows_95 : decode cX0_allows 95 = .ok (.aload_n 0, 1) := by decide +kernel
theorem dX0_allows_96 : decode cX0_allows 96 = .ok (.iload_n 3, 1) := by decide +kernel
theorem dX0_allows_97 : decode cX0_allows 97 = .ok (.invokevirtual 65, 3) := by decide +kernel
theorem dX0_allows_100 : decode cX0_allows 100 = .ok (.ifCond .eq 16, 3) := by decide +kernel
theorem dX0_allows_103 : decode cX0_allows 103 = .ok (.aload_n 0, 1) := by decide +kernel
theorem dX0_allows_104 : decode cX0_allows 104 = .ok (.iload 4, 2) := by decide +kernel
theorem dX0_allows_106 : decode cX0_allows 106 = .ok (.invokevirtual 62, 3) := by decide +kernel
theorem dX0_allows_109 : decode cX0_allows 109 = .ok (.ifCond .eq 7, 3) := by decide +kernel
theorem dX0_allows_112 : decode cX0_allows 112 = .ok (.iconst 1, 1) := by decide +kernel
theorem dX0_allows_113 : decode cX0_allows 113 = .ok (.goto 4, 3) := by decide +kernel
theorem dX0_allows_116 : decode cX0_allows 116 = .ok (.iconst 0, 1) := by decide +kernel
theorem dX0_allows_117 : decode cX0_allows 117 = .ok (.ireturn, 1) := by decide +kernel
theorem dX0_allows_118 : decode cX0_allows 118 = .ok (.aload_n 0, 1) := by decide +kernel
theorem dX0_allows_119 : decode cX0_allows 119 = .ok (.iload_n 2, 1) := by decide +kernel
theorem dX0_allows_120 : decode cX0_allows 120 = .ok (.invokevirtual 59, 3) := by decide +kernel
theorem dX0_allows_123 : decode cX0_allows 123 = .ok (.ifCond .eq 16, 3) := by decide +kernel
theorem dX0_allows_126 : decode cX0_allows 126 = .ok (.aload_n 0, 1) := by decide +kernel
theorem dX0_allows_127 : decode cX0_allows 127 = .ok (.iload 4, 2) := by decide +kernel
theorem dX0_allows_129 : decode cX0_allows 129 = .ok (.invokevirtual 62, 3) := by decide +kernel
theorem dX0_allows_132 : decode cX0_allows 132 = .ok (.ifCond .eq 7, 3) := by decide +kernel
theorem dX0_allows_135 : decode cX0_allows 135 = .ok (.iconst 1, 1) := by decide +kernel
theorem dX0_allows_136 : decode cX0_allows 136 = .ok (.goto 4, 3) := by decide +kernel
theorem dX0_allows_139 : decode cX0_allows 139 = .ok (.iconst 0, 1) := by decide +kernel
theorem dX0_allows_140 : decode cX0_allows 140 = .ok (.ireturn, 1) := by decide +kernel
theorem dX0_allows_141 : decode cX0_allows 141 = .ok (.aload_n 0, 1) := by decide +kernel
theorem dX0_allows_142 : decode cX0_allows 142 = .ok (.iload_n 2, 1) := by decide +kernel
theorem dX0_allows_143 : decode cX0_allows 143 = .ok (.invokevirtual 52, 3) := by decide +kernel
theorem dX0_allows_146 : decode cX0_allows 146 = .ok (.ifCond .eq 26, 3) := by decide +kernel
theorem dX0_allows_149 : decode cX0_allows 149 = .ok (.iload 4, 2) := by decide +kernel
theorem dX0_allows_151 : decode cX0_allows 151 = .ok (.ifCond .lt 21, 3) := by decide +kernel
theorem dX0_allows_154 : decode cX0_allows 154 = .ok (.iload_n 3, 1) := by decide +kernel
theorem dX0_allows_155 : decode cX0_allows 155 = .ok (.iload 4, 2) := by decide +kernel
theorem dX0_allows_157 : decode cX0_allows 157 = .ok (.if_icmp .lt 15, 3) := by decide +kernel
theorem dX0_allows_160 : decode cX0_allows 160 = .ok (.iload_n 3, 1) := by decide +kernel
theorem dX0_allows_161 : decode cX0_allows 161 = .ok (.aload_n 0, 1) := by decide +kernel
theorem dX0_allows_162 : decode cX0_allows 162 = .ok (.getfield 37, 3) := by decide +kernel
theorem dX0_allows_165 : decode cX0_allows 165 = .ok (.if_icmp .ge 7, 3) := by decide +kernel
theorem dX0_allows_168 : decode cX0_allows 168 = .ok (.iconst 1, 1) := by decide +kernel
theorem dX0_allows_169 : decode cX0_allows 169 = .ok (.goto 4, 3) := by decide +kernel
theorem dX0_allows_172 : decode cX0_allows 172 = .ok (.iconst 0, 1) := by decide +kernel
theorem dX0_allows_173 : decode cX0_allows 173 = .ok (.ireturn, 1) := by decide +kernel
theorem dX0_allows_174 : decode cX0_allows 174 = .ok (.iconst 0, 1) := by decide +kernel
theorem dX0_allows_175 : decode cX0_allows 175 = .ok (.ireturn, 1) := by decide +kernel
theorem dX0_behind_0 : decode cX0_behind 0 = .ok (.aload_n 0, 1) := by decide +kernel
theorem dX0_behind_1 : decode cX0_behind 1 = .ok (.getfield 9, 3) := by decide +kernel
theorem dX0_behind_4 : decode cX0_behind 4 = .ok (.iload_n 1, 1) := by decide +kernel
theorem dX0_behind_5 : decode cX0_behind 5 = .ok (.iaload, 1) := by decide +kernel
theorem dX0_behind_6 : decode cX0_behind 6 = .ok (.iload_n 2, 1) := by decide +kernel
theorem dX0_behind_7 : decode cX0_behind 7 = .ok (.if_icmp .ne 10, 3) := by decide +kernel
theorem dX0_behind_10 : decode cX0_behind 10 = .ok (.aload_n 0, 1) := by decide +kernel
theorem dX0_behind_11 : decode cX0_behind 11 = .ok (.getfield 15, 3) := by decide +kernel
theorem dX0_behind_14 : decode cX0_behind 14 = .ok (.iload_n 1, 1) := by decide +kernel
theorem dX0_behind_15 : decode cX0_behind 15 = .ok (.iaload, 1) := by decide +kernel
theorem dX0_behind_16 : decode cX0_behind 16 = .ok (.ireturn, 1) := by decide +kernel
theorem dX0_behind_17 : decode cX0_behind 17 = .ok (.aload_n 0, 1) := by decide +kernel
theorem dX0_behind_18 : decode cX0_behind 18 = .ok (.getfield 15, 3) := by decide +kernel
theorem dX0_behind_21 : decode cX0_behind 21 = .ok (.iload_n 1, 1) := by decide +kernel
theorem dX0_behind_22 : decode cX0_behind 22 = .ok (.iaload, 1) := by decide +kernel
theorem dX0_behind_23 : decode cX0_behind 23 = .ok (.iload_n 2, 1) := by decide +kernel
theorem dX0_behind_24 : decode cX0_behind 24 = .ok (.if_icmp .ne 12, 3) := by decide +kernel
theorem dX0_behind_27 : decode cX0_behind 27 = .ok (.aload_n 0, 1) := by decide +kernel
theorem dX0_behind_28 : decode cX0_behind 28 = .ok (.getfield 9, 3) := by decide +kernel
theorem dX0_behind_31 : decode cX0_behind 31 = .ok (.iload_n 1, 1) := by decide +kernel
theorem dX0_behind_32 : decode cX0_behind 32 = .ok (.iaload, 1) := by decide +kernel
theorem dX0_behind_33 : decode cX0_behind 33 = .ok (.goto 4, 3) := by decide +kernel
theorem dX0_behind_36 : decode cX0_behind 36 = .ok (.iconst (-1), 1) := by decide +kernel
theorem dX0_behind_37 : decode cX0_behind 37 = .ok (.ireturn, 1) := by decide +kernel
theorem dX1_init_0 : decode cX1_init 0 = .ok (.aload_n 0, 1) := by decide +kernel
theorem dX1_init_1 : decode cX1_init 1 = .ok (.invokespecial 3, 3) := by decide +kernel
theorem dX1_init_4 : decode cX1_init 4 = .ok (.aload_n 0, 1) := by decide +kernel
theorem dX1_init_5 : decode cX1_init 5 = .ok (.bipush 39, 2) := by decide +kernel
theorem dX1_init_7 : decode cX1_init 7 = .ok (.newarray .int, 2) := by decide +kernel
theorem dX1_init_9 : decode cX1_init 9 = .ok (.putfield 9, 3) := by decide +kernel
theorem dX1_init_12 : decode cX1_init 12 = .ok (.aload_n 0, 1) := by decide +kernel
theorem dX1_init_13 : decode cX1_init 13 = .ok (.bipush 84, 2) := by decide +kernel
theorem dX1_init_15 : decode cX1_init 15 = .ok (.newarray .int, 2) := by decide +kernel
theorem dX1_init_17 : decode cX1_init 17 = .ok (.putfield 15, 3) := by decide +kernel
theorem dX1_init_20 : decode cX1_init 20 = .ok (.aload_n 0, 1) := by decide +kernel
theorem dX1_init_21 : decode cX1_init 21 = .ok (.bipush 84, 2) := by decide +kernel
theorem dX1_init_23 : decode cX1_init 23 = .ok (.newarray .int, 2) := by decide +kernel
theorem dX1_init_25 : decode cX1_init 25 = .ok (.putfield 18, 3) := by decide +kernel
theorem dX1_init_28 : decode cX1_init 28 = .ok (.return_, 1) := by decide +kernel
theorem dX1_list_0 : decode cX1_list 0 = .ok (.iconst 0, 1) := by decide +kernel
theorem dX1_list_1 : decode cX1_list 1 = .ok (.istore_n 3, 1) := by decide +kernel
theorem dX1_list_2 : decode cX1_list 2 = .ok (.iload_n 3, 1) := by decide +kernel
theorem dX1_list_3 : decode cX1_list 3 = .ok (.iconst 3, 1) := by decide +kernel
theorem dX1_list_4 : decode cX1_list 4 = .ok (.if_icmp .ge 97, 3) := by decide +kernel
theorem dX1_list_7 : decode cX1_list 7 = .ok (.iload_n 3, 1) := by decide +kernel
theorem dX1_list_8 : decode cX1_list 8 = .ok (.bipush 28, 2) := by decide +kernel
theorem dX1_list_10 : decode cX1_list 10 = .ok (.imul, 1) := by decide +kernel
theorem dX1_list_11 : decode cX1_list 11 = .ok (.istore 4, 2) := by decide +kernel
theorem dX1_list_13 : decode cX1_list 13 = .ok (.iconst 0, 1) := by decide +kernel
theorem dX1_list_14 : decode cX1_list 14 = .ok (.istore 5, 2) := by decide +kernel
theorem dX1_list_16 : decode cX1_list 16 = .ok (.iload 5, 2) := by decide +kernel
theorem dX1_list_18 : decode cX1_list 18 = .ok (.aload_n 1, 1) := by decide +kernel
theorem dX1_list_19 : decode cX1_list 19 = .ok (.getfield 21, 3) := by decide +kernel
theorem dX1_list_22 : decode cX1_list 22 = .ok (.iload_n 3, 1) := by decide +kernel
theorem dX1_list_23 : decode cX1_list 23 = .ok (.iaload, 1) := by decide +kernel
theorem dX1_list_24 : decode cX1_list 24 = .ok (.if_icmp .ge 53, 3) := by decide +kernel
theorem dX1_list_27 : decode cX1_list 27 = .ok (.aload_n 0, 1) := by decide +kernel
theorem dX1_list_28 : decode cX1_list 28 = .ok (.getfield 9, 3) := by decide +kernel
theorem dX1_list_31 : decode cX1_list 31 = .ok (.iload_n 3, 1) := by decide +kernel
theorem dX1_list_32 : decode cX1_list 32 = .ok (.bipush 13, 2) := by decide +kernel
theorem dX1_list_34 : decode cX1_list 34 = .ok (.imul, 1) := by decide +kernel
theorem dX1_list_35 : decode cX1_list 35 = .ok (.iload 5, 2) := by decide +kernel
theorem dX1_list_37 : decode cX1_list 37 = .ok (.iadd, 1) := by decide +kernel
theorem dX1_list_38 : decode cX1_list 38 = .ok (.iload 4, 2) := by decide +kernel
theorem dX1_list_40 : decode cX1_list 40 = .ok (.iastore, 1) := by decide +kernel
theorem dX1_list_41 : decode cX1_list 41 = .ok (.iload_n 3, 1) := by decide +kernel
theorem dX1_list_42 : decode cX1_list 42 = .ok (.aload_n 1, 1) := by decide +kernel
theorem dX1_list_43 : decode cX1_list 43 = .ok (.getfield 26, 3) := by decide +kernel
theorem dX1_list_46 : decode cX1_list 46 = .ok (.if_icmp .ge 17, 3) := by decide +kernel
theorem dX1_list_49 : decode cX1_list 49 = .ok (.aload_n 0, 1) := by decide +kernel
theorem dX1_list_50 : decode cX1_list 50 = .ok (.aload_n 1, 1) := by decide +kernel
theorem dX1_list_51 : decode cX1_list 51 = .ok (.iload_n 2, 1) := by decide +kernel
theorem dX1_list_52 : decode cX1_list 52 = .ok (.iload_n 3, 1) := by decide +kernel
theorem dX1_list_53 : decode cX1_list 53 = .ok (.iload 5, 2) := by decide +kernel
theorem dX1_list_55 : decode cX1_list 55 = .ok (.iload 4, 2) := by decide +kernel
theorem dX1_list_57 : decode cX1_list 57 = .ok (.invokevirtual 30, 3) := by decide +kernel
theorem dX1_list_60 : decode cX1_list 60 = .ok (.goto 9, 3) := by decide +kernel
theorem dX1_list_63 : decode cX1_list 63 = .ok (.aload_n 0, 1) := by decide +kernel
theorem dX1_list_64 : decode cX1_list 64 = .ok (.iload 4, 2) := by decide +kernel
theorem dX1_list_66 : decode cX1_list 66 = .ok (.invokevirtual 34, 3) := by decide +kernel
theorem dX1_list_69 : decode cX1_list 69 = .ok (.istore 4, 2) := by decide +kernel
theorem dX1_list_71 : decode cX1_list 71 = .ok (.iinc 5 1, 3) := by decide +kernel
theorem dX1_list_74 : decode cX1_list 74 = .ok (.goto (-58), 3) := by decide +kernel
theorem dX1_list_77 : decode cX1_list 77 = .ok (.aload_n 0, 1) := by decide +kernel
theorem dX1_list_78 : decode cX1_list 78 = .ok (.getfield 9, 3) := by decide +kernel
theorem dX1_list_81 : decode cX1_list 81 = .ok (.iload_n 3, 1) := by decide +kernel
theorem dX1_list_82 : decode cX1_list 82 = .ok (.bipush 13, 2) := by decide +kernel
theorem dX1_list_84 : decode cX1_list 84 = .ok (.imul, 1) := by decide +kernel
theorem dX1_list_85 : decode cX1_list 85 = .ok (.aload_n 1, 1) := by decide +kernel
theorem dX1_list_86 : decode cX1_list 86 = .ok (.getfield 21, 3) := by decide +kernel
theorem dX1_list_89 : decode cX1_list 89 = .ok (.iload_n 3, 1) := by decide +kernel
theorem dX1_list_90 : decode cX1_list 90 = .ok (.iaload, 1) := by decide +kernel
theorem dX1_list_91 : decode cX1_list 91 = .ok (.iadd, 1) := by decide +kernel
theorem dX1_list_92 : decode cX1_list 92 = .ok (.iload 4, 2) := by decide +kernel
theorem dX1_list_94 : decode cX1_list 94 = .ok (.iastore, 1) := by decide +kernel
theorem dX1_list_95 : decode cX1_list 95 = .ok (.iinc 3 1, 3) := by decide +kernel
theorem dX1_list_98 : decode cX1_list 98 = .ok (.goto (-96), 3) := by decide +kernel
theorem dX1_list_101 : decode cX1_list 101 = .ok (.return_, 1) := by decide +kernel
theorem dX1_listAbsent_0 : decode cX1_listAbsent 0 = .ok (.aload_n 0, 1) := by decide +kernel
theorem dX1_listAbsent_1 : decode cX1_listAbsent 1 = .ok (.getfield 15, 3) := by decide +kernel
theorem dX1_listAbsent_4 : decode cX1_listAbsent 4 = .ok (.iload_n 1, 1) := by decide +kernel
theorem dX1_listAbsent_5 : decode cX1_listAbsent 5 = .ok (.iconst 0, 1) := by decide +kernel
theorem dX1_listAbsent_6 : decode cX1_listAbsent 6 = .ok (.iastore, 1) := by decide +kernel
theorem dX1_listAbsent_7 : decode cX1_listAbsent 7 = .ok (.aload_n 0, 1) := by decide +kernel
theorem dX1_listAbsent_8 : decode cX1_listAbsent 8 = .ok (.getfield 18, 3) := by decide +kernel
theorem dX1_listAbsent_11 : decode cX1_listAbsent 11 = .ok (.iload_n 1, 1) := by decide +kernel
theorem dX1_listAbsent_12 : decode cX1_listAbsent 12 = .ok (.iconst 0, 1) := by decide +kernel
theorem dX1_listAbsent_13 : decode cX1_listAbsent 13 = .ok (.iastore, 1) := by decide +kernel
theorem dX1_listAbsent_14 : decode cX1_listAbsent 14 = .ok (.iload_n 1, 1) := by decide +kernel
theorem dX1_listAbsent_15 : decode cX1_listAbsent 15 = .ok (.iconst 1, 1) := by decide +kernel
theorem dX1_listAbsent_16 : decode cX1_listAbsent 16 = .ok (.iadd, 1) := by decide +kernel
theorem dX1_listAbsent_17 : decode cX1_listAbsent 17 = .ok (.ireturn, 1) := by decide +kernel
theorem dX1_listState_0 : decode cX1_listState 0 = .ok (.aload_n 1, 1) := by decide +kernel
theorem dX1_listState_1 : decode cX1_listState 1 = .ok (.getfield 38, 3) := by decide +kernel
theorem dX1_listState_4 : decode cX1_listState 4 = .ok (.astore 6, 2) := by decide +kernel
theorem dX1_listState_6 : decode cX1_listState 6 = .ok (.aload_n 1, 1) := by decide +kernel
theorem dX1_listState_7 : decode cX1_listState 7 = .ok (.iload 4, 2) := by decide +kernel
theorem dX1_listState_9 : decode cX1_listState 9 = .ok (.invokevirtual 42, 3) := by decide +kernel
theorem dX1_listState_12 : decode cX1_listState 12 = .ok (.istore 7, 2) := by decide +kernel
theorem dX1_listState_14 : decode cX1_listState 14 = .ok (.iload 5, 2) := by decide +kernel
theorem dX1_listState_16 : decode cX1_listState 16 = .ok (.istore 8, 2) := by decide +kernel
theorem dX1_listState_18 : decode cX1_listState 18 = .ok (.aload_n 1, 1) := by decide +kernel
theorem dX1_listState_19 : decode cX1_listState 19 = .ok (.iload_n 3, 1) := by decide +kernel
theorem dX1_listState_20 : decode cX1_listState 20 = .ok (.iload 7, 2) := by decide +kernel
theorem dX1_listState_22 : decode cX1_listState 22 = .ok (.iload_n 2, 1) := by decide +kernel
theorem dX1_listState_23 : decode cX1_listState 23 = .ok (.iconst 1, 1) := by decide +kernel
theorem dX1_listState_24 : decode cX1_listState 24 = .ok (.iadd, 1) := by decide +kernel
theorem dX1_listState_25 : decode cX1_listState 25 = .ok (.invokevirtual 45, 3) := by decide +kernel
theorem dX1_listState_28 : decode cX1_listState 28 = .ok (.ifCond .eq 30, 3) := by decide +kernel
theorem dX1_listState_31 : decode cX1_listState 31 = .ok (.aload_n 0, 1) := by decide +kernel
theorem dX1_listState_32 : decode cX1_listState 32 = .ok (.getfield 15, 3) := by decide +kernel
theorem dX1_listState_35 : decode cX1_listState 35 = .ok (.iload 8, 2) := by decide +kernel
theorem dX1_listState_37 : decode cX1_listState 37 = .ok (.iload 7, 2) := by decide +kernel
theorem dX1_listState_39 : decode cX1_listState 39 = .ok (.aload_n 1, 1) := by decide +kernel
theorem dX1_listState_40 : decode cX1_listState 40 = .ok (.getfield 49, 3) := by decide +kernel
theorem dX1_listState_43 : decode cX1_listState 43 = .ok (.iload_n 3, 1) := by decide +kernel
theorem dX1_listState_44 : decode cX1_listState 44 = .ok (.iaload, 1) := by decide +kernel
theorem dX1_listState_45 : decode cX1_listState 45 = .ok (.imul, 1) := by decide +kernel
theorem dX1_listState_46 : decode cX1_listState 46 = .ok (.iastore, 1) := by decide +kernel
theorem dX1_listState_47 : decode cX1_listState 47 = .ok (.aload_n 0, 1) := by decide +kernel
theorem dX1_listState_48 : decode cX1_listState 48 = .ok (.getfield 18, 3) := by decide +kernel
theorem dX1_listState_51 : decode cX1_listState 51 = .ok (.iload 8, 2) := by decide +kernel
theorem dX1_listState_53 : decode cX1_listState 53 = .ok (.iconst 0, 1) := by decide +kernel
theorem dX1_listState_54 : decode cX1_listState 54 = .ok (.iastore, 1) := by decide +kernel
theorem dX1_listState_55 : decode cX1_listState 55 = .ok (.iinc 8 1, 3) := by decide +kernel
theorem dX1_listState_58 : decode cX1_listState 58 = .ok (.iload 4, 2) := by decide +kernel
theorem dX1_listState_60 : decode cX1_listState 60 = .ok (.aload 6, 2) := by decide +kernel
theorem dX1_listState_62 : decode cX1_listState 62 = .ok (.getfield 52, 3) := by decide +kernel
theorem dX1_listState_65 : decode cX1_listState 65 = .ok (.if_icmp .lt 6, 3) := by decide +kernel
theorem dX1_listState_68 : decode cX1_listState 68 = .ok (.iload 8, 2) := by decide +kernel
theorem dX1_listState_70 : decode cX1_listState 70 = .ok (.ireturn, 1) := by decide +kernel
theorem dX1_listState_71 : decode cX1_listState 71 = .ok (.aload 6, 2) := by decide +kernel
theorem dX1_listState_73 : decode cX1_listState 73 = .ok (.getfield 57, 3) := by decide +kernel
theorem dX1_listState_76 : decode cX1_listState 76 = .ok (.iload_n 3, 1) := by decide +kernel
theorem dX1_listState_77 : decode cX1_listState 77 = .ok (.iaload, 1) := by decide +kernel
theorem dX1_listState_78 : decode cX1_listState 78 = .ok (.iconst 2, 1) := by decide +kernel
theorem dX1_listState_79 : decode cX1_listState 79 = .ok (.if_icmp .ne 11, 3) := by decide +kernel
theorem dX1_listState_82 : decode cX1_listState 82 = .ok (.aload 6, 2) := by decide +kernel
theorem dX1_listState_84 : decode cX1_listState 84 = .ok (.getfield 52, 3) := by decide +kernel
theorem dX1_listState_87 : decode cX1_listState 87 = .ok (.goto 4, 3) := by decide +kernel
theorem dX1_listState_90 : decode cX1_listState 90 = .ok (.iconst 0, 1) := by decide +kernel
theorem dX1_listState_91 : decode cX1_listState 91 = .ok (.istore 9, 2) := by decide +kernel
theorem dX1_listState_93 : decode cX1_listState 93 = .ok (.iconst 0, 1) := by decide +kernel
theorem dX1_listState_94 : decode cX1_listState 94 = .ok (.istore 10, 2) := by decide +kernel
theorem dX1_listState_96 : decode cX1_listState 96 = .ok (.iload 10, 2) := by decide +kernel
theorem dX1_listState_98 : decode cX1_listState 98 = .ok (.aload 6, 2) := by decide +kernel
theorem dX1_listState_100 : decode cX1_listState 100 = .ok (.getfield 60, 3) := by decide +kernel
theorem dX1_listState_103 : decode cX1_listState 103 = .ok (.if_icmp .ge 81, 3) := by decide +kernel
theorem dX1_listState_106 : decode cX1_listState 106 = .ok (.aload 6, 2) := by decide +kernel
theorem dX1_listState_108 : decode cX1_listState 108 = .ok (.iload 10, 2) := by decide +kernel
theorem dX1_listState_110 : decode cX1_listState 110 = .ok (.iload 7, 2) := by decide +kernel
theorem dX1_listState_112 : decode cX1_listState 112 = .ok (.invokevirtual 63, 3) := by decide +kernel
theorem dX1_listState_115 : decode cX1_listState 115 = .ok (.istore 11, 2) := by decide +kernel
theorem dX1_listState_117 : decode cX1_listState 117 = .ok (.iload 11, 2) := by decide +kernel
theorem dX1_listState_119 : decode cX1_listState 119 = .ok (.ifCond .lt 59, 3) := by decide +kernel
theorem dX1_listState_122 : decode cX1_listState 122 = .ok (.aload_n 1, 1) := by decide +kernel
theorem dX1_listState_123 : decode cX1_listState 123 = .ok (.iload 10, 2) := by decide +kernel
theorem dX1_listState_125 : decode cX1_listState 125 = .ok (.iload_n 2, 1) := by decide +kernel
theorem dX1_listState_126 : decode cX1_listState 126 = .ok (.invokevirtual 67, 3) := by decide +kernel
theorem dX1_listState_129 : decode cX1_listState 129 = .ok (.ifCond .eq 49, 3) := by decide +kernel
theorem dX1_listState_132 : decode cX1_listState 132 = .ok (.aload_n 1, 1) := by decide +kernel
theorem dX1_listState_133 : decode cX1_listState 133 = .ok (.iload_n 3, 1) := by decide +kernel
theorem dX1_listState_134 : decode cX1_listState 134 = .ok (.iload 11, 2) := by decide +kernel
theorem dX1_listState_136 : decode cX1_listState 136 = .ok (.iload_n 2, 1) := by decide +kernel
theorem dX1_listState_137 : decode cX1_listState 137 = .ok (.iconst 1, 1) := by decide +kernel
theorem dX1_listState_138 : decode cX1_listState 138 = .ok (.iadd, 1) := by decide +kernel
theorem dX1_listState_139 : decode cX1_listState 139 = .ok (.invokevirtual 45, 3) := by decide +kernel
theorem dX1_listState_142 : decode cX1_listState 142 = .ok (.ifCond .eq 36, 3) := by decide +kernel
theorem dX1_listState_145 : decode cX1_listState 145 = .ok (.aload_n 0, 1) := by decide +kernel
theorem dX1_listState_146 : decode cX1_listState 146 = .ok (.getfield 15, 3) := by decide +kernel
theorem dX1_listState_149 : decode cX1_listState 149 = .ok (.iload 8, 2) := by decide +kernel
theorem dX1_listState_151 : decode cX1_listState 151 = .ok (.iload 11, 2) := by decide +kernel
theorem dX1_listState_153 : decode cX1_listState 153 = .ok (.iload 9, 2) := by decide +kernel
theorem dX1_listState_155 : decode cX1_listState 155 = .ok (.iadd, 1) := by decide +kernel
theorem dX1_listState_156 : decode cX1_listState 156 = .ok (.aload_n 1, 1) := by decide +kernel
theorem dX1_listState_157 : decode cX1_listState 157 = .ok (.getfield 49, 3) := by decide +kernel
theorem dX1_listState_160 : decode cX1_listState 160 = .ok (.iload_n 3, 1) := by decide +kernel
theorem dX1_listState_161 : decode cX1_listState 161 = .ok (.iaload, 1) := by decide +kernel
theorem dX1_listState_162 : decode cX1_listState 162 = .ok (.imul, 1) := by decide +kernel
theorem dX1_listState_163 : decode cX1_listState 163 = .ok (.iastore, 1) := by decide +kernel
theorem dX1_listState_164 : decode cX1_listState 164 = .ok (.aload_n 0, 1) := by decide +kernel
theorem dX1_listState_165 : decode cX1_listState 165 = .ok (.getfield 18, 3) := by decide +kernel
theorem dX1_listState_168 : decode cX1_listState 168 = .ok (.iload 8, 2) := by decide +kernel
theorem dX1_listState_170 : decode cX1_listState 170 = .ok (.iconst 1, 1) := by decide +kernel
theorem dX1_listState_171 : decode cX1_listState 171 = .ok (.iload 10, 2) := by decide +kernel
theorem dX1_listState_173 : decode cX1_listState 173 = .ok (.ishl, 1) := by decide +kernel
theorem dX1_listState_174 : decode cX1_listState 174 = .ok (.iastore, 1) := by decide +kernel
theorem dX1_listState_175 : decode cX1_listState 175 = .ok (.iinc 8 1, 3) := by decide +kernel
theorem dX1_listState_178 : decode cX1_listState 178 = .ok (.iinc 10 1, 3) := by decide +kernel
theorem dX1_listState_181 : decode cX1_listState 181 = .ok (.goto (-85), 3) := by decide +kernel
theorem dX1_listState_184 : decode cX1_listState 184 = .ok (.iload 8, 2) := by decide +kernel
theorem dX1_listState_186 : decode cX1_listState 186 = .ok (.ireturn, 1) := by decide +kernel
theorem dX2_init_0 : decode cX2_init 0 = .ok (.aload_n 0, 1) := by decide +kernel
theorem dX2_init_1 : decode cX2_init 1 = .ok (.invokespecial 3, 3) := by decide +kernel
theorem dX2_init_4 : decode cX2_init 4 = .ok (.aload_n 0, 1) := by decide +kernel
theorem dX2_init_5 : decode cX2_init 5 = .ok (.bipush 24, 2) := by decide +kernel
theorem dX2_init_7 : decode cX2_init 7 = .ok (.newarray .int, 2) := by decide +kernel
theorem dX2_init_9 : decode cX2_init 9 = .ok (.putfield 9, 3) := by decide +kernel
theorem dX2_init_12 : decode cX2_init 12 = .ok (.aload_n 0, 1) := by decide +kernel
theorem dX2_init_13 : decode cX2_init 13 = .ok (.bipush 24, 2) := by decide +kernel
theorem dX2_init_15 : decode cX2_init 15 = .ok (.newarray .int, 2) := by decide +kernel
theorem dX2_init_17 : decode cX2_init 17 = .ok (.putfield 15, 3) := by decide +kernel
theorem dX2_init_20 : decode cX2_init 20 = .ok (.aload_n 0, 1) := by decide +kernel
theorem dX2_init_21 : decode cX2_init 21 = .ok (.bipush 24, 2) := by decide +kernel
theorem dX2_init_23 : decode cX2_init 23 = .ok (.newarray .int, 2) := by decide +kernel
theorem dX2_init_25 : decode cX2_init 25 = .ok (.putfield 18, 3) := by decide +kernel
theorem dX2_init_28 : decode cX2_init 28 = .ok (.aload_n 0, 1) := by decide +kernel
theorem dX2_init_29 : decode cX2_init 29 = .ok (.bipush 24, 2) := by decide +kernel
theorem dX2_init_31 : decode cX2_init 31 = .ok (.newarray .int, 2) := by decide +kernel
theorem dX2_init_33 : decode cX2_init 33 = .ok (.putfield 21, 3) := by decide +kernel
theorem dX2_init_36 : decode cX2_init 36 = .ok (.return_, 1) := by decide +kernel
theorem dX2_add_0 : decode cX2_add 0 = .ok (.aload_n 0, 1) := by decide +kernel
theorem dX2_add_1 : decode cX2_add 1 = .ok (.getfield 24, 3) := by decide +kernel
theorem dX2_add_4 : decode cX2_add 4 = .ok (.bipush 24, 2) := by decide +kernel
theorem dX2_add_6 : decode cX2_add 6 = .ok (.if_icmp .lt 4, 3) := by decide +kernel
theorem dX2_add_9 : decode cX2_add 9 = .ok (.return_, 1) := by decide +kernel
theorem dX2_add_10 : decode cX2_add 10 = .ok (.aload_n 0, 1) := by decide +kernel
theorem dX2_add_11 : decode cX2_add 11 = .ok (.getfield 9, 3) := by decide +kernel
theorem dX2_add_14 : decode cX2_add 14 = .ok (.aload_n 0, 1) := by decide +kernel
theorem dX2_add_15 : decode cX2_add 15 = .ok (.getfield 24, 3) := by decide +kernel
theorem dX2_add_18 : decode cX2_add 18 = .ok (.iload_n 1, 1) := by decide +kernel
theorem dX2_add_19 : decode cX2_add 19 = .ok (.iastore, 1) := by decide +kernel
theorem dX2_add_20 : decode cX2_add 20 = .ok (.aload_n 0, 1) := by decide +kernel
theorem dX2_add_21 : decode cX2_add 21 = .ok (.getfield 15, 3) := by decide +kernel
theorem dX2_add_24 : decode cX2_add 24 = .ok (.aload_n 0, 1) := by decide +kernel
theorem dX2_add_25 : decode cX2_add 25 = .ok (.getfield 24, 3) := by decide +kernel
theorem dX2_add_28 : decode cX2_add 28 = .ok (.iload_n 2, 1) := by decide +kernel
theorem dX2_add_29 : decode cX2_add 29 = .ok (.iastore, 1) := by decide +kernel
theorem dX2_add_30 : decode cX2_add 30 = .ok (.aload_n 0, 1) := by decide +kernel
theorem dX2_add_31 : decode cX2_add 31 = .ok (.getfield 18, 3) := by decide +kernel
theorem dX2_add_34 : decode cX2_add 34 = .ok (.aload_n 0, 1) := by decide +kernel
theorem dX2_add_35 : decode cX2_add 35 = .ok (.getfield 24, 3) := by decide +kernel
theorem dX2_add_38 : decode cX2_add 38 = .ok (.iload_n 3, 1) := by decide +kernel
theorem dX2_add_39 : decode cX2_add 39 = .ok (.iastore, 1) := by decide +kernel
theorem dX2_add_40 : decode cX2_add 40 = .ok (.aload_n 0, 1) := by decide +kernel
theorem dX2_add_41 : decode cX2_add 41 = .ok (.getfield 21, 3) := by decide +kernel
theorem dX2_add_44 : decode cX2_add 44 = .ok (.aload_n 0, 1) := by decide +kernel
theorem dX2_add_45 : decode cX2_add 45 = .ok (.getfield 24, 3) := by decide +kernel
theorem dX2_add_48 : decode cX2_add 48 = .ok (.iload 4, 2) := by decide +kernel
theorem dX2_add_50 : decode cX2_add 50 = .ok (.iastore, 1) := by decide +kernel
theorem dX2_add_51 : decode cX2_add 51 = .ok (.aload_n 0, 1) := by decide +kernel
theorem dX2_add_52 : decode cX2_add 52 = .ok (.dup, 1) := by decide +kernel
theorem dX2_add_53 : decode cX2_add 53 = .ok (.getfield 24, 3) := by decide +kernel
theorem dX2_add_56 : decode cX2_add 56 = .ok (.iconst 1, 1) := by decide +kernel
theorem dX2_add_57 : decode cX2_add 57 = .ok (.iadd, 1) := by decide +kernel
theorem dX2_add_58 : decode cX2_add 58 = .ok (.putfield 24, 3) := by decide +kernel
theorem dX2_add_61 : decode cX2_add 61 = .ok (.return_, 1) := by decide +kernel
theorem dX2_names_0 : decode cX2_names 0 = .ok (.iload_n 1, 1) := by decide +kernel
theorem dX2_names_1 : decode cX2_names 1 = .ok (.ifCond .lt 15, 3) := by decide +kernel
theorem dX2_names_4 : decode cX2_names 4 = .ok (.iload_n 1, 1) := by decide +kernel
theorem dX2_names_5 : decode cX2_names 5 = .ok (.aload_n 0, 1) := by decide +kernel
theorem dX2_names_6 : decode cX2_names 6 = .ok (.getfield 24, 3) := by decide +kernel
theorem dX2_names_9 : decode cX2_names 9 = .ok (.if_icmp .ge 7, 3) := by decide +kernel
theorem dX2_names_12 : decode cX2_names 12 = .ok (.iconst 1, 1) := by decide +kernel
theorem dX2_names_13 : decode cX2_names 13 = .ok (.goto 4, 3) := by decide +kernel
theorem dX2_names_16 : decode cX2_names 16 = .ok (.iconst 0, 1) := by decide +kernel
theorem dX2_names_17 : decode cX2_names 17 = .ok (.ireturn, 1) := by decide +kernel
theorem dX2_isOf_0 : decode cX2_isOf 0 = .ok (.aload_n 0, 1) := by decide +kernel
theorem dX2_isOf_1 : decode cX2_isOf 1 = .ok (.getfield 9, 3) := by decide +kernel
theorem dX2_isOf_4 : decode cX2_isOf 4 = .ok (.iload_n 1, 1) := by decide +kernel
theorem dX2_isOf_5 : decode cX2_isOf 5 = .ok (.iaload, 1) := by decide +kernel
theorem dX2_isOf_6 : decode cX2_isOf 6 = .ok (.iload_n 2, 1) := by decide +kernel
theorem dX2_isOf_7 : decode cX2_isOf 7 = .ok (.if_icmp .eq 18, 3) := by decide +kernel
theorem dX2_isOf_10 : decode cX2_isOf 10 = .ok (.iload_n 2, 1) := by decide +kernel
theorem dX2_isOf_11 : decode cX2_isOf 11 = .ok (.iconst 2, 1) := by decide +kernel
theorem dX2_isOf_12 : decode cX2_isOf 12 = .ok (.if_icmp .ne 17, 3) := by decide +kernel
theorem dX2_isOf_15 : decode cX2_isOf 15 = .ok (.aload_n 0, 1) := by decide +kernel
theorem dX2_isOf_16 : decode cX2_isOf 16 = .ok (.getfield 9, 3) := by decide +kernel
theorem dX2_isOf_19 : decode cX2_isOf 19 = .ok (.iload_n 1, 1) := by decide +kernel
theorem dX2_isOf_20 : decode cX2_isOf 20 = .ok (.iaload, 1) := by decide +kernel
theorem dX2_isOf_21 : decode cX2_isOf 21 = .ok (.iconst 3, 1) := by decide +kernel
theorem dX2_isOf_22 : decode cX2_isOf 22 = .ok (.if_icmp .ne 7, 3) := by decide +kernel
theorem dX2_isOf_25 : decode cX2_isOf 25 = .ok (.iconst 1, 1) := by decide +kernel
theorem dX2_isOf_26 : decode cX2_isOf 26 = .ok (.goto 4, 3) := by decide +kernel
theorem dX2_isOf_29 : decode cX2_isOf 29 = .ok (.iconst 0, 1) := by decide +kernel
theorem dX2_isOf_30 : decode cX2_isOf 30 = .ok (.ireturn, 1) := by decide +kernel
theorem dX3_init_0 : decode cX3_init 0 = .ok (.aload_n 0, 1) := by decide +kernel
theorem dX3_init_1 : decode cX3_init 1 = .ok (.invokespecial 3, 3) := by decide +kernel
theorem dX3_init_4 : decode cX3_init 4 = .ok (.aload_n 0, 1) := by decide +kernel
theorem dX3_init_5 : decode cX3_init 5 = .ok (.aload_n 1, 1) := by decide +kernel
theorem dX3_init_6 : decode cX3_init 6 = .ok (.putfield 9, 3) := by decide +kernel
theorem dX3_init_9 : decode cX3_init 9 = .ok (.aload_n 0, 1) := by decide +kernel
theorem dX3_init_10 : decode cX3_init 10 = .ok (.bipush 31, 2) := by decide +kernel
theorem dX3_init_12 : decode cX3_init 12 = .ok (.newarray .int, 2) := by decide +kernel
theorem dX3_init_14 : decode cX3_init 14 = .ok (.putfield 15, 3) := by decide +kernel
theorem dX3_init_17 : decode cX3_init 17 = .ok (.aload_n 0, 1) := by decide +kernel
theorem dX3_init_18 : decode cX3_init 18 = .ok (.bipush 31, 2) := by decide +kernel
theorem dX3_init_20 : decode cX3_init 20 = .ok (.newarray .int, 2) := by decide +kernel
theorem dX3_init_22 : decode cX3_init 22 = .ok (.putfield 19, 3) := by decide +kernel
theorem dX3_init_25 : decode cX3_init 25 = .ok (.aload_n 0, 1) := by decide +kernel
theorem dX3_init_26 : decode cX3_init 26 = .ok (.bipush 31, 2) := by decide +kernel
theorem dX3_init_28 : decode cX3_init 28 = .ok (.newarray .int, 2) := by decide +kernel
theorem dX3_init_30 : decode cX3_init 30 = .ok (.putfield 22, 3) := by decide +kernel
theorem dX3_init_33 : decode cX3_init 33 = .ok (.aload_n 0, 1) := by decide +kernel
theorem dX3_init_34 : decode cX3_init 34 = .ok (.bipush 31, 2) := by decide +kernel
theorem dX3_init_36 : decode cX3_init 36 = .ok (.newarray .int, 2) := by decide +kernel
theorem dX3_init_38 : decode cX3_init 38 = .ok (.putfield 25, 3) := by decide +kernel
theorem dX3_init_41 : decode cX3_init 41 = .ok (.aload_n 0, 1) := by decide +kernel
theorem dX3_init_42 : decode cX3_init 42 = .ok (.iconst 3, 1) := by decide +kernel
theorem dX3_init_43 : decode cX3_init 43 = .ok (.newarray .int, 2) := by decide +kernel
theorem dX3_init_45 : decode cX3_init 45 = .ok (.putfield 28, 3) := by decide +kernel
theorem dX3_init_48 : decode cX3_init 48 = .ok (.aload_n 0, 1) := by decide +kernel
theorem dX3_init_49 : decode cX3_init 49 = .ok (.iconst 3, 1) := by decide +kernel
theorem dX3_init_50 : decode cX3_init 50 = .ok (.newarray .int, 2) := by decide +kernel
theorem dX3_init_52 : decode cX3_init 52 = .ok (.putfield 31, 3) := by decide +kernel
theorem dX3_init_55 : decode cX3_init 55 = .ok (.aload_n 0, 1) := by decide +kernel
theorem dX3_init_56 : decode cX3_init 56 = .ok (.sipush 1728, 3) := by decide +kernel
theorem dX3_init_59 : decode cX3_init 59 = .ok (.newarray .int, 2) := by decide +kernel
theorem dX3_init_61 : decode cX3_init 61 = .ok (.putfield 34, 3) := by decide +kernel
theorem dX3_init_64 : decode cX3_init 64 = .ok (.return_, 1) := by decide +kernel
theorem dX3_make_0 : decode cX3_make 0 = .ok (.aload_n 0, 1) := by decide +kernel
theorem dX3_make_1 : decode cX3_make 1 = .ok (.aload_n 1, 1) := by decide +kernel
theorem dX3_make_2 : decode cX3_make 2 = .ok (.putfield 9, 3) := by decide +kernel
theorem dX3_make_5 : decode cX3_make 5 = .ok (.aload_n 0, 1) := by decide +kernel
theorem dX3_make_6 : decode cX3_make 6 = .ok (.iload_n 2, 1) := by decide +kernel
theorem dX3_make_7 : decode cX3_make 7 = .ok (.aload_n 0, 1) := by decide +kernel
theorem dX3_make_8 : decode cX3_make 8 = .ok (.getfield 9, 3) := by decide +kernel
theorem dX3_make_11 : decode cX3_make 11 = .ok (.getfield 37, 3) := by decide +kernel
theorem dX3_make_14 : decode cX3_make 14 = .ok (.invokestatic 43, 3) := by decide +kernel
theorem dX3_make_17 : decode cX3_make 17 = .ok (.putfield 49, 3) := by decide +kernel
theorem dX3_make_20 : decode cX3_make 20 = .ok (.aload_n 0, 1) := by decide +kernel
theorem dX3_make_21 : decode cX3_make 21 = .ok (.iload_n 3, 1) := by decide +kernel
theorem dX3_make_22 : decode cX3_make 22 = .ok (.putfield 52, 3) := by decide +kernel
theorem dX3_make_25 : decode cX3_make 25 = .ok (.aload_n 0, 1) := by decide +kernel
theorem dX3_make_26 : decode cX3_make 26 = .ok (.iconst 1, 1) := by decide +kernel
theorem dX3_make_27 : decode cX3_make 27 = .ok (.putfield 55, 3) := by decide +kernel
theorem dX3_make_30 : decode cX3_make 30 = .ok (.ldc 59, 2) := by decide +kernel
theorem dX3_make_32 : decode cX3_make 32 = .ok (.istore 4, 2) := by decide +kernel
theorem dX3_make_34 : decode cX3_make 34 = .ok (.ldc 59, 2) := by decide +kernel
theorem dX3_make_36 : decode cX3_make 36 = .ok (.istore 5, 2) := by decide +kernel
theorem dX3_make_38 : decode cX3_make 38 = .ok (.iconst 0, 1) := by decide +kernel
theorem dX3_make_39 : decode cX3_make 39 = .ok (.istore 6, 2) := by decide +kernel
theorem dX3_make_41 : decode cX3_make 41 = .ok (.iload 6, 2) := by decide +kernel
theorem dX3_make_43 : decode cX3_make 43 = .ok (.aload_n 0, 1) := by decide +kernel
theorem dX3_make_44 : decode cX3_make 44 = .ok (.getfield 49, 3) := by decide +kernel
theorem dX3_make_47 : decode cX3_make 47 = .ok (.if_icmp .ge 48, 3) := by decide +kernel
theorem dX3_make_50 : decode cX3_make 50 = .ok (.iload 4, 2) := by decide +kernel
theorem dX3_make_52 : decode cX3_make 52 = .ok (.aload_n 0, 1) := by decide +kernel
theorem dX3_make_53 : decode cX3_make 53 = .ok (.getfield 9, 3) := by decide +kernel
theorem dX3_make_56 : decode cX3_make 56 = .ok (.invokevirtual 60, 3) := by decide +kernel
theorem dX3_make_59 : decode cX3_make 59 = .ok (.bipush 6, 2) := by decide +kernel
theorem dX3_make_61 : decode cX3_make 61 = .ok (.iload 6, 2) := by decide +kernel
theorem dX3_make_63 : decode cX3_make 63 = .ok (.imul, 1) := by decide +kernel
theorem dX3_make_64 : decode cX3_make 64 = .ok (.ishl, 1) := by decide +kernel
theorem dX3_make_65 : decode cX3_make 65 = .ok (.ior, 1) := by decide +kernel
theorem dX3_make_66 : decode cX3_make 66 = .ok (.istore 4, 2) := by decide +kernel
theorem dX3_make_68 : decode cX3_make 68 = .ok (.iload 5, 2) := by decide +kernel
theorem dX3_make_70 : decode cX3_make 70 = .ok (.aload_n 0, 1) := by decide +kernel
theorem dX3_make_71 : decode cX3_make 71 = .ok (.getfield 9, 3) := by decide +kernel
theorem dX3_make_74 : decode cX3_make 74 = .ok (.getfield 64, 3) := by decide +kernel
theorem dX3_make_77 : decode cX3_make 77 = .ok (.iload 6, 2) := by decide +kernel
theorem dX3_make_79 : decode cX3_make 79 = .ok (.iaload, 1) := by decide +kernel
theorem dX3_make_80 : decode cX3_make 80 = .ok (.bipush 6, 2) := by decide +kernel
theorem dX3_make_82 : decode cX3_make 82 = .ok (.iload 6, 2) := by decide +kernel
theorem dX3_make_84 : decode cX3_make 84 = .ok (.imul, 1) := by decide +kernel
theorem dX3_make_85 : decode cX3_make 85 = .ok (.ishl, 1) := by decide +kernel
theorem dX3_make_86 : decode cX3_make 86 = .ok (.ior, 1) := by decide +kernel
theorem dX3_make_87 : decode cX3_make 87 = .ok (.istore 5, 2) := by decide +kernel
theorem dX3_make_89 : decode cX3_make 89 = .ok (.iinc 6 1, 3) := by decide +kernel
theorem dX3_make_92 : decode cX3_make 92 = .ok (.goto (-51), 3) := by decide +kernel
theorem dX3_make_95 : decode cX3_make 95 = .ok (.iconst 0, 1) := by decide +kernel
theorem dX3_make_96 : decode cX3_make 96 = .ok (.istore 6, 2) := by decide +kernel
theorem dX3_make_98 : decode cX3_make 98 = .ok (.iload 6, 2) := by decide +kernel
theorem dX3_make_100 : decode cX3_make 100 = .ok (.aload_n 0, 1) := by decide +kernel
theorem dX3_make_101 : decode cX3_make 101 = .ok (.getfield 9, 3) := by decide +kernel
theorem dX3_make_104 : decode cX3_make 104 = .ok (.getfield 67, 3) := by decide +kernel
theorem dX3_make_107 : decode cX3_make 107 = .ok (.if_icmp .gt 52, 3) := by decide +kernel
theorem dX3_make_110 : decode cX3_make 110 = .ok (.aload_n 0, 1) := by decide +kernel
theorem dX3_make_111 : decode cX3_make 111 = .ok (.getfield 15, 3) := by decide +kernel
theorem dX3_make_114 : decode cX3_make 114 = .ok (.iload 6, 2) := by decide +kernel
theorem dX3_make_116 : decode cX3_make 116 = .ok (.iconst 0, 1) := by decide +kernel
theorem dX3_make_117 : decode cX3_make 117 = .ok (.iastore, 1) := by decide +kernel
theorem dX3_make_118 : decode cX3_make 118 = .ok (.aload_n 0, 1) := by decide +kernel
theorem dX3_make_119 : decode cX3_make 119 = .ok (.getfield 19, 3) := by decide +kernel
theorem dX3_make_122 : decode cX3_make 122 = .ok (.iload 6, 2) := by decide +kernel
theorem dX3_make_124 : decode cX3_make 124 = .ok (.iconst 0, 1) := by decide +kernel
theorem dX3_make_125 : decode cX3_make 125 = .ok (.iastore, 1) := by decide +kernel
theorem dX3_make_126 : decode cX3_make 126 = .ok (.aload_n 0, 1) := by decide +kernel
theorem dX3_make_127 : decode cX3_make 127 = .ok (.getfield 22, 3) := by decide +kernel
theorem dX3_make_130 : decode cX3_make 130 = .ok (.iload 6, 2) := by decide +kernel
theorem dX3_make_132 : decode cX3_make 132 = .ok (.iconst 0, 1) := by decide +kernel
theorem dX3_make_133 : decode cX3_make 133 = .ok (.iastore, 1) := by decide +kernel
theorem dX3_make_134 : decode cX3_make 134 = .ok (.aload_n 0, 1) := by decide +kernel
theorem dX3_make_135 : decode cX3_make 135 = .ok (.getfield 25, 3) := by decide +kernel
theorem dX3_make_138 : decode cX3_make 138 = .ok (.iload 6, 2) := by decide +kernel
theorem dX3_make_140 : decode cX3_make 140 = .ok (.iload 6, 2) := by decide +kernel
theorem dX3_make_142 : decode cX3_make 142 = .ok (.ifCond .ne 8, 3) := by decide +kernel
theorem dX3_make_145 : decode cX3_make 145 = .ok (.iload 5, 2) := by decide +kernel
theorem dX3_make_147 : decode cX3_make 147 = .ok (.goto 5, 3) := by decide +kernel
theorem dX3_make_150 : decode cX3_make 150 = .ok (.iload 4, 2) := by decide +kernel
theorem dX3_make_152 : decode cX3_make 152 = .ok (.iastore, 1) := by decide +kernel
theorem dX3_make_153 : decode cX3_make 153 = .ok (.iinc 6 1, 3) := by decide +kernel
theorem dX3_make_156 : decode cX3_make 156 = .ok (.goto (-58), 3) := by decide +kernel
theorem dX3_make_159 : decode cX3_make 159 = .ok (.aload_n 0, 1) := by decide +kernel
theorem dX3_make_160 : decode cX3_make 160 = .ok (.invokevirtual 70, 3) := by decide +kernel
theorem dX3_make_163 : decode cX3_make 163 = .ok (.return_, 1) := by decide +kernel
theorem dX3_shape_0 : decode cX3_shape 0 = .ok (.aload_n 0, 1) := by decide +kernel
theorem dX3_shape_1 : decode cX3_shape 1 = .ok (.iconst 1, 1) := by decide +kernel
theorem dX3_shape_2 : decode cX3_shape 2 = .ok (.putfield 73, 3) := by decide +kernel
theorem dX3_shape_5 : decode cX3_shape 5 = .ok (.iconst 0, 1) := by decide +kernel
theorem dX3_shape_6 : decode cX3_shape 6 = .ok (.istore_n 1, 1) := by decide +kernel
theorem dX3_shape_7 : decode cX3_shape 7 = .ok (.iload_n 1, 1) := by decide +kernel
theorem dX3_shape_8 : decode cX3_shape 8 = .ok (.iconst 3, 1) := by decide +kernel
theorem dX3_shape_9 : decode cX3_shape 9 = .ok (.if_icmp .ge 69, 3) := by decide +kernel
theorem dX3_shape_12 : decode cX3_shape 12 = .ok (.aload_n 0, 1) := by decide +kernel
theorem dX3_shape_13 : decode cX3_shape 13 = .ok (.getfield 28, 3) := by decide +kernel
theorem dX3_shape_16 : decode cX3_shape 16 = .ok (.iload_n 1, 1) := by decide +kernel
theorem dX3_shape_17 : decode cX3_shape 17 = .ok (.iload_n 1, 1) := by decide +kernel
theorem dX3_shape_18 : decode cX3_shape 18 = .ok (.aload_n 0, 1) := by decide +kernel
theorem dX3_shape_19 : decode cX3_shape 19 = .ok (.getfield 49, 3) := by decide +kernel
theorem dX3_shape_22 : decode cX3_shape 22 = .ok (.if_icmp .ge 23, 3) := by decide +kernel
theorem dX3_shape_25 : decode cX3_shape 25 = .ok (.aload_n 0, 1) := by decide +kernel
theorem dX3_shape_26 : decode cX3_shape 26 = .ok (.getfield 9, 3) := by decide +kernel
theorem dX3_shape_29 : decode cX3_shape 29 = .ok (.getfield 76, 3) := by decide +kernel
theorem dX3_shape_32 : decode cX3_shape 32 = .ok (.aload_n 0, 1) := by decide +kernel
theorem dX3_shape_33 : decode cX3_shape 33 = .ok (.getfield 9, 3) := by decide +kernel
theorem dX3_shape_36 : decode cX3_shape 36 = .ok (.getfield 79, 3) := by decide +kernel
theorem dX3_shape_39 : decode cX3_shape 39 = .ok (.iload_n 1, 1) := by decide +kernel
theorem dX3_shape_40 : decode cX3_shape 40 = .ok (.iaload, 1) := by decide +kernel
theorem dX3_shape_41 : decode cX3_shape 41 = .ok (.imul, 1) := by decide +kernel
theorem dX3_shape_42 : decode cX3_shape 42 = .ok (.goto 4, 3) := by decide +kernel
theorem dX3_shape_45 : decode cX3_shape 45 = .ok (.iconst 1, 1) := by decide +kernel
theorem dX3_shape_46 : decode cX3_shape 46 = .ok (.iastore, 1) := by decide +kernel
theorem dX3_shape_47 : decode cX3_shape 47 = .ok (.aload_n 0, 1) := by decide +kernel
theorem dX3_shape_48 : decode cX3_shape 48 = .ok (.getfield 31, 3) := by decide +kernel
theorem dX3_shape_51 : decode cX3_shape 51 = .ok (.iload_n 1, 1) := by decide +kernel
theorem dX3_shape_52 : decode cX3_shape 52 = .ok (.aload_n 0, 1) := by decide +kernel
theorem dX3_shape_53 : decode cX3_shape 53 = .ok (.getfield 73, 3) := by decide +kernel
theorem dX3_shape_56 : decode cX3_shape 56 = .ok (.iastore, 1) := by decide +kernel
theorem dX3_shape_57 : decode cX3_shape 57 = .ok (.aload_n 0, 1) := by decide +kernel
theorem dX3_shape_58 : decode cX3_shape 58 = .ok (.dup, 1) := by decide +kernel
theorem dX3_shape_59 : decode cX3_shape 59 = .ok (.getfield 73, 3) := by decide +kernel
theorem dX3_shape_62 : decode cX3_shape 62 = .ok (.aload_n 0, 1) := by decide +kernel
theorem dX3_shape_63 : decode cX3_shape 63 = .ok (.getfield 28, 3) := by decide +kernel
theorem dX3_shape_66 : decode cX3_shape 66 = .ok (.iload_n 1, 1) := by decide +kernel
theorem dX3_shape_67 : decode cX3_shape 67 = .ok (.iaload, 1) := by decide +kernel
theorem dX3_shape_68 : decode cX3_shape 68 = .ok (.imul, 1) := by decide +kernel
theorem dX3_shape_69 : decode cX3_shape 69 = .ok (.putfield 73, 3) := by decide +kernel
theorem dX3_shape_72 : decode cX3_shape 72 = .ok (.iinc 1 1, 3) := by decide +kernel
theorem dX3_shape_75 : decode cX3_shape 75 = .ok (.goto (-68), 3) := by decide +kernel
theorem dX3_shape_78 : decode cX3_shape 78 = .ok (.iconst 0, 1) := by decide +kernel
theorem dX3_shape_79 : decode cX3_shape 79 = .ok (.istore_n 1, 1) := by decide +kernel
theorem dX3_shape_80 : decode cX3_shape 80 = .ok (.iconst 0, 1) := by decide +kernel
theorem dX3_shape_81 : decode cX3_shape 81 = .ok (.istore_n 2, 1) := by decide +kernel
theorem dX3_shape_82 : decode cX3_shape 82 = .ok (.iload_n 2, 1) := by decide +kernel
theorem dX3_shape_83 : decode cX3_shape 83 = .ok (.aload_n 0, 1) := by decide +kernel
theorem dX3_shape_84 : decode cX3_shape 84 = .ok (.getfield 28, 3) := by decide +kernel
theorem dX3_shape_87 : decode cX3_shape 87 = .ok (.iconst 2, 1) := by decide +kernel
theorem dX3_shape_88 : decode cX3_shape 88 = .ok (.iaload, 1) := by decide +kernel
theorem dX3_shape_89 : decode cX3_shape 89 = .ok (.if_icmp .ge 77, 3) := by decide +kernel
theorem dX3_shape_92 : decode cX3_shape 92 = .ok (.iconst 0, 1) := by decide +kernel
theorem dX3_shape_93 : decode cX3_shape 93 = .ok (.istore_n 3, 1) := by decide +kernel
theorem dX3_shape_94 : decode cX3_shape 94 = .ok (.iload_n 3, 1) := by decide +kernel
theorem dX3_shape_95 : decode cX3_shape 95 = .ok (.aload_n 0, 1) := by decide +kernel
theorem dX3_shape_96 : decode cX3_shape 96 = .ok (.getfield 28, 3) := by decide +kernel
theorem dX3_shape_99 : decode cX3_shape 99 = .ok (.iconst 1, 1) := by decide +kernel
theorem dX3_shape_100 : decode cX3_shape 100 = .ok (.iaload, 1) := by decide +kernel
theorem dX3_shape_101 : decode cX3_shape 101 = .ok (.if_icmp .ge 59, 3) := by decide +kernel
theorem dX3_shape_104 : decode cX3_shape 104 = .ok (.iconst 0, 1) := by decide +kernel
theorem dX3_shape_105 : decode cX3_shape 105 = .ok (.istore 4, 2) := by decide +kernel
theorem dX3_shape_107 : decode cX3_shape 107 = .ok (.iload 4, 2) := by decide +kernel
theorem dX3_shape_109 : decode cX3_shape 109 = .ok (.aload_n 0, 1) := by decide +kernel
theorem dX3_shape_110 : decode cX3_shape 110 = .ok (.getfield 28, 3) := by decide +kernel
theorem dX3_shape_113 : decode cX3_shape 113 = .ok (.iconst 0, 1) := by decide +kernel
theorem dX3_shape_114 : decode cX3_shape 114 = .ok (.iaload, 1) := by decide +kernel
theorem dX3_shape_115 : decode cX3_shape 115 = .ok (.if_icmp .ge 39, 3) := by decide +kernel
theorem dX3_shape_118 : decode cX3_shape 118 = .ok (.aload_n 0, 1) := by decide +kernel
theorem dX3_shape_119 : decode cX3_shape 119 = .ok (.getfield 34, 3) := by decide +kernel
theorem dX3_shape_122 : decode cX3_shape 122 = .ok (.iload_n 1, 1) := by decide +kernel
theorem dX3_shape_123 : decode cX3_shape 123 = .ok (.aload_n 0, 1) := by decide +kernel
theorem dX3_shape_124 : decode cX3_shape 124 = .ok (.iconst 0, 1) := by decide +kernel
theorem dX3_shape_125 : decode cX3_shape 125 = .ok (.iload 4, 2) := by decide +kernel
theorem dX3_shape_127 : decode cX3_shape 127 = .ok (.invokevirtual 82, 3) := by decide +kernel
theorem dX3_shape_130 : decode cX3_shape 130 = .ok (.aload_n 0, 1) := by decide +kernel
theorem dX3_shape_131 : decode cX3_shape 131 = .ok (.iconst 1, 1) := by decide +kernel
theorem dX3_shape_132 : decode cX3_shape 132 = .ok (.iload_n 3, 1) := by decide +kernel
theorem dX3_shape_133 : decode cX3_shape 133 = .ok (.invokevirtual 82, 3) := by decide +kernel
theorem dX3_shape_136 : decode cX3_shape 136 = .ok (.ior, 1) := by decide +kernel
theorem dX3_shape_137 : decode cX3_shape 137 = .ok (.aload_n 0, 1) := by decide +kernel
theorem dX3_shape_138 : decode cX3_shape 138 = .ok (.iconst 2, 1) := by decide +kernel
theorem dX3_shape_139 : decode cX3_shape 139 = .ok (.iload_n 2, 1) := by decide +kernel
theorem dX3_shape_140 : decode cX3_shape 140 = .ok (.invokevirtual 82, 3) := by decide +kernel
theorem dX3_shape_143 : decode cX3_shape 143 = .ok (.ior, 1) := by decide +kernel
theorem dX3_shape_144 : decode cX3_shape 144 = .ok (.iastore, 1) := by decide +kernel
theorem dX3_shape_145 : decode cX3_shape 145 = .ok (.iinc 1 1, 3) := by decide +kernel
theorem dX3_shape_148 : decode cX3_shape 148 = .ok (.iinc 4 1, 3) := by decide +kernel
theorem dX3_shape_151 : decode cX3_shape 151 = .ok (.goto (-44), 3) := by decide +kernel
theorem dX3_shape_154 : decode cX3_shape 154 = .ok (.iinc 3 1, 3) := by decide +kernel
theorem dX3_shape_157 : decode cX3_shape 157 = .ok (.goto (-63), 3) := by decide +kernel
theorem dX3_shape_160 : decode cX3_shape 160 = .ok (.iinc 2 1, 3) := by decide +kernel
theorem dX3_shape_163 : decode cX3_shape 163 = .ok (.goto (-81), 3) := by decide +kernel
theorem dX3_shape_166 : decode cX3_shape 166 = .ok (.return_, 1) := by decide +kernel
theorem dX3_spot_0 : decode cX3_spot 0 = .ok (.iload_n 1, 1) := by decide +kernel
theorem dX3_spot_1 : decode cX3_spot 1 = .ok (.aload_n 0, 1) := by decide +kernel
theorem dX3_spot_2 : decode cX3_spot 2 = .ok (.getfield 49, 3) := by decide +kernel
theorem dX3_spot_5 : decode cX3_spot 5 = .ok (.if_icmp .ge 26, 3) := by decide +kernel
theorem dX3_spot_8 : decode cX3_spot 8 = .ok (.iload_n 1, 1) := by decide +kernel
theorem dX3_spot_9 : decode cX3_spot 9 = .ok (.aload_n 0, 1) := by decide +kernel
theorem dX3_spot_10 : decode cX3_spot 10 = .ok (.iload_n 2, 1) := by decide +kernel
theorem dX3_spot_11 : decode cX3_spot 11 = .ok (.invokevirtual 85, 3) := by decide +kernel
theorem dX3_spot_14 : decode cX3_spot 14 = .ok (.invokestatic 89, 3) := by decide +kernel
theorem dX3_spot_17 : decode cX3_spot 17 = .ok (.iconst 1, 1) := by decide +kernel
theorem dX3_spot_18 : decode cX3_spot 18 = .ok (.bipush 18, 2) := by decide +kernel
theorem dX3_spot_20 : decode cX3_spot 20 = .ok (.aload_n 0, 1) := by decide +kernel
theorem dX3_spot_21 : decode cX3_spot 21 = .ok (.iload_n 2, 1) := by decide +kernel
theorem dX3_spot_22 : decode cX3_spot 22 = .ok (.invokevirtual 85, 3) := by decide +kernel
theorem dX3_spot_25 : decode cX3_spot 25 = .ok (.iadd, 1) := by decide +kernel
theorem dX3_spot_26 : decode cX3_spot 26 = .ok (.ishl, 1) := by decide +kernel
theorem dX3_spot_27 : decode cX3_spot 27 = .ok (.ior, 1) := by decide +kernel
theorem dX3_spot_28 : decode cX3_spot 28 = .ok (.goto 4, 3) := by decide +kernel
theorem dX3_spot_31 : decode cX3_spot 31 = .ok (.iconst 0, 1) := by decide +kernel
theorem dX3_spot_32 : decode cX3_spot 32 = .ok (.ireturn, 1) := by decide +kernel
theorem dX3_roomOf_0 : decode cX3_roomOf 0 = .ok (.iload_n 1, 1) := by decide +kernel
theorem dX3_roomOf_1 : decode cX3_roomOf 1 = .ok (.aload_n 0, 1) := by decide +kernel
theorem dX3_roomOf_2 : decode cX3_roomOf 2 = .ok (.getfield 9, 3) := by decide +kernel
theorem dX3_roomOf_5 : decode cX3_roomOf 5 = .ok (.getfield 76, 3) := by decide +kernel
theorem dX3_roomOf_8 : decode cX3_roomOf 8 = .ok (.if_icmp .ge 7, 3) := by decide +kernel
theorem dX3_roomOf_11 : decode cX3_roomOf 11 = .ok (.iload_n 1, 1) := by decide +kernel
theorem dX3_roomOf_12 : decode cX3_roomOf 12 = .ok (.goto 12, 3) := by decide +kernel
theorem dX3_roomOf_15 : decode cX3_roomOf 15 = .ok (.iload_n 1, 1) := by decide +kernel
theorem dX3_roomOf_16 : decode cX3_roomOf 16 = .ok (.aload_n 0, 1) := by decide +kernel
theorem dX3_roomOf_17 : decode cX3_roomOf 17 = .ok (.getfield 9, 3) := by decide +kernel
theorem dX3_roomOf_20 : decode cX3_roomOf 20 = .ok (.getfield 76, 3) := by decide +kernel
theorem dX3_roomOf_23 : decode cX3_roomOf 23 = .ok (.isub, 1) := by decide +kernel
theorem dX3_roomOf_24 : decode cX3_roomOf 24 = .ok (.ireturn, 1) := by decide +kernel
theorem dX3_take_0 : decode cX3_take 0 = .ok (.iconst 0, 1) := by decide +kernel
theorem dX3_take_1 : decode cX3_take 1 = .ok (.istore_n 3, 1) := by decide +kernel
theorem dX3_take_2 : decode cX3_take 2 = .ok (.iload_n 3, 1) := by decide +kernel
theorem dX3_take_3 : decode cX3_take 3 = .ok (.aload_n 1, 1) := by decide +kernel
theorem dX3_take_4 : decode cX3_take 4 = .ok (.getfield 92, 3) := by decide +kernel
theorem dX3_take_7 : decode cX3_take 7 = .ok (.if_icmp .ge 23, 3) := by decide +kernel
theorem dX3_take_10 : decode cX3_take 10 = .ok (.iload_n 2, 1) := by decide +kernel
theorem dX3_take_11 : decode cX3_take 11 = .ok (.iload_n 3, 1) := by decide +kernel
theorem dX3_take_12 : decode cX3_take 12 = .ok (.ishr, 1) := by decide +kernel
theorem dX3_take_13 : decode cX3_take 13 = .ok (.iconst 1, 1) := by decide +kernel
theorem dX3_take_14 : decode cX3_take 14 = .ok (.iand, 1) := by decide +kernel
theorem dX3_take_15 : decode cX3_take 15 = .ok (.ifCond .ne 9, 3) := by decide +kernel
theorem dX3_take_18 : decode cX3_take 18 = .ok (.aload_n 0, 1) := by decide +kernel
theorem dX3_take_19 : decode cX3_take 19 = .ok (.aload_n 1, 1) := by decide +kernel
theorem dX3_take_20 : decode cX3_take 20 = .ok (.iload_n 3, 1) := by decide +kernel
theorem dX3_take_21 : decode cX3_take 21 = .ok (.invokevirtual 97, 3) := by decide +kernel
theorem dX3_take_24 : decode cX3_take 24 = .ok (.iinc 3 1, 3) := by decide +kernel
theorem dX3_take_27 : decode cX3_take 27 = .ok (.goto (-25), 3) := by decide +kernel
theorem dX3_take_30 : decode cX3_take 30 = .ok (.return_, 1) := by decide +kernel
theorem dX3_takeEvent_0 : decode cX3_takeEvent 0 = .ok (.iconst 1, 1) := by decide +kernel
theorem dX3_takeEvent_1 : decode cX3_takeEvent 1 = .ok (.aload_n 1, 1) := by decide +kernel
theorem dX3_takeEvent_2 : decode cX3_takeEvent 2 = .ok (.getfield 101, 3) := by decide +kernel
theorem dX3_takeEvent_5 : decode cX3_takeEvent 5 = .ok (.iload_n 2, 1) := by decide +kernel
theorem dX3_takeEvent_6 : decode cX3_takeEvent 6 = .ok (.iaload, 1) := by decide +kernel
theorem dX3_takeEvent_7 : decode cX3_takeEvent 7 = .ok (.ishl, 1) := by decide +kernel
theorem dX3_takeEvent_8 : decode cX3_takeEvent 8 = .ok (.istore_n 3, 1) := by decide +kernel
theorem dX3_takeEvent_9 : decode cX3_takeEvent 9 = .ok (.aload_n 1, 1) := by decide +kernel
theorem dX3_takeEvent_10 : decode cX3_takeEvent 10 = .ok (.getfield 104, 3) := by decide +kernel
theorem dX3_takeEvent_13 : decode cX3_takeEvent 13 = .ok (.iload_n 2, 1) := by decide +kernel
theorem dX3_takeEvent_14 : decode cX3_takeEvent 14 = .ok (.iaload, 1) := by decide +kernel
theorem dX3_takeEvent_15 : decode cX3_takeEvent 15 = .ok (.istore 4, 2) := by decide +kernel
theorem dX3_takeEvent_17 : decode cX3_takeEvent 17 = .ok (.aload_n 1, 1) := by decide +kernel
theorem dX3_takeEvent_18 : decode cX3_takeEvent 18 = .ok (.getfield 107, 3) := by decide +kernel
theorem dX3_takeEvent_21 : decode cX3_takeEvent 21 = .ok (.iload_n 2, 1) := by decide +kernel
theorem dX3_takeEvent_22 : decode cX3_takeEvent 22 = .ok (.iaload, 1) := by decide +kernel
theorem dX3_takeEvent_23 : decode cX3_takeEvent 23 = .ok (.istore 5, 2) := by decide +kernel
theorem dX3_takeEvent_25 : decode cX3_takeEvent 25 = .ok (.aload_n 1, 1) := by decide +kernel
theorem dX3_takeEvent_26 : decode cX3_takeEvent 26 = .ok (.getfield 110, 3) := by decide +kernel
theorem dX3_takeEvent_29 : decode cX3_takeEvent 29 = .ok (.iload_n 2, 1) := by decide +kernel
theorem dX3_takeEvent_30 : decode cX3_takeEvent 30 = .ok (.iaload, 1) := by decide +kernel
theorem dX3_takeEvent_31 : decode cX3_takeEvent 31 = .ok (.tableswitch 125 1 4 #[29, 43, 57, 105], 29) := by decide +kernel
theorem dX3_takeEvent_60 : decode cX3_takeEvent 60 = .ok (.aload_n 0, 1) := by decide +kernel
theorem dX3_takeEvent_61 : decode cX3_takeEvent 61 = .ok (.getfield 15, 3) := by decide +kernel
theorem dX3_takeEvent_64 : decode cX3_takeEvent 64 = .ok (.iload 5, 2) := by decide +kernel
theorem dX3_takeEvent_66 : decode cX3_takeEvent 66 = .ok (.dup2, 1) := by decide +kernel
theorem dX3_takeEvent_67 : decode cX3_takeEvent 67 = .ok (.iaload, 1) := by decide +kernel
theorem dX3_takeEvent_68 : decode cX3_takeEvent 68 = .ok (.iload_n 3, 1) := by decide +kernel
theorem dX3_takeEvent_69 : decode cX3_takeEvent 69 = .ok (.ior, 1) := by decide +kernel
theorem dX3_takeEvent_70 : decode cX3_takeEvent 70 = .ok (.iastore, 1) := by decide +kernel
theorem dX3_takeEvent_71 : decode cX3_takeEvent 71 = .ok (.goto 113, 3) := by decide +kernel
theorem dX3_takeEvent_74 : decode cX3_takeEvent 74 = .ok (.aload_n 0, 1) := by decide +kernel
theorem dX3_takeEvent_75 : decode cX3_takeEvent 75 = .ok (.getfield 22, 3) := by decide +kernel
theorem dX3_takeEvent_78 : decode cX3_takeEvent 78 = .ok (.iload 5, 2) := by decide +kernel
theorem dX3_takeEvent_80 : decode cX3_takeEvent 80 = .ok (.dup2, 1) := by decide +kernel
theorem dX3_takeEvent_81 : decode cX3_takeEvent 81 = .ok (.iaload, 1) := by decide +kernel
theorem dX3_takeEvent_82 : decode cX3_takeEvent 82 = .ok (.iload_n 3, 1) := by decide +kernel
theorem dX3_takeEvent_83 : decode cX3_takeEvent 83 = .ok (.ior, 1) := by decide +kernel
theorem dX3_takeEvent_84 : decode cX3_takeEvent 84 = .ok (.iastore, 1) := by decide +kernel
theorem dX3_takeEvent_85 : decode cX3_takeEvent 85 = .ok (.goto 99, 3) := by decide +kernel
theorem dX3_takeEvent_88 : decode cX3_takeEvent 88 = .ok (.iload 4, 2) := by decide +kernel
theorem dX3_takeEvent_90 : decode cX3_takeEvent 90 = .ok (.aload_n 0, 1) := by decide +kernel
theorem dX3_takeEvent_91 : decode cX3_takeEvent 91 = .ok (.getfield 49, 3) := by decide +kernel
theorem dX3_takeEvent_94 : decode cX3_takeEvent 94 = .ok (.if_icmp .lt 11, 3) := by decide +kernel
theorem dX3_takeEvent_97 : decode cX3_takeEvent 97 = .ok (.aload_n 0, 1) := by decide +kernel
theorem dX3_takeEvent_98 : decode cX3_takeEvent 98 = .ok (.iconst 0, 1) := by decide +kernel
theorem dX3_takeEvent_99 : decode cX3_takeEvent 99 = .ok (.putfield 55, 3) := by decide +kernel
theorem dX3_takeEvent_102 : decode cX3_takeEvent 102 = .ok (.goto 82, 3) := by decide +kernel
theorem dX3_takeEvent_105 : decode cX3_takeEvent 105 = .ok (.aload_n 0, 1) := by decide +kernel
theorem dX3_takeEvent_106 : decode cX3_takeEvent 106 = .ok (.getfield 25, 3) := by decide +kernel
theorem dX3_takeEvent_109 : decode cX3_takeEvent 109 = .ok (.iload 5, 2) := by decide +kernel
theorem dX3_takeEvent_111 : decode cX3_takeEvent 111 = .ok (.dup2, 1) := by decide +kernel
theorem dX3_takeEvent_112 : decode cX3_takeEvent 112 = .ok (.iaload, 1) := by decide +kernel
theorem dX3_takeEvent_113 : decode cX3_takeEvent 113 = .ok (.bipush 63, 2) := by decide +kernel
theorem dX3_takeEvent_115 : decode cX3_takeEvent 115 = .ok (.bipush 6, 2) := by decide +kernel
theorem dX3_takeEvent_117 : decode cX3_takeEvent 117 = .ok (.iload 4, 2) := by decide +kernel
theorem dX3_takeEvent_119 : decode cX3_takeEvent 119 = .ok (.imul, 1) := by decide +kernel
theorem dX3_takeEvent_120 : decode cX3_takeEvent 120 = .ok (.ishl, 1) := by decide +kernel
theorem dX3_takeEvent_121 : decode cX3_takeEvent 121 = .ok (.iconst (-1), 1) := by decide +kernel
theorem dX3_takeEvent_122 : decode cX3_takeEvent 122 = .ok (.ixor, 1) := by decide +kernel
theorem dX3_takeEvent_123 : decode cX3_takeEvent 123 = .ok (.iload_n 3, 1) := by decide +kernel
theorem dX3_takeEvent_124 : decode cX3_takeEvent 124 = .ok (.bipush 6, 2) := by decide +kernel
theorem dX3_takeEvent_126 : decode cX3_takeEvent 126 = .ok (.iload 4, 2) := by decide +kernel
theorem dX3_takeEvent_128 : decode cX3_takeEvent 128 = .ok (.imul, 1) := by decide +kernel
theorem dX3_takeEvent_129 : decode cX3_takeEvent 129 = .ok (.ishl, 1) := by decide +kernel
theorem dX3_takeEvent_130 : decode cX3_takeEvent 130 = .ok (.ior, 1) := by decide +kernel
theorem dX3_takeEvent_131 : decode cX3_takeEvent 131 = .ok (.iand, 1) := by decide +kernel
theorem dX3_takeEvent_132 : decode cX3_takeEvent 132 = .ok (.iastore, 1) := by decide +kernel
theorem dX3_takeEvent_133 : decode cX3_takeEvent 133 = .ok (.goto 51, 3) := by decide +kernel
theorem dX3_takeEvent_136 : decode cX3_takeEvent 136 = .ok (.aload_n 0, 1) := by decide +kernel
theorem dX3_takeEvent_137 : decode cX3_takeEvent 137 = .ok (.getfield 25, 3) := by decide +kernel
theorem dX3_takeEvent_140 : decode cX3_takeEvent 140 = .ok (.iload 5, 2) := by decide +kernel
theorem dX3_takeEvent_142 : decode cX3_takeEvent 142 = .ok (.dup2, 1) := by decide +kernel
theorem dX3_takeEvent_143 : decode cX3_takeEvent 143 = .ok (.iaload, 1) := by decide +kernel
theorem dX3_takeEvent_144 : decode cX3_takeEvent 144 = .ok (.iload_n 3, 1) := by decide +kernel
theorem dX3_takeEvent_145 : decode cX3_takeEvent 145 = .ok (.sipush 4161, 3) := by decide +kernel
theorem dX3_takeEvent_148 : decode cX3_takeEvent 148 = .ok (.imul, 1) := by decide +kernel
theorem dX3_takeEvent_149 : decode cX3_takeEvent 149 = .ok (.iconst (-1), 1) := by decide +kernel
theorem dX3_takeEvent_150 : decode cX3_takeEvent 150 = .ok (.ixor, 1) := by decide +kernel
theorem dX3_takeEvent_151 : decode cX3_takeEvent 151 = .ok (.iand, 1) := by decide +kernel
theorem dX3_takeEvent_152 : decode cX3_takeEvent 152 = .ok (.iastore, 1) := by decide +kernel
theorem dX3_takeEvent_153 : decode cX3_takeEvent 153 = .ok (.goto 31, 3) := by decide +kernel
theorem dX3_takeEvent_156 : decode cX3_takeEvent 156 = .ok (.iload 5, 2) := by decide +kernel
theorem dX3_takeEvent_158 : decode cX3_takeEvent 158 = .ok (.istore 6, 2) := by decide +kernel
theorem dX3_takeEvent_160 : decode cX3_takeEvent 160 = .ok (.iload 6, 2) := by decide +kernel
theorem dX3_takeEvent_162 : decode cX3_takeEvent 162 = .ok (.iload 4, 2) := by decide +kernel
theorem dX3_takeEvent_164 : decode cX3_takeEvent 164 = .ok (.if_icmp .gt 20, 3) := by decide +kernel
theorem dX3_takeEvent_167 : decode cX3_takeEvent 167 = .ok (.aload_n 0, 1) := by decide +kernel
theorem dX3_takeEvent_168 : decode cX3_takeEvent 168 = .ok (.getfield 19, 3) := by decide +kernel
theorem dX3_takeEvent_171 : decode cX3_takeEvent 171 = .ok (.iload 6, 2) := by decide +kernel
theorem dX3_takeEvent_173 : decode cX3_takeEvent 173 = .ok (.dup2, 1) := by decide +kernel
theorem dX3_takeEvent_174 : decode cX3_takeEvent 174 = .ok (.iaload, 1) := by decide +kernel
theorem dX3_takeEvent_175 : decode cX3_takeEvent 175 = .ok (.iload_n 3, 1) := by decide +kernel
theorem dX3_takeEvent_176 : decode cX3_takeEvent 176 = .ok (.ior, 1) := by decide +kernel
theorem dX3_takeEvent_177 : decode cX3_takeEvent 177 = .ok (.iastore, 1) := by decide +kernel
theorem dX3_takeEvent_178 : decode cX3_takeEvent 178 = .ok (.iinc 6 1, 3) := by decide +kernel
theorem dX3_takeEvent_181 : decode cX3_takeEvent 181 = .ok (.goto (-21), 3) := by decide +kernel
theorem dX3_takeEvent_184 : decode cX3_takeEvent 184 = .ok (.return_, 1) := by decide +kernel
theorem dX3_opens_0 : decode cX3_opens 0 = .ok (.aload_n 0, 1) := by decide +kernel
theorem dX3_opens_1 : decode cX3_opens 1 = .ok (.getfield 52, 3) := by decide +kernel
theorem dX3_opens_4 : decode cX3_opens 4 = .ok (.aload_n 0, 1) := by decide +kernel
theorem dX3_opens_5 : decode cX3_opens 5 = .ok (.getfield 15, 3) := by decide +kernel
theorem dX3_opens_8 : decode cX3_opens 8 = .ok (.iload_n 2, 1) := by decide +kernel
theorem dX3_opens_9 : decode cX3_opens 9 = .ok (.iaload, 1) := by decide +kernel
theorem dX3_opens_10 : decode cX3_opens 10 = .ok (.iconst (-1), 1) := by decide +kernel
theorem dX3_opens_11 : decode cX3_opens 11 = .ok (.ixor, 1) := by decide +kernel
theorem dX3_opens_12 : decode cX3_opens 12 = .ok (.iand, 1) := by decide +kernel
theorem dX3_opens_13 : decode cX3_opens 13 = .ok (.istore_n 3, 1) := by decide +kernel
theorem dX3_opens_14 : decode cX3_opens 14 = .ok (.aload_n 0, 1) := by decide +kernel
theorem dX3_opens_15 : decode cX3_opens 15 = .ok (.getfield 19, 3) := by decide +kernel
theorem dX3_opens_18 : decode cX3_opens 18 = .ok (.iload_n 2, 1) := by decide +kernel
theorem dX3_opens_19 : decode cX3_opens 19 = .ok (.iaload, 1) := by decide +kernel
theorem dX3_opens_20 : decode cX3_opens 20 = .ok (.iload_n 3, 1) := by decide +kernel
theorem dX3_opens_21 : decode cX3_opens 21 = .ok (.ior, 1) := by decide +kernel
theorem dX3_opens_22 : decode cX3_opens 22 = .ok (.iload_n 1, 1) := by decide +kernel
theorem dX3_opens_23 : decode cX3_opens 23 = .ok (.ishr, 1) := by decide +kernel
theorem dX3_opens_24 : decode cX3_opens 24 = .ok (.iconst 1, 1) := by decide +kernel
theorem dX3_opens_25 : decode cX3_opens 25 = .ok (.iand, 1) := by decide +kernel
theorem dX3_opens_26 : decode cX3_opens 26 = .ok (.ifCond .ne 7, 3) := by decide +kernel
theorem dX3_opens_29 : decode cX3_opens 29 = .ok (.iconst 1, 1) := by decide +kernel
theorem dX3_opens_30 : decode cX3_opens 30 = .ok (.goto 4, 3) := by decide +kernel
theorem dX3_opens_33 : decode cX3_opens 33 = .ok (.iconst 0, 1) := by decide +kernel
theorem dX3_opens_34 : decode cX3_opens 34 = .ok (.ireturn, 1) := by decide +kernel
theorem dX3_mayGo_0 : decode cX3_mayGo 0 = .ok (.aload_n 0, 1) := by decide +kernel
theorem dX3_mayGo_1 : decode cX3_mayGo 1 = .ok (.getfield 25, 3) := by decide +kernel
theorem dX3_mayGo_4 : decode cX3_mayGo 4 = .ok (.iload_n 3, 1) := by decide +kernel
theorem dX3_mayGo_5 : decode cX3_mayGo 5 = .ok (.iaload, 1) := by decide +kernel
theorem dX3_mayGo_6 : decode cX3_mayGo 6 = .ok (.bipush 6, 2) := by decide +kernel
theorem dX3_mayGo_8 : decode cX3_mayGo 8 = .ok (.iload_n 1, 1) := by decide +kernel
theorem dX3_mayGo_9 : decode cX3_mayGo 9 = .ok (.imul, 1) := by decide +kernel
theorem dX3_mayGo_10 : decode cX3_mayGo 10 = .ok (.iload_n 2, 1) := by decide +kernel
theorem dX3_mayGo_11 : decode cX3_mayGo 11 = .ok (.iadd, 1) := by decide +kernel
theorem dX3_mayGo_12 : decode cX3_mayGo 12 = .ok (.ishr, 1) := by decide +kernel
theorem dX3_mayGo_13 : decode cX3_mayGo 13 = .ok (.iconst 1, 1) := by decide +kernel
theorem dX3_mayGo_14 : decode cX3_mayGo 14 = .ok (.iand, 1) := by decide +kernel
theorem dX3_mayGo_15 : decode cX3_mayGo 15 = .ok (.ifCond .eq 7, 3) := by decide +kernel
theorem dX3_mayGo_18 : decode cX3_mayGo 18 = .ok (.iconst 1, 1) := by decide +kernel
theorem dX3_mayGo_19 : decode cX3_mayGo 19 = .ok (.goto 4, 3) := by decide +kernel
theorem dX3_mayGo_22 : decode cX3_mayGo 22 = .ok (.iconst 0, 1) := by decide +kernel
theorem dX3_mayGo_23 : decode cX3_mayGo 23 = .ok (.ireturn, 1) := by decide +kernel
theorem dX3_fits_0 : decode cX3_fits 0 = .ok (.aload_n 0, 1) := by decide +kernel
theorem dX3_fits_1 : decode cX3_fits 1 = .ok (.getfield 34, 3) := by decide +kernel
theorem dX3_fits_4 : decode cX3_fits 4 = .ok (.iload_n 1, 1) := by decide +kernel
theorem dX3_fits_5 : decode cX3_fits 5 = .ok (.iaload, 1) := by decide +kernel
theorem dX3_fits_6 : decode cX3_fits 6 = .ok (.aload_n 0, 1) := by decide +kernel
theorem dX3_fits_7 : decode cX3_fits 7 = .ok (.getfield 25, 3) := by decide +kernel
theorem dX3_fits_10 : decode cX3_fits 10 = .ok (.iload_n 2, 1) := by decide +kernel
theorem dX3_fits_11 : decode cX3_fits 11 = .ok (.iaload, 1) := by decide +kernel
theorem dX3_fits_12 : decode cX3_fits 12 = .ok (.iconst (-1), 1) := by decide +kernel
theorem dX3_fits_13 : decode cX3_fits 13 = .ok (.ixor, 1) := by decide +kernel
theorem dX3_fits_14 : decode cX3_fits 14 = .ok (.iand, 1) := by decide +kernel
theorem dX3_fits_15 : decode cX3_fits 15 = .ok (.ifCond .ne 28, 3) := by decide +kernel
theorem dX3_fits_18 : decode cX3_fits 18 = .ok (.aload_n 0, 1) := by decide +kernel
theorem dX3_fits_19 : decode cX3_fits 19 = .ok (.getfield 22, 3) := by decide +kernel
theorem dX3_fits_22 : decode cX3_fits 22 = .ok (.iload_n 2, 1) := by decide +kernel
theorem dX3_fits_23 : decode cX3_fits 23 = .ok (.iaload, 1) := by decide +kernel
theorem dX3_fits_24 : decode cX3_fits 24 = .ok (.bipush 18, 2) := by decide +kernel
theorem dX3_fits_26 : decode cX3_fits 26 = .ok (.ishl, 1) := by decide +kernel
theorem dX3_fits_27 : decode cX3_fits 27 = .ok (.aload_n 0, 1) := by decide +kernel
theorem dX3_fits_28 : decode cX3_fits 28 = .ok (.getfield 34, 3) := by decide +kernel
theorem dX3_fits_31 : decode cX3_fits 31 = .ok (.iload_n 1, 1) := by decide +kernel
theorem dX3_fits_32 : decode cX3_fits 32 = .ok (.iaload, 1) := by decide +kernel
theorem dX3_fits_33 : decode cX3_fits 33 = .ok (.iconst (-1), 1) := by decide +kernel
theorem dX3_fits_34 : decode cX3_fits 34 = .ok (.ixor, 1) := by decide +kernel
theorem dX3_fits_35 : decode cX3_fits 35 = .ok (.iand, 1) := by decide +kernel
theorem dX3_fits_36 : decode cX3_fits 36 = .ok (.ifCond .ne 7, 3) := by decide +kernel
theorem dX3_fits_39 : decode cX3_fits 39 = .ok (.iconst 1, 1) := by decide +kernel
theorem dX3_fits_40 : decode cX3_fits 40 = .ok (.goto 4, 3) := by decide +kernel
theorem dX3_fits_43 : decode cX3_fits 43 = .ok (.iconst 0, 1) := by decide +kernel
theorem dX3_fits_44 : decode cX3_fits 44 = .ok (.ireturn, 1) := by decide +kernel
theorem dX4_init_0 : decode cX4_init 0 = .ok (.aload_n 0, 1) := by decide +kernel
theorem dX4_init_1 : decode cX4_init 1 = .ok (.invokespecial 3, 3) := by decide +kernel
theorem dX4_init_4 : decode cX4_init 4 = .ok (.aload_n 0, 1) := by decide +kernel
theorem dX4_init_5 : decode cX4_init 5 = .ok (.iconst 0, 1) := by decide +kernel
theorem dX4_init_6 : decode cX4_init 6 = .ok (.newarray .int, 2) := by decide +kernel
theorem dX4_init_8 : decode cX4_init 8 = .ok (.putfield 9, 3) := by decide +kernel
theorem dX4_init_11 : decode cX4_init 11 = .ok (.return_, 1) := by decide +kernel
theorem dX4_open_0 : decode cX4_open 0 = .ok (.aload_n 0, 1) := by decide +kernel
theorem dX4_open_1 : decode cX4_open 1 = .ok (.aload_n 1, 1) := by decide +kernel
theorem dX4_open_2 : decode cX4_open 2 = .ok (.putfield 9, 3) := by decide +kernel
theorem dX4_open_5 : decode cX4_open 5 = .ok (.aload_n 0, 1) := by decide +kernel
theorem dX4_open_6 : decode cX4_open 6 = .ok (.iload_n 2, 1) := by decide +kernel
theorem dX4_open_7 : decode cX4_open 7 = .ok (.aload_n 1, 1) := by decide +kernel
theorem dX4_open_8 : decode cX4_open 8 = .ok (.arraylength, 1) := by decide +kernel
theorem dX4_open_9 : decode cX4_open 9 = .ok (.invokestatic 15, 3) := by decide +kernel
theorem dX4_open_12 : decode cX4_open 12 = .ok (.putfield 21, 3) := by decide +kernel
theorem dX4_open_15 : decode cX4_open 15 = .ok (.aload_n 0, 1) := by decide +kernel
theorem dX4_open_16 : decode cX4_open 16 = .ok (.iconst 0, 1) := by decide +kernel
theorem dX4_open_17 : decode cX4_open 17 = .ok (.putfield 25, 3) := by decide +kernel
theorem dX4_open_20 : decode cX4_open 20 = .ok (.aload_n 0, 1) := by decide +kernel
theorem dX4_open_21 : decode cX4_open 21 = .ok (.iconst 0, 1) := by decide +kernel
theorem dX4_open_22 : decode cX4_open 22 = .ok (.putfield 28, 3) := by decide +kernel
theorem dX4_open_25 : decode cX4_open 25 = .ok (.return_, 1) := by decide +kernel
theorem dX4_readHouse_0 : decode cX4_readHouse 0 = .ok (.aload_n 1, 1) := by decide +kernel
theorem dX4_readHouse_1 : decode cX4_readHouse 1 = .ok (.invokevirtual 32, 3) := by decide +kernel
theorem dX4_readHouse_4 : decode cX4_readHouse 4 = .ok (.aload_n 0, 1) := by decide +kernel
theorem dX4_readHouse_5 : decode cX4_readHouse 5 = .ok (.invokevirtual 37, 3) := by decide +kernel
theorem dX4_readHouse_8 : decode cX4_readHouse 8 = .ok (.pop, 1) := by decide +kernel
theorem dX4_readHouse_9 : decode cX4_readHouse 9 = .ok (.aload_n 0, 1) := by decide +kernel
theorem dX4_readHouse_10 : decode cX4_readHouse 10 = .ok (.bipush 114, 2) := by decide +kernel
theorem dX4_readHouse_12 : decode cX4_readHouse 12 = .ok (.invokevirtual 41, 3) := by decide +kernel
theorem dX4_readHouse_15 : decode cX4_readHouse 15 = .ok (.aload_n 0, 1) := by decide +kernel
theorem dX4_readHouse_16 : decode cX4_readHouse 16 = .ok (.bipush 126, 2) := by decide +kernel
theorem dX4_readHouse_18 : decode cX4_readHouse 18 = .ok (.invokevirtual 45, 3) := by decide +kernel
theorem dX4_readHouse_21 : decode cX4_readHouse 21 = .ok (.istore_n 2, 1) := by decide +kernel
theorem dX4_readHouse_22 : decode cX4_readHouse 22 = .ok (.aload_n 0, 1) := by decide +kernel
theorem dX4_readHouse_23 : decode cX4_readHouse 23 = .ok (.getfield 28, 3) := by decide +kernel
theorem dX4_readHouse_26 : decode cX4_readHouse 26 = .ok (.ifCond .eq 4, 3) := by decide +kernel
theorem dX4_readHouse_29 : decode cX4_readHouse 29 = .ok (.return_, 1) := by decide +kernel
theorem dX4_readHouse_30 : decode cX4_readHouse 30 = .ok (.aload_n 1, 1) := by decide +kernel
theorem dX4_readHouse_31 : decode cX4_readHouse 31 = .ok (.iload_n 2, 1) := by decide +kernel
theorem dX4_readHouse_32 : decode cX4_readHouse 32 = .ok (.putfield 49, 3) := by decide +kernel
theorem dX4_readHouse_35 : decode cX4_readHouse 35 = .ok (.iconst 0, 1) := by decide +kernel
theorem dX4_readHouse_36 : decode cX4_readHouse 36 = .ok (.istore_n 3, 1) := by decide +kernel
theorem dX4_readHouse_37 : decode cX4_readHouse 37 = .ok (.iload_n 3, 1) := by decide +kernel
theorem dX4_readHouse_38 : decode cX4_readHouse 38 = .ok (.bipush 80, 2) := by decide +kernel
theorem dX4_readHouse_40 : decode cX4_readHouse 40 = .ok (.if_icmp .ge 21, 3) := by decide +kernel
theorem dX4_readHouse_43 : decode cX4_readHouse 43 = .ok (.aload_n 0, 1) := by decide +kernel
theorem dX4_readHouse_44 : decode cX4_readHouse 44 = .ok (.invokevirtual 37, 3) := by decide +kernel
theorem dX4_readHouse_47 : decode cX4_readHouse 47 = .ok (.ifCond .eq 14, 3) := by decide +kernel
theorem dX4_readHouse_50 : decode cX4_readHouse 50 = .ok (.aload_n 0, 1) := by decide +kernel
theorem dX4_readHouse_51 : decode cX4_readHouse 51 = .ok (.aload_n 1, 1) := by decide +kernel
theorem dX4_readHouse_52 : decode cX4_readHouse 52 = .ok (.invokevirtual 52, 3) := by decide +kernel
theorem dX4_readHouse_55 : decode cX4_readHouse 55 = .ok (.iinc 3 1, 3) := by decide +kernel
theorem dX4_readHouse_58 : decode cX4_readHouse 58 = .ok (.goto (-21), 3) := by decide +kernel
theorem dX4_readHouse_61 : decode cX4_readHouse 61 = .ok (.return_, 1) := by decide +kernel
theorem dX4_readNight_0 : decode cX4_readNight 0 = .ok (.aload_n 2, 1) := by decide +kernel
theorem dX4_readNight_1 : decode cX4_readNight 1 = .ok (.iconst 0, 1) := by decide +kernel
theorem dX4_readNight_2 : decode cX4_readNight 2 = .ok (.putfield 56, 3) := by decide +kernel
theorem dX4_readNight_5 : decode cX4_readNight 5 = .ok (.iconst 0, 1) := by decide +kernel
theorem dX4_readNight_6 : decode cX4_readNight 6 = .ok (.istore_n 3, 1) := by decide +kernel
theorem dX4_readNight_7 : decode cX4_readNight 7 = .ok (.iload_n 3, 1) := by decide +kernel
theorem dX4_readNight_8 : decode cX4_readNight 8 = .ok (.bipush 80, 2) := by decide +kernel
theorem dX4_readNight_10 : decode cX4_readNight 10 = .ok (.if_icmp .ge 22, 3) := by decide +kernel
theorem dX4_readNight_13 : decode cX4_readNight 13 = .ok (.aload_n 0, 1) := by decide +kernel
theorem dX4_readNight_14 : decode cX4_readNight 14 = .ok (.invokevirtual 37, 3) := by decide +kernel
theorem dX4_readNight_17 : decode cX4_readNight 17 = .ok (.ifCond .eq 15, 3) := by decide +kernel
theorem dX4_readNight_20 : decode cX4_readNight 20 = .ok (.aload_n 0, 1) := by decide +kernel
theorem dX4_readNight_21 : decode cX4_readNight 21 = .ok (.aload_n 1, 1) := by decide +kernel
theorem dX4_readNight_22 : decode cX4_readNight 22 = .ok (.aload_n 2, 1) := by decide +kernel
theorem dX4_readNight_23 : decode cX4_readNight 23 = .ok (.invokevirtual 61, 3) := by decide +kernel
theorem dX4_readNight_26 : decode cX4_readNight 26 = .ok (.iinc 3 1, 3) := by decide +kernel
theorem dX4_readNight_29 : decode cX4_readNight 29 = .ok (.goto (-22), 3) := by decide +kernel
theorem dX4_readNight_32 : decode cX4_readNight 32 = .ok (.return_, 1) := by decide +kernel
theorem dX4_findItem_0 : decode cX4_findItem 0 = .ok (.iconst 0, 1) := by decide +kernel
theorem dX4_findItem_1 : decode cX4_findItem 1 = .ok (.istore_n 1, 1) := by decide +kernel
theorem dX4_findItem_2 : decode cX4_findItem 2 = .ok (.iload_n 1, 1) := by decide +kernel
theorem dX4_findItem_3 : decode cX4_findItem 3 = .ok (.bipush 80, 2) := by decide +kernel
theorem dX4_findItem_5 : decode cX4_findItem 5 = .ok (.if_icmp .ge 28, 3) := by decide +kernel
theorem dX4_findItem_8 : decode cX4_findItem 8 = .ok (.aload_n 0, 1) := by decide +kernel
theorem dX4_findItem_9 : decode cX4_findItem 9 = .ok (.bipush 32, 2) := by decide +kernel
theorem dX4_findItem_11 : decode cX4_findItem 11 = .ok (.invokevirtual 65, 3) := by decide +kernel
theorem dX4_findItem_14 : decode cX4_findItem 14 = .ok (.ifCond .eq 19, 3) := by decide +kernel
theorem dX4_findItem_17 : decode cX4_findItem 17 = .ok (.aload_n 0, 1) := by decide +kernel
theorem dX4_findItem_18 : decode cX4_findItem 18 = .ok (.dup, 1) := by decide +kernel
theorem dX4_findItem_19 : decode cX4_findItem 19 = .ok (.getfield 25, 3) := by decide +kernel
theorem dX4_findItem_22 : decode cX4_findItem 22 = .ok (.iconst 1, 1) := by decide +kernel
theorem dX4_findItem_23 : decode cX4_findItem 23 = .ok (.iadd, 1) := by decide +kernel
theorem dX4_findItem_24 : decode cX4_findItem 24 = .ok (.putfield 25, 3) := by decide +kernel
theorem dX4_findItem_27 : decode cX4_findItem 27 = .ok (.iinc 1 1, 3) := by decide +kernel
theorem dX4_findItem_30 : decode cX4_findItem 30 = .ok (.goto (-28), 3) := by decide +kernel
theorem dX4_findItem_33 : decode cX4_findItem 33 = .ok (.aload_n 0, 1) := by decide +kernel
theorem dX4_findItem_34 : decode cX4_findItem 34 = .ok (.getfield 28, 3) := by decide +kernel
theorem dX4_findItem_37 : decode cX4_findItem 37 = .ok (.ifCond .ne 18, 3) := by decide +kernel
theorem dX4_findItem_40 : decode cX4_findItem 40 = .ok (.aload_n 0, 1) := by decide +kernel
theorem dX4_findItem_41 : decode cX4_findItem 41 = .ok (.getfield 25, 3) := by decide +kernel
theorem dX4_findItem_44 : decode cX4_findItem 44 = .ok (.aload_n 0, 1) := by decide +kernel
theorem dX4_findItem_45 : decode cX4_findItem 45 = .ok (.getfield 21, 3) := by decide +kernel
theorem dX4_findItem_48 : decode cX4_findItem 48 = .ok (.if_icmp .ge 7, 3) := by decide +kernel
theorem dX4_findItem_51 : decode cX4_findItem 51 = .ok (.iconst 1, 1) := by decide +kernel
theorem dX4_findItem_52 : decode cX4_findItem 52 = .ok (.goto 4, 3) := by decide +kernel
theorem dX4_findItem_55 : decode cX4_findItem 55 = .ok (.iconst 0, 1) := by decide +kernel
theorem dX4_findItem_56 : decode cX4_findItem 56 = .ok (.ireturn, 1) := by decide +kernel
theorem dX4_readHouseItem_0 : decode cX4_readHouseItem 0 = .ok (.aload_n 0, 1) := by decide +kernel
theorem dX4_readHouseItem_1 : decode cX4_readHouseItem 1 = .ok (.bipush 100, 2) := by decide +kernel
theorem dX4_readHouseItem_3 : decode cX4_readHouseItem 3 = .ok (.invokevirtual 65, 3) := by decide +kernel
theorem dX4_readHouseItem_6 : decode cX4_readHouseItem 6 = .ok (.ifCond .ne 12, 3) := by decide +kernel
theorem dX4_readHouseItem_9 : decode cX4_readHouseItem 9 = .ok (.aload_n 0, 1) := by decide +kernel
theorem dX4_readHouseItem_10 : decode cX4_readHouseItem 10 = .ok (.bipush 68, 2) := by decide +kernel
theorem dX4_readHouseItem_12 : decode cX4_readHouseItem 12 = .ok (.invokevirtual 65, 3) := by decide +kernel
theorem dX4_readHouseItem_15 : decode cX4_readHouseItem 15 = .ok (.ifCond .eq 7, 3) := by decide +kernel
theorem dX4_readHouseItem_18 : decode cX4_readHouseItem 18 = .ok (.iconst 1, 1) := by decide +kernel
theorem dX4_readHouseItem_19 : decode cX4_readHouseItem 19 = .ok (.goto 4, 3) := by decide +kernel
theorem dX4_readHouseItem_22 : decode cX4_readHouseItem 22 = .ok (.iconst 0, 1) := by decide +kernel
theorem dX4_readHouseItem_23 : decode cX4_readHouseItem 23 = .ok (.istore_n 2, 1) := by decide +kernel
theorem dX4_readHouseItem_24 : decode cX4_readHouseItem 24 = .ok (.aload_n 0, 1) := by decide +kernel
theorem dX4_readHouseItem_25 : decode cX4_readHouseItem 25 = .ok (.bipush 119, 2) := by decide +kernel
theorem dX4_readHouseItem_27 : decode cX4_readHouseItem 27 = .ok (.invokevirtual 65, 3) := by decide +kernel
theorem dX4_readHouseItem_30 : decode cX4_readHouseItem 30 = .ok (.istore_n 3, 1) := by decide +kernel
theorem dX4_readHouseItem_31 : decode cX4_readHouseItem 31 = .ok (.iload_n 2, 1) := by decide +kernel
theorem dX4_readHouseItem_32 : decode cX4_readHouseItem 32 = .ok (.ifCond .eq 12, 3) := by decide +kernel
theorem dX4_readHouseItem_35 : decode cX4_readHouseItem 35 = .ok (.aload_n 1, 1) := by decide +kernel
theorem dX4_readHouseItem_36 : decode cX4_readHouseItem 36 = .ok (.getfield 69, 3) := by decide +kernel
theorem dX4_readHouseItem_39 : decode cX4_readHouseItem 39 = .ok (.bipush 8, 2) := by decide +kernel
theorem dX4_readHouseItem_41 : decode cX4_readHouseItem 41 = .ok (.if_icmp .ge 15, 3) := by decide +kernel
theorem dX4_readHouseItem_44 : decode cX4_readHouseItem 44 = .ok (.iload_n 3, 1) := by decide +kernel
theorem dX4_readHouseItem_45 : decode cX4_readHouseItem 45 = .ok (.ifCond .eq 15, 3) := by decide +kernel
theorem dX4_readHouseItem_48 : decode cX4_readHouseItem 48 = .ok (.aload_n 1, 1) := by decide +kernel
theorem dX4_readHouseItem_49 : decode cX4_readHouseItem 49 = .ok (.getfield 72, 3) := by decide +kernel
theorem dX4_readHouseItem_52 : decode cX4_readHouseItem 52 = .ok (.iconst 3, 1) := by decide +kernel
theorem dX4_readHouseItem_53 : decode cX4_readHouseItem 53 = .ok (.if_icmp .lt 7, 3) := by decide +kernel
theorem dX4_readHouseItem_56 : decode cX4_readHouseItem 56 = .ok (.iconst 1, 1) := by decide +kernel
theorem dX4_readHouseItem_57 : decode cX4_readHouseItem 57 = .ok (.goto 4, 3) := by decide +kernel
theorem dX4_readHouseItem_60 : decode cX4_readHouseItem 60 = .ok (.iconst 0, 1) := by decide +kernel
theorem dX4_readHouseItem_61 : decode cX4_readHouseItem 61 = .ok (.istore 4, 2) := by decide +kernel
theorem dX4_readHouseItem_63 : decode cX4_readHouseItem 63 = .ok (.iload 4, 2) := by decide +kernel
theorem dX4_readHouseItem_65 : decode cX4_readHouseItem 65 = .ok (.ifCond .ne 20, 3) := by decide +kernel
theorem dX4_readHouseItem_68 : decode cX4_readHouseItem 68 = .ok (.iload_n 2, 1) := by decide +kernel
theorem dX4_readHouseItem_69 : decode cX4_readHouseItem 69 = .ok (.ifCond .ne 24, 3) := by decide +kernel
theorem dX4_readHouseItem_72 : decode cX4_readHouseItem 72 = .ok (.iload_n 3, 1) := by decide +kernel
theorem dX4_readHouseItem_73 : decode cX4_readHouseItem 73 = .ok (.ifCond .ne 20, 3) := by decide +kernel
theorem dX4_readHouseItem_76 : decode cX4_readHouseItem 76 = .ok (.aload_n 0, 1) := by decide +kernel
theorem dX4_readHouseItem_77 : decode cX4_readHouseItem 77 = .ok (.bipush 109, 2) := by decide +kernel
theorem dX4_readHouseItem_79 : decode cX4_readHouseItem 79 = .ok (.invokevirtual 65, 3) := by decide +kernel
theorem dX4_readHouseItem_82 : decode cX4_readHouseItem 82 = .ok (.ifCond .ne 11, 3) := by decide +kernel
theorem dX4_readHouseItem_85 : decode cX4_readHouseItem 85 = .ok (.aload_n 0, 1) := by decide +kernel
theorem dX4_readHouseItem_86 : decode cX4_readHouseItem 86 = .ok (.iconst 1, 1) := by decide +kernel
theorem dX4_readHouseItem_87 : decode cX4_readHouseItem 87 = .ok (.putfield 28, 3) := by decide +kernel
theorem dX4_readHouseItem_90 : decode cX4_readHouseItem 90 = .ok (.goto 59, 3) := by decide +kernel
theorem dX4_readHouseItem_93 : decode cX4_readHouseItem 93 = .ok (.iload_n 2, 1) := by decide +kernel
theorem dX4_readHouseItem_94 : decode cX4_readHouseItem 94 = .ok (.ifCond .eq 11, 3) := by decide +kernel
theorem dX4_readHouseItem_97 : decode cX4_readHouseItem 97 = .ok (.aload_n 0, 1) := by decide +kernel
theorem dX4_readHouseItem_98 : decode cX4_readHouseItem 98 = .ok (.aload_n 1, 1) := by decide +kernel
theorem dX4_readHouseItem_99 : decode cX4_readHouseItem 99 = .ok (.invokevirtual 75, 3) := by decide +kernel
theorem dX4_readHouseItem_102 : decode cX4_readHouseItem 102 = .ok (.goto 47, 3) := by decide +kernel
theorem dX4_readHouseItem_105 : decode cX4_readHouseItem 105 = .ok (.iload_n 3, 1) := by decide +kernel
theorem dX4_readHouseItem_106 : decode cX4_readHouseItem 106 = .ok (.ifCond .eq 11, 3) := by decide +kernel
theorem dX4_readHouseItem_109 : decode cX4_readHouseItem 109 = .ok (.aload_n 0, 1) := by decide +kernel
theorem dX4_readHouseItem_110 : decode cX4_readHouseItem 110 = .ok (.aload_n 1, 1) := by decide +kernel
theorem dX4_readHouseItem_111 : decode cX4_readHouseItem 111 = .ok (.invokevirtual 78, 3) := by decide +kernel
theorem dX4_readHouseItem_114 : decode cX4_readHouseItem 114 = .ok (.goto 35, 3) := by decide +kernel
theorem dX4_readHouseItem_117 : decode cX4_readHouseItem 117 = .ok (.aload_n 0, 1) := by decide +kernel
theorem dX4_readHouseItem_118 : decode cX4_readHouseItem 118 = .ok (.dup, 1) := by decide +kernel
theorem dX4_readHouseItem_119 : decode cX4_readHouseItem 119 = .ok (.getfield 25, 3) := by decide +kernel
theorem dX4_readHouseItem_122 : decode cX4_readHouseItem 122 = .ok (.iconst 1, 1) := by decide +kernel
theorem dX4_readHouseItem_123 : decode cX4_readHouseItem 123 = .ok (.iadd, 1) := by decide +kernel
theorem dX4_readHouseItem_124 : decode cX4_readHouseItem 124 = .ok (.putfield 25, 3) := by decide +kernel
theorem dX4_readHouseItem_127 : decode cX4_readHouseItem 127 = .ok (.aload_n 0, 1) := by decide +kernel
theorem dX4_readHouseItem_128 : decode cX4_readHouseItem 128 = .ok (.iconst 1, 1) := by decide +kernel
theorem dX4_readHouseItem_129 : decode cX4_readHouseItem 129 = .ok (.bipush 30, 2) := by decide +kernel
theorem dX4_readHouseItem_131 : decode cX4_readHouseItem 131 = .ok (.invokevirtual 81, 3) := by decide +kernel
theorem dX4_readHouseItem_134 : decode cX4_readHouseItem 134 = .ok (.istore 5, 2) := by decide +kernel
theorem dX4_readHouseItem_136 : decode cX4_readHouseItem 136 = .ok (.aload_n 0, 1) := by decide +kernel
theorem dX4_readHouseItem_137 : decode cX4_readHouseItem 137 = .ok (.getfield 28, 3) := by decide +kernel
theorem dX4_readHouseItem_140 : decode cX4_readHouseItem 140 = .ok (.ifCond .ne 9, 3) := by decide +kernel
theorem dX4_readHouseItem_143 : decode cX4_readHouseItem 143 = .ok (.aload_n 1, 1) := by decide +kernel
theorem dX4_readHouseItem_144 : decode cX4_readHouseItem 144 = .ok (.iload 5, 2) := by decide +kernel
theorem dX4_readHouseItem_146 : decode cX4_readHouseItem 146 = .ok (.putfield 84, 3) := by decide +kernel
theorem dX4_readHouseItem_149 : decode cX4_readHouseItem 149 = .ok (.return_, 1) := by decide +kernel
theorem dX4_readDoor_0 : decode cX4_readDoor 0 = .ok (.aload_n 0, 1) := by decide +kernel
theorem dX4_readDoor_1 : decode cX4_readDoor 1 = .ok (.bipush 68, 2) := by decide +kernel
theorem dX4_readDoor_3 : decode cX4_readDoor 3 = .ok (.invokevirtual 65, 3) := by decide +kernel
theorem dX4_readDoor_6 : decode cX4_readDoor 6 = .ok (.istore_n 2, 1) := by decide +kernel
theorem dX4_readDoor_7 : decode cX4_readDoor 7 = .ok (.aload_n 0, 1) := by decide +kernel
theorem dX4_readDoor_8 : decode cX4_readDoor 8 = .ok (.dup, 1) := by decide +kernel
theorem dX4_readDoor_9 : decode cX4_readDoor 9 = .ok (.getfield 25, 3) := by decide +kernel
theorem dX4_readDoor_12 : decode cX4_readDoor 12 = .ok (.iconst 1, 1) := by decide +kernel
theorem dX4_readDoor_13 : decode cX4_readDoor 13 = .ok (.iadd, 1) := by decide +kernel
theorem dX4_readDoor_14 : decode cX4_readDoor 14 = .ok (.putfield 25, 3) := by decide +kernel
theorem dX4_readDoor_17 : decode cX4_readDoor 17 = .ok (.aload_n 0, 1) := by decide +kernel
theorem dX4_readDoor_18 : decode cX4_readDoor 18 = .ok (.aload_n 1, 1) := by decide +kernel
theorem dX4_readDoor_19 : decode cX4_readDoor 19 = .ok (.invokevirtual 87, 3) := by decide +kernel
theorem dX4_readDoor_22 : decode cX4_readDoor 22 = .ok (.invokevirtual 45, 3) := by decide +kernel
theorem dX4_readDoor_25 : decode cX4_readDoor 25 = .ok (.istore_n 3, 1) := by decide +kernel
theorem dX4_readDoor_26 : decode cX4_readDoor 26 = .ok (.aload_n 0, 1) := by decide +kernel
theorem dX4_readDoor_27 : decode cX4_readDoor 27 = .ok (.bipush 45, 2) := by decide +kernel
theorem dX4_readDoor_29 : decode cX4_readDoor 29 = .ok (.invokevirtual 41, 3) := by decide +kernel
theorem dX4_readDoor_32 : decode cX4_readDoor 32 = .ok (.aload_n 0, 1) := by decide +kernel
theorem dX4_readDoor_33 : decode cX4_readDoor 33 = .ok (.aload_n 1, 1) := by decide +kernel
theorem dX4_readDoor_34 : decode cX4_readDoor 34 = .ok (.invokevirtual 87, 3) := by decide +kernel
theorem dX4_readDoor_37 : decode cX4_readDoor 37 = .ok (.iconst 1, 1) := by decide +kernel
theorem dX4_readDoor_38 : decode cX4_readDoor 38 = .ok (.iload_n 3, 1) := by decide +kernel
theorem dX4_readDoor_39 : decode cX4_readDoor 39 = .ok (.ishl, 1) := by decide +kernel
theorem dX4_readDoor_40 : decode cX4_readDoor 40 = .ok (.iconst (-1), 1) := by decide +kernel
theorem dX4_readDoor_41 : decode cX4_readDoor 41 = .ok (.ixor, 1) := by decide +kernel
theorem dX4_readDoor_42 : decode cX4_readDoor 42 = .ok (.iand, 1) := by decide +kernel
theorem dX4_readDoor_43 : decode cX4_readDoor 43 = .ok (.invokevirtual 45, 3) := by decide +kernel
theorem dX4_readDoor_46 : decode cX4_readDoor 46 = .ok (.istore 4, 2) := by decide +kernel
theorem dX4_readDoor_48 : decode cX4_readDoor 48 = .ok (.aload_n 0, 1) := by decide +kernel
theorem dX4_readDoor_49 : decode cX4_readDoor 49 = .ok (.getfield 28, 3) := by decide +kernel
theorem dX4_readDoor_52 : decode cX4_readDoor 52 = .ok (.ifCond .ne 11, 3) := by decide +kernel
theorem dX4_readDoor_55 : decode cX4_readDoor 55 = .ok (.aload_n 1, 1) := by decide +kernel
theorem dX4_readDoor_56 : decode cX4_readDoor 56 = .ok (.iload_n 3, 1) := by decide +kernel
theorem dX4_readDoor_57 : decode cX4_readDoor 57 = .ok (.iload 4, 2) := by decide +kernel
theorem dX4_readDoor_59 : decode cX4_readDoor 59 = .ok (.iload_n 2, 1) := by decide +kernel
theorem dX4_readDoor_60 : decode cX4_readDoor 60 = .ok (.invokevirtual 91, 3) := by decide +kernel
theorem dX4_readDoor_63 : decode cX4_readDoor 63 = .ok (.return_, 1) := by decide +kernel
theorem dX4_readWalker_0 : decode cX4_readWalker 0 = .ok (.aload_n 0, 1) := by decide +kernel
theorem dX4_readWalker_1 : decode cX4_readWalker 1 = .ok (.dup, 1) := by decide +kernel
theorem dX4_readWalker_2 : decode cX4_readWalker 2 = .ok (.getfield 25, 3) := by decide +kernel
theorem dX4_readWalker_5 : decode cX4_readWalker 5 = .ok (.iconst 1, 1) := by decide +kernel
theorem dX4_readWalker_6 : decode cX4_readWalker 6 = .ok (.iadd, 1) := by decide +kernel
theorem dX4_readWalker_7 : decode cX4_readWalker 7 = .ok (.putfield 25, 3) := by decide +kernel
theorem dX4_readWalker_10 : decode cX4_readWalker 10 = .ok (.aload_n 0, 1) := by decide +kernel
theorem dX4_readWalker_11 : decode cX4_readWalker 11 = .ok (.bipush 6, 2) := by decide +kernel
theorem dX4_readWalker_13 : decode cX4_readWalker 13 = .ok (.invokevirtual 45, 3) := by decide +kernel
theorem dX4_readWalker_16 : decode cX4_readWalker 16 = .ok (.istore_n 2, 1) := by decide +kernel
theorem dX4_readWalker_17 : decode cX4_readWalker 17 = .ok (.aload_n 0, 1) := by decide +kernel
theorem dX4_readWalker_18 : decode cX4_readWalker 18 = .ok (.bipush 58, 2) := by decide +kernel
theorem dX4_readWalker_20 : decode cX4_readWalker 20 = .ok (.invokevirtual 41, 3) := by decide +kernel
theorem dX4_readWalker_23 : decode cX4_readWalker 23 = .ok (.aload_n 1, 1) := by decide +kernel
theorem dX4_readWalker_24 : decode cX4_readWalker 24 = .ok (.invokevirtual 87, 3) := by decide +kernel
theorem dX4_readWalker_27 : decode cX4_readWalker 27 = .ok (.istore_n 3, 1) := by decide +kernel
theorem dX4_readWalker_28 : decode cX4_readWalker 28 = .ok (.aload_n 0, 1) := by decide +kernel
theorem dX4_readWalker_29 : decode cX4_readWalker 29 = .ok (.bipush 42, 2) := by decide +kernel
theorem dX4_readWalker_31 : decode cX4_readWalker 31 = .ok (.invokevirtual 65, 3) := by decide +kernel
theorem dX4_readWalker_34 : decode cX4_readWalker 34 = .ok (.ifCond .eq 16, 3) := by decide +kernel
theorem dX4_readWalker_37 : decode cX4_readWalker 37 = .ok (.aload_n 0, 1) := by decide +kernel
theorem dX4_readWalker_38 : decode cX4_readWalker 38 = .ok (.dup, 1) := by decide +kernel
theorem dX4_readWalker_39 : decode cX4_readWalker 39 = .ok (.getfield 25, 3) := by decide +kernel
theorem dX4_readWalker_42 : decode cX4_readWalker 42 = .ok (.iconst 1, 1) := by decide +kernel
theorem dX4_readWalker_43 : decode cX4_readWalker 43 = .ok (.iadd, 1) := by decide +kernel
theorem dX4_readWalker_44 : decode cX4_readWalker 44 = .ok (.putfield 25, 3) := by decide +kernel
theorem dX4_readWalker_47 : decode cX4_readWalker 47 = .ok (.goto 12, 3) := by decide +kernel
theorem dX4_readWalker_50 : decode cX4_readWalker 50 = .ok (.aload_n 0, 1) := by decide +kernel
theorem dX4_readWalker_51 : decode cX4_readWalker 51 = .ok (.aload_n 1, 1) := by decide +kernel
theorem dX4_readWalker_52 : decode cX4_readWalker 52 = .ok (.invokevirtual 87, 3) := by decide +kernel
theorem dX4_readWalker_55 : decode cX4_readWalker 55 = .ok (.invokevirtual 95, 3) := by decide +kernel
theorem dX4_readWalker_58 : decode cX4_readWalker 58 = .ok (.istore_n 3, 1) := by decide +kernel
theorem dX4_readWalker_59 : decode cX4_readWalker 59 = .ok (.aload_n 0, 1) := by decide +kernel
theorem dX4_readWalker_60 : decode cX4_readWalker 60 = .ok (.getfield 28, 3) := by decide +kernel
theorem dX4_readWalker_63 : decode cX4_readWalker 63 = .ok (.ifCond .ne 9, 3) := by decide +kernel
theorem dX4_readWalker_66 : decode cX4_readWalker 66 = .ok (.aload_n 1, 1) := by decide +kernel
theorem dX4_readWalker_67 : decode cX4_readWalker 67 = .ok (.iload_n 2, 1) := by decide +kernel
theorem dX4_readWalker_68 : decode cX4_readWalker 68 = .ok (.iload_n 3, 1) := by decide +kernel
theorem dX4_readWalker_69 : decode cX4_readWalker 69 = .ok (.invokevirtual 98, 3) := by decide +kernel
theorem dX4_readWalker_72 : decode cX4_readWalker 72 = .ok (.return_, 1) := by decide +kernel
theorem dX4_readRising_0 : decode cX4_readRising 0 = .ok (.iconst 0, 1) := by decide +kernel
theorem dX4_readRising_1 : decode cX4_readRising 1 = .ok (.istore_n 2, 1) := by decide +kernel
theorem dX4_readRising_2 : decode cX4_readRising 2 = .ok (.iload_n 1, 1) := by decide +kernel
theorem dX4_readRising_3 : decode cX4_readRising 3 = .ok (.istore_n 3, 1) := by decide +kernel
theorem dX4_readRising_4 : decode cX4_readRising 4 = .ok (.iconst 0, 1) := by decide +kernel
theorem dX4_readRising_5 : decode cX4_readRising 5 = .ok (.istore 4, 2) := by decide +kernel
theorem dX4_readRising_7 : decode cX4_readRising 7 = .ok (.iload 4, 2) := by decide +kernel
theorem dX4_readRising_9 : decode cX4_readRising 9 = .ok (.bipush 6, 2) := by decide +kernel
theorem dX4_readRising_11 : decode cX4_readRising 11 = .ok (.if_icmp .gt 46, 3) := by decide +kernel
theorem dX4_readRising_14 : decode cX4_readRising 14 = .ok (.iload 4, 2) := by decide +kernel
theorem dX4_readRising_16 : decode cX4_readRising 16 = .ok (.ifCond .eq 10, 3) := by decide +kernel
theorem dX4_readRising_19 : decode cX4_readRising 19 = .ok (.aload_n 0, 1) := by decide +kernel
theorem dX4_readRising_20 : decode cX4_readRising 20 = .ok (.invokevirtual 102, 3) := by decide +kernel
theorem dX4_readRising_23 : decode cX4_readRising 23 = .ok (.ifCond .eq 34, 3) := by decide +kernel
theorem dX4_readRising_26 : decode cX4_readRising 26 = .ok (.aload_n 0, 1) := by decide +kernel
theorem dX4_readRising_27 : decode cX4_readRising 27 = .ok (.iload_n 3, 1) := by decide +kernel
theorem dX4_readRising_28 : decode cX4_readRising 28 = .ok (.invokevirtual 45, 3) := by decide +kernel
theorem dX4_readRising_31 : decode cX4_readRising 31 = .ok (.istore 5, 2) := by decide +kernel
theorem dX4_readRising_33 : decode cX4_readRising 33 = .ok (.iload_n 2, 1) := by decide +kernel
theorem dX4_readRising_34 : decode cX4_readRising 34 = .ok (.iconst 1, 1) := by decide +kernel
theorem dX4_readRising_35 : decode cX4_readRising 35 = .ok (.iload 5, 2) := by decide +kernel
theorem dX4_readRising_37 : decode cX4_readRising 37 = .ok (.ishl, 1) := by decide +kernel
theorem dX4_readRising_38 : decode cX4_readRising 38 = .ok (.ior, 1) := by decide +kernel
theorem dX4_readRising_39 : decode cX4_readRising 39 = .ok (.istore_n 2, 1) := by decide +kernel
theorem dX4_readRising_40 : decode cX4_readRising 40 = .ok (.iload_n 3, 1) := by decide +kernel
theorem dX4_readRising_41 : decode cX4_readRising 41 = .ok (.iconst 2, 1) := by decide +kernel
theorem dX4_readRising_42 : decode cX4_readRising 42 = .ok (.iload 5, 2) := by decide +kernel
theorem dX4_readRising_44 : decode cX4_readRising 44 = .ok (.ishl, 1) := by decide +kernel
theorem dX4_readRising_45 : decode cX4_readRising 45 = .ok (.iconst 1, 1) := by decide +kernel
theorem dX4_readRising_46 : decode cX4_readRising 46 = .ok (.isub, 1) := by decide +kernel
theorem dX4_readRising_47 : decode cX4_readRising 47 = .ok (.iconst (-1), 1) := by decide +kernel
theorem dX4_readRising_48 : decode cX4_readRising 48 = .ok (.ixor, 1) := by decide +kernel
theorem dX4_readRising_49 : decode cX4_readRising 49 = .ok (.iand, 1) := by decide +kernel
theorem dX4_readRising_50 : decode cX4_readRising 50 = .ok (.istore_n 3, 1) := by decide +kernel
theorem dX4_readRising_51 : decode cX4_readRising 51 = .ok (.iinc 4 1, 3) := by decide +kernel
theorem dX4_readRising_54 : decode cX4_readRising 54 = .ok (.goto (-47), 3) := by decide +kernel
theorem dX4_readRising_57 : decode cX4_readRising 57 = .ok (.iload_n 2, 1) := by decide +kernel
theorem dX4_readRising_58 : decode cX4_readRising 58 = .ok (.ireturn, 1) := by decide +kernel
theorem dX4_readEvent_0 : decode cX4_readEvent 0 = .ok (.aload_n 0, 1) := by decide +kernel
theorem dX4_readEvent_1 : decode cX4_readEvent 1 = .ok (.invokevirtual 105, 3) := by decide +kernel
theorem dX4_readEvent_4 : decode cX4_readEvent 4 = .ok (.istore_n 3, 1) := by decide +kernel
theorem dX4_readEvent_5 : decode cX4_readEvent 5 = .ok (.iload_n 3, 1) := by decide +kernel
theorem dX4_readEvent_6 : decode cX4_readEvent 6 = .ok (.ifCond .ne 9, 3) := by decide +kernel
theorem dX4_readEvent_9 : decode cX4_readEvent 9 = .ok (.aload_n 0, 1) := by decide +kernel
theorem dX4_readEvent_10 : decode cX4_readEvent 10 = .ok (.iconst 1, 1) := by decide +kernel
theorem dX4_readEvent_11 : decode cX4_readEvent 11 = .ok (.putfield 28, 3) := by decide +kernel
theorem dX4_readEvent_14 : decode cX4_readEvent 14 = .ok (.return_, 1) := by decide +kernel
theorem dX4_readEvent_15 : decode cX4_readEvent 15 = .ok (.aload_n 0, 1) := by decide +kernel
theorem dX4_readEvent_16 : decode cX4_readEvent 16 = .ok (.dup, 1) := by decide +kernel
theorem dX4_readEvent_17 : decode cX4_readEvent 17 = .ok (.getfield 25, 3) := by decide +kernel
theorem dX4_readEvent_20 : decode cX4_readEvent 20 = .ok (.iconst 1, 1) := by decide +kernel
theorem dX4_readEvent_21 : decode cX4_readEvent 21 = .ok (.iadd, 1) := by decide +kernel
theorem dX4_readEvent_22 : decode cX4_readEvent 22 = .ok (.putfield 25, 3) := by decide +kernel
theorem dX4_readEvent_25 : decode cX4_readEvent 25 = .ok (.iload_n 3, 1) := by decide +kernel
theorem dX4_readEvent_26 : decode cX4_readEvent 26 = .ok (.iconst 1, 1) := by decide +kernel
theorem dX4_readEvent_27 : decode cX4_readEvent 27 = .ok (.if_icmp .ne 10, 3) := by decide +kernel
theorem dX4_readEvent_30 : decode cX4_readEvent 30 = .ok (.aload_n 1, 1) := by decide +kernel
theorem dX4_readEvent_31 : decode cX4_readEvent 31 = .ok (.getfield 108, 3) := by decide +kernel
theorem dX4_readEvent_34 : decode cX4_readEvent 34 = .ok (.goto 7, 3) := by decide +kernel
theorem dX4_readEvent_37 : decode cX4_readEvent 37 = .ok (.aload_n 1, 1) := by decide +kernel
theorem dX4_readEvent_38 : decode cX4_readEvent 38 = .ok (.invokevirtual 111, 3) := by decide +kernel
theorem dX4_readEvent_41 : decode cX4_readEvent 41 = .ok (.istore 4, 2) := by decide +kernel
theorem dX4_readEvent_43 : decode cX4_readEvent 43 = .ok (.iload_n 3, 1) := by decide +kernel
theorem dX4_readEvent_44 : decode cX4_readEvent 44 = .ok (.iconst 1, 1) := by decide +kernel
theorem dX4_readEvent_45 : decode cX4_readEvent 45 = .ok (.if_icmp .eq 8, 3) := by decide +kernel
theorem dX4_readEvent_48 : decode cX4_readEvent 48 = .ok (.iload_n 3, 1) := by decide +kernel
theorem dX4_readEvent_49 : decode cX4_readEvent 49 = .ok (.iconst 5, 1) := by decide +kernel
theorem dX4_readEvent_50 : decode cX4_readEvent 50 = .ok (.if_icmp .ne 7, 3) := by decide +kernel
theorem dX4_readEvent_53 : decode cX4_readEvent 53 = .ok (.iconst 1, 1) := by decide +kernel
theorem dX4_readEvent_54 : decode cX4_readEvent 54 = .ok (.goto 4, 3) := by decide +kernel
theorem dX4_readEvent_57 : decode cX4_readEvent 57 = .ok (.iconst 0, 1) := by decide +kernel
theorem dX4_readEvent_58 : decode cX4_readEvent 58 = .ok (.istore 5, 2) := by decide +kernel
theorem dX4_readEvent_60 : decode cX4_readEvent 60 = .ok (.aload_n 0, 1) := by decide +kernel
theorem dX4_readEvent_61 : decode cX4_readEvent 61 = .ok (.iload 5, 2) := by decide +kernel
theorem dX4_readEvent_63 : decode cX4_readEvent 63 = .ok (.ifCond .eq 8, 3) := by decide +kernel
theorem dX4_readEvent_66 : decode cX4_readEvent 66 = .ok (.iload 4, 2) := by decide +kernel
theorem dX4_readEvent_68 : decode cX4_readEvent 68 = .ok (.goto 7, 3) := by decide +kernel
theorem dX4_readEvent_71 : decode cX4_readEvent 71 = .ok (.aload_n 1, 1) := by decide +kernel
theorem dX4_readEvent_72 : decode cX4_readEvent 72 = .ok (.invokevirtual 87, 3) := by decide +kernel
theorem dX4_readEvent_75 : decode cX4_readEvent 75 = .ok (.invokevirtual 45, 3) := by decide +kernel
theorem dX4_readEvent_78 : decode cX4_readEvent 78 = .ok (.istore 6, 2) := by decide +kernel
theorem dX4_readEvent_80 : decode cX4_readEvent 80 = .ok (.iconst 0, 1) := by decide +kernel
theorem dX4_readEvent_81 : decode cX4_readEvent 81 = .ok (.istore 7, 2) := by decide +kernel
theorem dX4_readEvent_83 : decode cX4_readEvent 83 = .ok (.iload_n 3, 1) := by decide +kernel
theorem dX4_readEvent_84 : decode cX4_readEvent 84 = .ok (.iconst 2, 1) := by decide +kernel
theorem dX4_readEvent_85 : decode cX4_readEvent 85 = .ok (.if_icmp .ne 34, 3) := by decide +kernel
theorem dX4_readEvent_88 : decode cX4_readEvent 88 = .ok (.aload_n 0, 1) := by decide +kernel
theorem dX4_readEvent_89 : decode cX4_readEvent 89 = .ok (.bipush 47, 2) := by decide +kernel
theorem dX4_readEvent_91 : decode cX4_readEvent 91 = .ok (.invokevirtual 65, 3) := by decide +kernel
theorem dX4_readEvent_94 : decode cX4_readEvent 94 = .ok (.ifCond .eq 25, 3) := by decide +kernel
theorem dX4_readEvent_97 : decode cX4_readEvent 97 = .ok (.aload_n 0, 1) := by decide +kernel
theorem dX4_readEvent_98 : decode cX4_readEvent 98 = .ok (.dup, 1) := by decide +kernel
theorem dX4_readEvent_99 : decode cX4_readEvent 99 = .ok (.getfield 25, 3) := by decide +kernel
theorem dX4_readEvent_102 : decode cX4_readEvent 102 = .ok (.iconst 1, 1) := by decide +kernel
theorem dX4_readEvent_103 : decode cX4_readEvent 103 = .ok (.iadd, 1) := by decide +kernel
theorem dX4_readEvent_104 : decode cX4_readEvent 104 = .ok (.putfield 25, 3) := by decide +kernel
theorem dX4_readEvent_107 : decode cX4_readEvent 107 = .ok (.iconst 3, 1) := by decide +kernel
theorem dX4_readEvent_108 : decode cX4_readEvent 108 = .ok (.istore_n 3, 1) := by decide +kernel
theorem dX4_readEvent_109 : decode cX4_readEvent 109 = .ok (.aload_n 0, 1) := by decide +kernel
theorem dX4_readEvent_110 : decode cX4_readEvent 110 = .ok (.aload_n 1, 1) := by decide +kernel
theorem dX4_readEvent_111 : decode cX4_readEvent 111 = .ok (.invokevirtual 114, 3) := by decide +kernel
theorem dX4_readEvent_114 : decode cX4_readEvent 114 = .ok (.invokevirtual 45, 3) := by decide +kernel
theorem dX4_readEvent_117 : decode cX4_readEvent 117 = .ok (.istore 7, 2) := by decide +kernel
theorem dX4_readEvent_119 : decode cX4_readEvent 119 = .ok (.aload_n 0, 1) := by decide +kernel
theorem dX4_readEvent_120 : decode cX4_readEvent 120 = .ok (.bipush 64, 2) := by decide +kernel
theorem dX4_readEvent_122 : decode cX4_readEvent 122 = .ok (.invokevirtual 41, 3) := by decide +kernel
theorem dX4_readEvent_125 : decode cX4_readEvent 125 = .ok (.iload 5, 2) := by decide +kernel
theorem dX4_readEvent_127 : decode cX4_readEvent 127 = .ok (.ifCond .eq 12, 3) := by decide +kernel
theorem dX4_readEvent_130 : decode cX4_readEvent 130 = .ok (.aload_n 1, 1) := by decide +kernel
theorem dX4_readEvent_131 : decode cX4_readEvent 131 = .ok (.getfield 84, 3) := by decide +kernel
theorem dX4_readEvent_134 : decode cX4_readEvent 134 = .ok (.iconst 1, 1) := by decide +kernel
theorem dX4_readEvent_135 : decode cX4_readEvent 135 = .ok (.isub, 1) := by decide +kernel
theorem dX4_readEvent_136 : decode cX4_readEvent 136 = .ok (.goto 7, 3) := by decide +kernel
theorem dX4_readEvent_139 : decode cX4_readEvent 139 = .ok (.aload_n 1, 1) := by decide +kernel
theorem dX4_readEvent_140 : decode cX4_readEvent 140 = .ok (.getfield 84, 3) := by decide +kernel
theorem dX4_readEvent_143 : decode cX4_readEvent 143 = .ok (.istore 8, 2) := by decide +kernel
theorem dX4_readEvent_145 : decode cX4_readEvent 145 = .ok (.aload_n 0, 1) := by decide +kernel
theorem dX4_readEvent_146 : decode cX4_readEvent 146 = .ok (.iconst 0, 1) := by decide +kernel
theorem dX4_readEvent_147 : decode cX4_readEvent 147 = .ok (.iload 8, 2) := by decide +kernel
theorem dX4_readEvent_149 : decode cX4_readEvent 149 = .ok (.invokevirtual 81, 3) := by decide +kernel
theorem dX4_readEvent_152 : decode cX4_readEvent 152 = .ok (.istore 9, 2) := by decide +kernel
theorem dX4_readEvent_154 : decode cX4_readEvent 154 = .ok (.iload_n 3, 1) := by decide +kernel
theorem dX4_readEvent_155 : decode cX4_readEvent 155 = .ok (.iconst 5, 1) := by decide +kernel
theorem dX4_readEvent_156 : decode cX4_readEvent 156 = .ok (.if_icmp .ne 19, 3) := by decide +kernel
theorem dX4_readEvent_159 : decode cX4_readEvent 159 = .ok (.aload_n 0, 1) := by decide +kernel
theorem dX4_readEvent_160 : decode cX4_readEvent 160 = .ok (.bipush 45, 2) := by decide +kernel
theorem dX4_readEvent_162 : decode cX4_readEvent 162 = .ok (.invokevirtual 41, 3) := by decide +kernel
theorem dX4_readEvent_165 : decode cX4_readEvent 165 = .ok (.aload_n 0, 1) := by decide +kernel
theorem dX4_readEvent_166 : decode cX4_readEvent 166 = .ok (.iload 9, 2) := by decide +kernel
theorem dX4_readEvent_168 : decode cX4_readEvent 168 = .ok (.iload 8, 2) := by decide +kernel
theorem dX4_readEvent_170 : decode cX4_readEvent 170 = .ok (.invokevirtual 81, 3) := by decide +kernel
theorem dX4_readEvent_173 : decode cX4_readEvent 173 = .ok (.istore 7, 2) := by decide +kernel
theorem dX4_readEvent_175 : decode cX4_readEvent 175 = .ok (.aload_n 0, 1) := by decide +kernel
theorem dX4_readEvent_176 : decode cX4_readEvent 176 = .ok (.getfield 28, 3) := by decide +kernel
theorem dX4_readEvent_179 : decode cX4_readEvent 179 = .ok (.ifCond .ne 14, 3) := by decide +kernel
theorem dX4_readEvent_182 : decode cX4_readEvent 182 = .ok (.aload_n 2, 1) := by decide +kernel
theorem dX4_readEvent_183 : decode cX4_readEvent 183 = .ok (.iload_n 3, 1) := by decide +kernel
theorem dX4_readEvent_184 : decode cX4_readEvent 184 = .ok (.iload 6, 2) := by decide +kernel
theorem dX4_readEvent_186 : decode cX4_readEvent 186 = .ok (.iload 7, 2) := by decide +kernel
theorem dX4_readEvent_188 : decode cX4_readEvent 188 = .ok (.iload 9, 2) := by decide +kernel
theorem dX4_readEvent_190 : decode cX4_readEvent 190 = .ok (.invokevirtual 117, 3) := by decide +kernel
theorem dX4_readEvent_193 : decode cX4_readEvent 193 = .ok (.return_, 1) := by decide +kernel
theorem dX4_kindAhead_0 : decode cX4_kindAhead 0 = .ok (.aload_n 0, 1) := by decide +kernel
theorem dX4_kindAhead_1 : decode cX4_kindAhead 1 = .ok (.bipush 115, 2) := by decide +kernel
theorem dX4_kindAhead_3 : decode cX4_kindAhead 3 = .ok (.invokevirtual 65, 3) := by decide +kernel
theorem dX4_kindAhead_6 : decode cX4_kindAhead 6 = .ok (.ifCond .eq 5, 3) := by decide +kernel
theorem dX4_kindAhead_9 : decode cX4_kindAhead 9 = .ok (.iconst 1, 1) := by decide +kernel
theorem dX4_kindAhead_10 : decode cX4_kindAhead 10 = .ok (.ireturn, 1) := by decide +kernel
theorem dX4_kindAhead_11 : decode cX4_kindAhead 11 = .ok (.aload_n 0, 1) := by decide +kernel
theorem dX4_kindAhead_12 : decode cX4_kindAhead 12 = .ok (.bipush 121, 2) := by decide +kernel
theorem dX4_kindAhead_14 : decode cX4_kindAhead 14 = .ok (.invokevirtual 65, 3) := by decide +kernel
theorem dX4_kindAhead_17 : decode cX4_kindAhead 17 = .ok (.ifCond .eq 5, 3) := by decide +kernel
theorem dX4_kindAhead_20 : decode cX4_kindAhead 20 = .ok (.iconst 2, 1) := by decide +kernel
theorem dX4_kindAhead_21 : decode cX4_kindAhead 21 = .ok (.ireturn, 1) := by decide +kernel
theorem dX4_kindAhead_22 : decode cX4_kindAhead 22 = .ok (.aload_n 0, 1) := by decide +kernel
theorem dX4_kindAhead_23 : decode cX4_kindAhead 23 = .ok (.bipush 110, 2) := by decide +kernel
theorem dX4_kindAhead_25 : decode cX4_kindAhead 25 = .ok (.invokevirtual 65, 3) := by decide +kernel
theorem dX4_kindAhead_28 : decode cX4_kindAhead 28 = .ok (.ifCond .eq 5, 3) := by decide +kernel
theorem dX4_kindAhead_31 : decode cX4_kindAhead 31 = .ok (.iconst 4, 1) := by decide +kernel
theorem dX4_kindAhead_32 : decode cX4_kindAhead 32 = .ok (.ireturn, 1) := by decide +kernel
theorem dX4_kindAhead_33 : decode cX4_kindAhead 33 = .ok (.aload_n 0, 1) := by decide +kernel
theorem dX4_kindAhead_34 : decode cX4_kindAhead 34 = .ok (.bipush 120, 2) := by decide +kernel
theorem dX4_kindAhead_36 : decode cX4_kindAhead 36 = .ok (.invokevirtual 65, 3) := by decide +kernel
theorem dX4_kindAhead_39 : decode cX4_kindAhead 39 = .ok (.ifCond .eq 7, 3) := by decide +kernel
theorem dX4_kindAhead_42 : decode cX4_kindAhead 42 = .ok (.iconst 5, 1) := by decide +kernel
theorem dX4_kindAhead_43 : decode cX4_kindAhead 43 = .ok (.goto 4, 3) := by decide +kernel
theorem dX4_kindAhead_46 : decode cX4_kindAhead 46 = .ok (.iconst 0, 1) := by decide +kernel
theorem dX4_kindAhead_47 : decode cX4_kindAhead 47 = .ok (.ireturn, 1) := by decide +kernel
theorem dX4_ahead_0 : decode cX4_ahead 0 = .ok (.aload_n 0, 1) := by decide +kernel
theorem dX4_ahead_1 : decode cX4_ahead 1 = .ok (.getfield 28, 3) := by decide +kernel
theorem dX4_ahead_4 : decode cX4_ahead 4 = .ok (.ifCond .ne 31, 3) := by decide +kernel
theorem dX4_ahead_7 : decode cX4_ahead 7 = .ok (.aload_n 0, 1) := by decide +kernel
theorem dX4_ahead_8 : decode cX4_ahead 8 = .ok (.getfield 25, 3) := by decide +kernel
theorem dX4_ahead_11 : decode cX4_ahead 11 = .ok (.aload_n 0, 1) := by decide +kernel
theorem dX4_ahead_12 : decode cX4_ahead 12 = .ok (.getfield 21, 3) := by decide +kernel
theorem dX4_ahead_15 : decode cX4_ahead 15 = .ok (.if_icmp .ge 20, 3) := by decide +kernel
theorem dX4_ahead_18 : decode cX4_ahead 18 = .ok (.aload_n 0, 1) := by decide +kernel
theorem dX4_ahead_19 : decode cX4_ahead 19 = .ok (.getfield 9, 3) := by decide +kernel
theorem dX4_ahead_22 : decode cX4_ahead 22 = .ok (.aload_n 0, 1) := by decide +kernel
theorem dX4_ahead_23 : decode cX4_ahead 23 = .ok (.getfield 25, 3) := by decide +kernel
theorem dX4_ahead_26 : decode cX4_ahead 26 = .ok (.iaload, 1) := by decide +kernel
theorem dX4_ahead_27 : decode cX4_ahead 27 = .ok (.iload_n 1, 1) := by decide +kernel
theorem dX4_ahead_28 : decode cX4_ahead 28 = .ok (.if_icmp .ne 7, 3) := by decide +kernel
theorem dX4_ahead_31 : decode cX4_ahead 31 = .ok (.iconst 1, 1) := by decide +kernel
theorem dX4_ahead_32 : decode cX4_ahead 32 = .ok (.goto 4, 3) := by decide +kernel
theorem dX4_ahead_35 : decode cX4_ahead 35 = .ok (.iconst 0, 1) := by decide +kernel
theorem dX4_ahead_36 : decode cX4_ahead 36 = .ok (.ireturn, 1) := by decide +kernel
theorem dX4_figureAhead_0 : decode cX4_figureAhead 0 = .ok (.aload_n 0, 1) := by decide +kernel
theorem dX4_figureAhead_1 : decode cX4_figureAhead 1 = .ok (.getfield 28, 3) := by decide +kernel
theorem dX4_figureAhead_4 : decode cX4_figureAhead 4 = .ok (.ifCond .ne 46, 3) := by decide +kernel
theorem dX4_figureAhead_7 : decode cX4_figureAhead 7 = .ok (.aload_n 0, 1) := by decide +kernel
theorem dX4_figureAhead_8 : decode cX4_figureAhead 8 = .ok (.getfield 25, 3) := by decide +kernel
theorem dX4_figureAhead_11 : decode cX4_figureAhead 11 = .ok (.aload_n 0, 1) := by decide +kernel
theorem dX4_figureAhead_12 : decode cX4_figureAhead 12 = .ok (.getfield 21, 3) := by decide +kernel
theorem dX4_figureAhead_15 : decode cX4_figureAhead 15 = .ok (.if_icmp .ge 35, 3) := by decide +kernel
theorem dX4_figureAhead_18 : decode cX4_figureAhead 18 = .ok (.aload_n 0, 1) := by decide +kernel
theorem dX4_figureAhead_19 : decode cX4_figureAhead 19 = .ok (.getfield 9, 3) := by decide +kernel
theorem dX4_figureAhead_22 : decode cX4_figureAhead 22 = .ok (.aload_n 0, 1) := by decide +kernel
theorem dX4_figureAhead_23 : decode cX4_figureAhead 23 = .ok (.getfield 25, 3) := by decide +kernel
theorem dX4_figureAhead_26 : decode cX4_figureAhead 26 = .ok (.iaload, 1) := by decide +kernel
theorem dX4_figureAhead_27 : decode cX4_figureAhead 27 = .ok (.bipush 48, 2) := by decide +kernel
theorem dX4_figureAhead_29 : decode cX4_figureAhead 29 = .ok (.if_icmp .lt 21, 3) := by decide +kernel
theorem dX4_figureAhead_32 : decode cX4_figureAhead 32 = .ok (.aload_n 0, 1) := by decide +kernel
theorem dX4_figureAhead_33 : decode cX4_figureAhead 33 = .ok (.getfield 9, 3) := by decide +kernel
theorem dX4_figureAhead_36 : decode cX4_figureAhead 36 = .ok (.aload_n 0, 1) := by decide +kernel
theorem dX4_figureAhead_37 : decode cX4_figureAhead 37 = .ok (.getfield 25, 3) := by decide +kernel
theorem dX4_figureAhead_40 : decode cX4_figureAhead 40 = .ok (.iaload, 1) := by decide +kernel
theorem dX4_figureAhead_41 : decode cX4_figureAhead 41 = .ok (.bipush 57, 2) := by decide +kernel
theorem dX4_figureAhead_43 : decode cX4_figureAhead 43 = .ok (.if_icmp .gt 7, 3) := by decide +kernel
theorem dX4_figureAhead_46 : decode cX4_figureAhead 46 = .ok (.iconst 1, 1) := by decide +kernel
theorem dX4_figureAhead_47 : decode cX4_figureAhead 47 = .ok (.goto 4, 3) := by decide +kernel
theorem dX4_figureAhead_50 : decode cX4_figureAhead 50 = .ok (.iconst 0, 1) := by decide +kernel
theorem dX4_figureAhead_51 : decode cX4_figureAhead 51 = .ok (.ireturn, 1) := by decide +kernel
theorem dX4_expect_0 : decode cX4_expect 0 = .ok (.aload_n 0, 1) := by decide +kernel
theorem dX4_expect_1 : decode cX4_expect 1 = .ok (.iload_n 1, 1) := by decide +kernel
theorem dX4_expect_2 : decode cX4_expect 2 = .ok (.invokevirtual 65, 3) := by decide +kernel
theorem dX4_expect_5 : decode cX4_expect 5 = .ok (.ifCond .eq 16, 3) := by decide +kernel
theorem dX4_expect_8 : decode cX4_expect 8 = .ok (.aload_n 0, 1) := by decide +kernel
theorem dX4_expect_9 : decode cX4_expect 9 = .ok (.dup, 1) := by decide +kernel
theorem dX4_expect_10 : decode cX4_expect 10 = .ok (.getfield 25, 3) := by decide +kernel
theorem dX4_expect_13 : decode cX4_expect 13 = .ok (.iconst 1, 1) := by decide +kernel
theorem dX4_expect_14 : decode cX4_expect 14 = .ok (.iadd, 1) := by decide +kernel
theorem dX4_expect_15 : decode cX4_expect 15 = .ok (.putfield 25, 3) := by decide +kernel
theorem dX4_expect_18 : decode cX4_expect 18 = .ok (.goto 8, 3) := by decide +kernel
theorem dX4_expect_21 : decode cX4_expect 21 = .ok (.aload_n 0, 1) := by decide +kernel
theorem dX4_expect_22 : decode cX4_expect 22 = .ok (.iconst 1, 1) := by decide +kernel
theorem dX4_expect_23 : decode cX4_expect 23 = .ok (.putfield 28, 3) := by decide +kernel
theorem dX4_expect_26 : decode cX4_expect 26 = .ok (.return_, 1) := by decide +kernel
theorem dX4_figure_0 : decode cX4_figure 0 = .ok (.aload_n 0, 1) := by decide +kernel
theorem dX4_figure_1 : decode cX4_figure 1 = .ok (.invokevirtual 102, 3) := by decide +kernel
theorem dX4_figure_4 : decode cX4_figure 4 = .ok (.ifCond .eq 18, 3) := by decide +kernel
theorem dX4_figure_7 : decode cX4_figure 7 = .ok (.aload_n 0, 1) := by decide +kernel
theorem dX4_figure_8 : decode cX4_figure 8 = .ok (.getfield 9, 3) := by decide +kernel
theorem dX4_figure_11 : decode cX4_figure 11 = .ok (.aload_n 0, 1) := by decide +kernel
theorem dX4_figure_12 : decode cX4_figure 12 = .ok (.getfield 25, 3) := by decide +kernel
theorem dX4_figure_15 : decode cX4_figure 15 = .ok (.iaload, 1) := by decide +kernel
theorem dX4_figure_16 : decode cX4_figure 16 = .ok (.bipush 48, 2) := by decide +kernel
theorem dX4_figure_18 : decode cX4_figure 18 = .ok (.isub, 1) := by decide +kernel
theorem dX4_figure_19 : decode cX4_figure 19 = .ok (.goto 4, 3) := by decide +kernel
theorem dX4_figure_22 : decode cX4_figure 22 = .ok (.iconst (-1), 1) := by decide +kernel
theorem dX4_figure_23 : decode cX4_figure 23 = .ok (.istore_n 2, 1) := by decide +kernel
theorem dX4_figure_24 : decode cX4_figure 24 = .ok (.iload_n 2, 1) := by decide +kernel
theorem dX4_figure_25 : decode cX4_figure 25 = .ok (.ifCond .lt 11, 3) := by decide +kernel
theorem dX4_figure_28 : decode cX4_figure 28 = .ok (.iload_n 1, 1) := by decide +kernel
theorem dX4_figure_29 : decode cX4_figure 29 = .ok (.iload_n 2, 1) := by decide +kernel
theorem dX4_figure_30 : decode cX4_figure 30 = .ok (.ishr, 1) := by decide +kernel
theorem dX4_figure_31 : decode cX4_figure 31 = .ok (.iconst 1, 1) := by decide +kernel
theorem dX4_figure_32 : decode cX4_figure 32 = .ok (.iand, 1) := by decide +kernel
theorem dX4_figure_33 : decode cX4_figure 33 = .ok (.ifCond .ne 10, 3) := by decide +kernel
theorem dX4_figure_36 : decode cX4_figure 36 = .ok (.aload_n 0, 1) := by decide +kernel
theorem dX4_figure_37 : decode cX4_figure 37 = .ok (.iconst 1, 1) := by decide +kernel
theorem dX4_figure_38 : decode cX4_figure 38 = .ok (.putfield 28, 3) := by decide +kernel
theorem dX4_figure_41 : decode cX4_figure 41 = .ok (.iconst 0, 1) := by decide +kernel
theorem dX4_figure_42 : decode cX4_figure 42 = .ok (.ireturn, 1) := by decide +kernel
theorem dX4_figure_43 : decode cX4_figure 43 = .ok (.aload_n 0, 1) := by decide +kernel
theorem dX4_figure_44 : decode cX4_figure 44 = .ok (.dup, 1) := by decide +kernel
theorem dX4_figure_45 : decode cX4_figure 45 = .ok (.getfield 25, 3) := by decide +kernel
theorem dX4_figure_48 : decode cX4_figure 48 = .ok (.iconst 1, 1) := by decide +kernel
theorem dX4_figure_49 : decode cX4_figure 49 = .ok (.iadd, 1) := by decide +kernel
theorem dX4_figure_50 : decode cX4_figure 50 = .ok (.putfield 25, 3) := by decide +kernel
theorem dX4_figure_53 : decode cX4_figure 53 = .ok (.iload_n 2, 1) := by decide +kernel
theorem dX4_figure_54 : decode cX4_figure 54 = .ok (.ireturn, 1) := by decide +kernel
theorem dX4_readMinute_0 : decode cX4_readMinute 0 = .ok (.aload_n 0, 1) := by decide +kernel
theorem dX4_readMinute_1 : decode cX4_readMinute 1 = .ok (.sipush 1023, 3) := by decide +kernel
theorem dX4_readMinute_4 : decode cX4_readMinute 4 = .ok (.invokevirtual 45, 3) := by decide +kernel
theorem dX4_readMinute_7 : decode cX4_readMinute 7 = .ok (.istore_n 3, 1) := by decide +kernel
theorem dX4_readMinute_8 : decode cX4_readMinute 8 = .ok (.aload_n 0, 1) := by decide +kernel
theorem dX4_readMinute_9 : decode cX4_readMinute 9 = .ok (.invokevirtual 102, 3) := by decide +kernel
theorem dX4_readMinute_12 : decode cX4_readMinute 12 = .ok (.ifCond .eq 16, 3) := by decide +kernel
theorem dX4_readMinute_15 : decode cX4_readMinute 15 = .ok (.bipush 10, 2) := by decide +kernel
theorem dX4_readMinute_17 : decode cX4_readMinute 17 = .ok (.iload_n 3, 1) := by decide +kernel
theorem dX4_readMinute_18 : decode cX4_readMinute 18 = .ok (.imul, 1) := by decide +kernel
theorem dX4_readMinute_19 : decode cX4_readMinute 19 = .ok (.aload_n 0, 1) := by decide +kernel
theorem dX4_readMinute_20 : decode cX4_readMinute 20 = .ok (.sipush 1023, 3) := by decide +kernel
theorem dX4_readMinute_23 : decode cX4_readMinute 23 = .ok (.invokevirtual 45, 3) := by decide +kernel
theorem dX4_readMinute_26 : decode cX4_readMinute 26 = .ok (.iadd, 1) := by decide +kernel
theorem dX4_readMinute_27 : decode cX4_readMinute 27 = .ok (.istore_n 3, 1) := by decide +kernel
theorem dX4_readMinute_28 : decode cX4_readMinute 28 = .ok (.iload_n 3, 1) := by decide +kernel
theorem dX4_readMinute_29 : decode cX4_readMinute 29 = .ok (.iload_n 1, 1) := by decide +kernel
theorem dX4_readMinute_30 : decode cX4_readMinute 30 = .ok (.if_icmp .lt 8, 3) := by decide +kernel
theorem dX4_readMinute_33 : decode cX4_readMinute 33 = .ok (.iload_n 3, 1) := by decide +kernel
theorem dX4_readMinute_34 : decode cX4_readMinute 34 = .ok (.iload_n 2, 1) := by decide +kernel
theorem dX4_readMinute_35 : decode cX4_readMinute 35 = .ok (.if_icmp .le 8, 3) := by decide +kernel
theorem dX4_readMinute_38 : decode cX4_readMinute 38 = .ok (.aload_n 0, 1) := by decide +kernel
theorem dX4_readMinute_39 : decode cX4_readMinute 39 = .ok (.iconst 1, 1) := by decide +kernel
theorem dX4_readMinute_40 : decode cX4_readMinute 40 = .ok (.putfield 28, 3) := by decide +kernel
theorem dX4_readMinute_43 : decode cX4_readMinute 43 = .ok (.aload_n 0, 1) := by decide +kernel
theorem dX4_readMinute_44 : decode cX4_readMinute 44 = .ok (.getfield 28, 3) := by decide +kernel
theorem dX4_readMinute_47 : decode cX4_readMinute 47 = .ok (.ifCond .eq 7, 3) := by decide +kernel
theorem dX4_readMinute_50 : decode cX4_readMinute 50 = .ok (.iconst 0, 1) := by decide +kernel
theorem dX4_readMinute_51 : decode cX4_readMinute 51 = .ok (.goto 4, 3) := by decide +kernel
theorem dX4_readMinute_54 : decode cX4_readMinute 54 = .ok (.iload_n 3, 1) := by decide +kernel
theorem dX4_readMinute_55 : decode cX4_readMinute 55 = .ok (.ireturn, 1) := by decide +kernel
theorem dX5_init_0 : decode cX5_init 0 = .ok (.aload_n 0, 1) := by decide +kernel
theorem dX5_init_1 : decode cX5_init 1 = .ok (.invokespecial 1, 3) := by decide +kernel
theorem dX5_init_4 : decode cX5_init 4 = .ok (.aload_n 0, 1) := by decide +kernel
theorem dX5_init_5 : decode cX5_init 5 = .ok (.iload_n 1, 1) := by decide +kernel
theorem dX5_init_6 : decode cX5_init 6 = .ok (.iload_n 2, 1) := by decide +kernel
theorem dX5_init_7 : decode cX5_init 7 = .ok (.multianewarray 7 2, 4) := by decide +kernel
theorem dX5_init_11 : decode cX5_init 11 = .ok (.putfield 9, 3) := by decide +kernel
theorem dX5_init_14 : decode cX5_init 14 = .ok (.aload_n 0, 1) := by decide +kernel
theorem dX5_init_15 : decode cX5_init 15 = .ok (.iload_n 1, 1) := by decide +kernel
theorem dX5_init_16 : decode cX5_init 16 = .ok (.newarray .int, 2) := by decide +kernel
theorem dX5_init_18 : decode cX5_init 18 = .ok (.putfield 14, 3) := by decide +kernel
theorem dX5_init_21 : decode cX5_init 21 = .ok (.iconst 0, 1) := by decide +kernel
theorem dX5_init_22 : decode cX5_init 22 = .ok (.istore_n 3, 1) := by decide +kernel
theorem dX5_init_23 : decode cX5_init 23 = .ok (.iload_n 3, 1) := by decide +kernel
theorem dX5_init_24 : decode cX5_init 24 = .ok (.iload_n 1, 1) := by decide +kernel
theorem dX5_init_25 : decode cX5_init 25 = .ok (.if_icmp .ge 16, 3) := by decide +kernel
theorem dX5_init_28 : decode cX5_init 28 = .ok (.aload_n 0, 1) := by decide +kernel
theorem dX5_init_29 : decode cX5_init 29 = .ok (.getfield 14, 3) := by decide +kernel
theorem dX5_init_32 : decode cX5_init 32 = .ok (.iload_n 3, 1) := by decide +kernel
theorem dX5_init_33 : decode cX5_init 33 = .ok (.iconst (-1), 1) := by decide +kernel
theorem dX5_init_34 : decode cX5_init 34 = .ok (.iastore, 1) := by decide +kernel
theorem dX5_init_35 : decode cX5_init 35 = .ok (.iinc 3 1, 3) := by decide +kernel
theorem dX5_init_38 : decode cX5_init 38 = .ok (.goto (-15), 3) := by decide +kernel
theorem dX5_init_41 : decode cX5_init 41 = .ok (.return_, 1) := by decide +kernel
theorem dX5_names_0 : decode cX5_names 0 = .ok (.iload_n 1, 1) := by decide +kernel
theorem dX5_names_1 : decode cX5_names 1 = .ok (.ifCond .lt 16, 3) := by decide +kernel
theorem dX5_names_4 : decode cX5_names 4 = .ok (.iload_n 1, 1) := by decide +kernel
theorem dX5_names_5 : decode cX5_names 5 = .ok (.aload_n 0, 1) := by decide +kernel
theorem dX5_names_6 : decode cX5_names 6 = .ok (.getfield 14, 3) := by decide +kernel
theorem dX5_names_9 : decode cX5_names 9 = .ok (.arraylength, 1) := by decide +kernel
theorem dX5_names_10 : decode cX5_names 10 = .ok (.if_icmp .ge 7, 3) := by decide +kernel
theorem dX5_names_13 : decode cX5_names 13 = .ok (.iconst 1, 1) := by decide +kernel
theorem dX5_names_14 : decode cX5_names 14 = .ok (.goto 4, 3) := by decide +kernel
theorem dX5_names_17 : decode cX5_names 17 = .ok (.iconst 0, 1) := by decide +kernel
theorem dX5_names_18 : decode cX5_names 18 = .ok (.ireturn, 1) := by decide +kernel
theorem dX5_lacks_0 : decode cX5_lacks 0 = .ok (.aload_n 0, 1) := by decide +kernel
theorem dX5_lacks_1 : decode cX5_lacks 1 = .ok (.getfield 14, 3) := by decide +kernel
theorem dX5_lacks_4 : decode cX5_lacks 4 = .ok (.iload_n 1, 1) := by decide +kernel
theorem dX5_lacks_5 : decode cX5_lacks 5 = .ok (.iaload, 1) := by decide +kernel
theorem dX5_lacks_6 : decode cX5_lacks 6 = .ok (.ifCond .ge 7, 3) := by decide +kernel
theorem dX5_lacks_9 : decode cX5_lacks 9 = .ok (.iconst 1, 1) := by decide +kernel
theorem dX5_lacks_10 : decode cX5_lacks 10 = .ok (.goto 4, 3) := by decide +kernel
theorem dX5_lacks_13 : decode cX5_lacks 13 = .ok (.iconst 0, 1) := by decide +kernel
theorem dX5_lacks_14 : decode cX5_lacks 14 = .ok (.ireturn, 1) := by decide +kernel
theorem dX5_holds_0 : decode cX5_holds 0 = .ok (.iload_n 2, 1) := by decide +kernel
theorem dX5_holds_1 : decode cX5_holds 1 = .ok (.ifCond .lt 17, 3) := by decide +kernel
theorem dX5_holds_4 : decode cX5_holds 4 = .ok (.iload_n 2, 1) := by decide +kernel
theorem dX5_holds_5 : decode cX5_holds 5 = .ok (.aload_n 0, 1) := by decide +kernel
theorem dX5_holds_6 : decode cX5_holds 6 = .ok (.getfield 14, 3) := by decide +kernel
theorem dX5_holds_9 : decode cX5_holds 9 = .ok (.iload_n 1, 1) := by decide +kernel
theorem dX5_holds_10 : decode cX5_holds 10 = .ok (.iaload, 1) := by decide +kernel
theorem dX5_holds_11 : decode cX5_holds 11 = .ok (.if_icmp .ge 7, 3) := by decide +kernel
theorem dX5_holds_14 : decode cX5_holds 14 = .ok (.iconst 1, 1) := by decide +kernel
theorem dX5_holds_15 : decode cX5_holds 15 = .ok (.goto 4, 3) := by decide +kernel
theorem dX5_holds_18 : decode cX5_holds 18 = .ok (.iconst 0, 1) := by decide +kernel
theorem dX5_holds_19 : decode cX5_holds 19 = .ok (.ireturn, 1) := by decide +kernel
theorem dX5_make_0 : decode cX5_make 0 = .ok (.aload_n 0, 1) := by decide +kernel
theorem dX5_make_1 : decode cX5_make 1 = .ok (.getfield 14, 3) := by decide +kernel
theorem dX5_make_4 : decode cX5_make 4 = .ok (.iload_n 1, 1) := by decide +kernel
theorem dX5_make_5 : decode cX5_make 5 = .ok (.iload_n 2, 1) := by decide +kernel
theorem dX5_make_6 : decode cX5_make 6 = .ok (.iastore, 1) := by decide +kernel
theorem dX5_make_7 : decode cX5_make 7 = .ok (.iconst 0, 1) := by decide +kernel
theorem dX5_make_8 : decode cX5_make 8 = .ok (.istore 4, 2) := by decide +kernel
theorem dX5_make_10 : decode cX5_make 10 = .ok (.iload 4, 2) := by decide +kernel
theorem dX5_make_12 : decode cX5_make 12 = .ok (.iload_n 2, 1) := by decide +kernel
theorem dX5_make_13 : decode cX5_make 13 = .ok (.if_icmp .ge 19, 3) := by decide +kernel
theorem dX5_make_16 : decode cX5_make 16 = .ok (.aload_n 0, 1) := by decide +kernel
theorem dX5_make_17 : decode cX5_make 17 = .ok (.getfield 9, 3) := by decide +kernel
theorem dX5_make_20 : decode cX5_make 20 = .ok (.iload_n 1, 1) := by decide +kernel
theorem dX5_make_21 : decode cX5_make 21 = .ok (.aaload, 1) := by decide +kernel
theorem dX5_make_22 : decode cX5_make 22 = .ok (.iload 4, 2) := by decide +kernel
theorem dX5_make_24 : decode cX5_make 24 = .ok (.iload_n 3, 1) := by decide +kernel
theorem dX5_make_25 : decode cX5_make 25 = .ok (.iastore, 1) := by decide +kernel
theorem dX5_make_26 : decode cX5_make 26 = .ok (.iinc 4 1, 3) := by decide +kernel
theorem dX5_make_29 : decode cX5_make 29 = .ok (.goto (-19), 3) := by decide +kernel
theorem dX5_make_32 : decode cX5_make 32 = .ok (.return_, 1) := by decide +kernel
theorem dX5_exchange_0 : decode cX5_exchange 0 = .ok (.aload_n 0, 1) := by decide +kernel
theorem dX5_exchange_1 : decode cX5_exchange 1 = .ok (.getfield 9, 3) := by decide +kernel
theorem dX5_exchange_4 : decode cX5_exchange 4 = .ok (.iload_n 1, 1) := by decide +kernel
theorem dX5_exchange_5 : decode cX5_exchange 5 = .ok (.aaload, 1) := by decide +kernel
theorem dX5_exchange_6 : decode cX5_exchange 6 = .ok (.iload_n 2, 1) := by decide +kernel
theorem dX5_exchange_7 : decode cX5_exchange 7 = .ok (.iaload, 1) := by decide +kernel
theorem dX5_exchange_8 : decode cX5_exchange 8 = .ok (.istore 4, 2) := by decide +kernel
theorem dX5_exchange_10 : decode cX5_exchange 10 = .ok (.aload_n 0, 1) := by decide +kernel
theorem dX5_exchange_11 : decode cX5_exchange 11 = .ok (.getfield 9, 3) := by decide +kernel
theorem dX5_exchange_14 : decode cX5_exchange 14 = .ok (.iload_n 1, 1) := by decide +kernel
theorem dX5_exchange_15 : decode cX5_exchange 15 = .ok (.aaload, 1) := by decide +kernel
theorem dX5_exchange_16 : decode cX5_exchange 16 = .ok (.iload_n 2, 1) := by decide +kernel
theorem dX5_exchange_17 : decode cX5_exchange 17 = .ok (.iload_n 3, 1) := by decide +kernel
theorem dX5_exchange_18 : decode cX5_exchange 18 = .ok (.iastore, 1) := by decide +kernel
theorem dX5_exchange_19 : decode cX5_exchange 19 = .ok (.iload 4, 2) := by decide +kernel
theorem dX5_exchange_21 : decode cX5_exchange 21 = .ok (.ireturn, 1) := by decide +kernel
theorem dJ6_bitCount_0f7a4_0 : decode cJ6_bitCount_0f7a4 0 = .ok (.iload_n 0, 1) := by decide +kernel
theorem dJ6_bitCount_0f7a4_1 : decode cJ6_bitCount_0f7a4 1 = .ok (.iload_n 0, 1) := by decide +kernel
theorem dJ6_bitCount_0f7a4_2 : decode cJ6_bitCount_0f7a4 2 = .ok (.iconst 1, 1) := by decide +kernel
theorem dJ6_bitCount_0f7a4_3 : decode cJ6_bitCount_0f7a4 3 = .ok (.iushr, 1) := by decide +kernel
theorem dJ6_bitCount_0f7a4_4 : decode cJ6_bitCount_0f7a4 4 = .ok (.ldc_w 265, 3) := by decide +kernel
theorem dJ6_bitCount_0f7a4_7 : decode cJ6_bitCount_0f7a4 7 = .ok (.iand, 1) := by decide +kernel
theorem dJ6_bitCount_0f7a4_8 : decode cJ6_bitCount_0f7a4 8 = .ok (.isub, 1) := by decide +kernel
theorem dJ6_bitCount_0f7a4_9 : decode cJ6_bitCount_0f7a4 9 = .ok (.istore_n 0, 1) := by decide +kernel
theorem dJ6_bitCount_0f7a4_10 : decode cJ6_bitCount_0f7a4 10 = .ok (.iload_n 0, 1) := by decide +kernel
theorem dJ6_bitCount_0f7a4_11 : decode cJ6_bitCount_0f7a4 11 = .ok (.ldc_w 266, 3) := by decide +kernel
theorem dJ6_bitCount_0f7a4_14 : decode cJ6_bitCount_0f7a4 14 = .ok (.iand, 1) := by decide +kernel
theorem dJ6_bitCount_0f7a4_15 : decode cJ6_bitCount_0f7a4 15 = .ok (.iload_n 0, 1) := by decide +kernel
theorem dJ6_bitCount_0f7a4_16 : decode cJ6_bitCount_0f7a4 16 = .ok (.iconst 2, 1) := by decide +kernel
theorem dJ6_bitCount_0f7a4_17 : decode cJ6_bitCount_0f7a4 17 = .ok (.iushr, 1) := by decide +kernel
theorem dJ6_bitCount_0f7a4_18 : decode cJ6_bitCount_0f7a4 18 = .ok (.ldc_w 266, 3) := by decide +kernel
theorem dJ6_bitCount_0f7a4_21 : decode cJ6_bitCount_0f7a4 21 = .ok (.iand, 1) := by decide +kernel
theorem dJ6_bitCount_0f7a4_22 : decode cJ6_bitCount_0f7a4 22 = .ok (.iadd, 1) := by decide +kernel
theorem dJ6_bitCount_0f7a4_23 : decode cJ6_bitCount_0f7a4 23 = .ok (.istore_n 0, 1) := by decide +kernel
theorem dJ6_bitCount_0f7a4_24 : decode cJ6_bitCount_0f7a4 24 = .ok (.iload_n 0, 1) := by decide +kernel
theorem dJ6_bitCount_0f7a4_25 : decode cJ6_bitCount_0f7a4 25 = .ok (.iload_n 0, 1) := by decide +kernel
theorem dJ6_bitCount_0f7a4_26 : decode cJ6_bitCount_0f7a4 26 = .ok (.iconst 4, 1) := by decide +kernel
theorem dJ6_bitCount_0f7a4_27 : decode cJ6_bitCount_0f7a4 27 = .ok (.iushr, 1) := by decide +kernel
theorem dJ6_bitCount_0f7a4_28 : decode cJ6_bitCount_0f7a4 28 = .ok (.iadd, 1) := by decide +kernel
theorem dJ6_bitCount_0f7a4_29 : decode cJ6_bitCount_0f7a4 29 = .ok (.ldc_w 267, 3) := by decide +kernel
theorem dJ6_bitCount_0f7a4_32 : decode cJ6_bitCount_0f7a4 32 = .ok (.iand, 1) := by decide +kernel
theorem dJ6_bitCount_0f7a4_33 : decode cJ6_bitCount_0f7a4 33 = .ok (.istore_n 0, 1) := by decide +kernel
theorem dJ6_bitCount_0f7a4_34 : decode cJ6_bitCount_0f7a4 34 = .ok (.iload_n 0, 1) := by decide +kernel
theorem dJ6_bitCount_0f7a4_35 : decode cJ6_bitCount_0f7a4 35 = .ok (.iload_n 0, 1) := by decide +kernel
theorem dJ6_bitCount_0f7a4_36 : decode cJ6_bitCount_0f7a4 36 = .ok (.bipush 8, 2) := by decide +kernel
theorem dJ6_bitCount_0f7a4_38 : decode cJ6_bitCount_0f7a4 38 = .ok (.iushr, 1) := by decide +kernel
theorem dJ6_bitCount_0f7a4_39 : decode cJ6_bitCount_0f7a4 39 = .ok (.iadd, 1) := by decide +kernel
theorem dJ6_bitCount_0f7a4_40 : decode cJ6_bitCount_0f7a4 40 = .ok (.istore_n 0, 1) := by decide +kernel
theorem dJ6_bitCount_0f7a4_41 : decode cJ6_bitCount_0f7a4 41 = .ok (.iload_n 0, 1) := by decide +kernel
theorem dJ6_bitCount_0f7a4_42 : decode cJ6_bitCount_0f7a4 42 = .ok (.iload_n 0, 1) := by decide +kernel
theorem dJ6_bitCount_0f7a4_43 : decode cJ6_bitCount_0f7a4 43 = .ok (.bipush 16, 2) := by decide +kernel
theorem dJ6_bitCount_0f7a4_45 : decode cJ6_bitCount_0f7a4 45 = .ok (.iushr, 1) := by decide +kernel
theorem dJ6_bitCount_0f7a4_46 : decode cJ6_bitCount_0f7a4 46 = .ok (.iadd, 1) := by decide +kernel
theorem dJ6_bitCount_0f7a4_47 : decode cJ6_bitCount_0f7a4 47 = .ok (.istore_n 0, 1) := by decide +kernel
theorem dJ6_bitCount_0f7a4_48 : decode cJ6_bitCount_0f7a4 48 = .ok (.iload_n 0, 1) := by decide +kernel
theorem dJ6_bitCount_0f7a4_49 : decode cJ6_bitCount_0f7a4 49 = .ok (.bipush 63, 2) := by decide +kernel
theorem dJ6_bitCount_0f7a4_51 : decode cJ6_bitCount_0f7a4 51 = .ok (.iand, 1) := by decide +kernel
theorem dJ6_bitCount_0f7a4_52 : decode cJ6_bitCount_0f7a4 52 = .ok (.ireturn, 1) := by decide +kernel
theorem dJ9_max_7cf53_0 : decode cJ9_max_7cf53 0 = .ok (.iload_n 0, 1) := by decide +kernel
theorem dJ9_max_7cf53_1 : decode cJ9_max_7cf53 1 = .ok (.iload_n 1, 1) := by decide +kernel
theorem dJ9_max_7cf53_2 : decode cJ9_max_7cf53 2 = .ok (.if_icmp .lt 7, 3) := by decide +kernel
theorem dJ9_max_7cf53_5 : decode cJ9_max_7cf53 5 = .ok (.iload_n 0, 1) := by decide +kernel
theorem dJ9_max_7cf53_6 : decode cJ9_max_7cf53 6 = .ok (.goto 4, 3) := by decide +kernel
theorem dJ9_max_7cf53_9 : decode cJ9_max_7cf53 9 = .ok (.iload_n 1, 1) := by decide +kernel
theorem dJ9_max_7cf53_10 : decode cJ9_max_7cf53 10 = .ok (.ireturn, 1) := by decide +kernel
theorem dJ9_max_f86c9_0 : decode cJ9_max_f86c9 0 = .ok (.lload_n 0, 1) := by decide +kernel
theorem dJ9_max_f86c9_1 : decode cJ9_max_f86c9 1 = .ok (.lload_n 2, 1) := by decide +kernel
theorem dJ9_max_f86c9_2 : decode cJ9_max_f86c9 2 = .ok (.lcmp, 1) := by decide +kernel
theorem dJ9_max_f86c9_3 : decode cJ9_max_f86c9 3 = .ok (.ifCond .lt 7, 3) := by decide +kernel
theorem dJ9_max_f86c9_6 : decode cJ9_max_f86c9 6 = .ok (.lload_n 0, 1) := by decide +kernel
theorem dJ9_max_f86c9_7 : decode cJ9_max_f86c9 7 = .ok (.goto 4, 3) := by decide +kernel
theorem dJ9_max_f86c9_10 : decode cJ9_max_f86c9 10 = .ok (.lload_n 2, 1) := by decide +kernel
theorem dJ9_max_f86c9_11 : decode cJ9_max_f86c9 11 = .ok (.lreturn, 1) := by decide +kernel
theorem dJ9_min_7cf53_0 : decode cJ9_min_7cf53 0 = .ok (.iload_n 0, 1) := by decide +kernel
theorem dJ9_min_7cf53_1 : decode cJ9_min_7cf53 1 = .ok (.iload_n 1, 1) := by decide +kernel
theorem dJ9_min_7cf53_2 : decode cJ9_min_7cf53 2 = .ok (.if_icmp .gt 7, 3) := by decide +kernel
theorem dJ9_min_7cf53_5 : decode cJ9_min_7cf53 5 = .ok (.iload_n 0, 1) := by decide +kernel
theorem dJ9_min_7cf53_6 : decode cJ9_min_7cf53 6 = .ok (.goto 4, 3) := by decide +kernel
theorem dJ9_min_7cf53_9 : decode cJ9_min_7cf53 9 = .ok (.iload_n 1, 1) := by decide +kernel
theorem dJ9_min_7cf53_10 : decode cJ9_min_7cf53 10 = .ok (.ireturn, 1) := by decide +kernel
theorem dJ9_min_f86c9_0 : decode cJ9_min_f86c9 0 = .ok (.lload_n 0, 1) := by decide +kernel
theorem dJ9_min_f86c9_1 : decode cJ9_min_f86c9 1 = .ok (.lload_n 2, 1) := by decide +kernel
theorem dJ9_min_f86c9_2 : decode cJ9_min_f86c9 2 = .ok (.lcmp, 1) := by decide +kernel
theorem dJ9_min_f86c9_3 : decode cJ9_min_f86c9 3 = .ok (.ifCond .gt 7, 3) := by decide +kernel
theorem dJ9_min_f86c9_6 : decode cJ9_min_f86c9 6 = .ok (.lload_n 0, 1) := by decide +kernel
theorem dJ9_min_f86c9_7 : decode cJ9_min_f86c9 7 = .ok (.goto 4, 3) := by decide +kernel
theorem dJ9_min_f86c9_10 : decode cJ9_min_f86c9 10 = .ok (.lload_n 2, 1) := by decide +kernel
theorem dJ9_min_f86c9_11 : decode cJ9_min_f86c9 11 = .ok (.lreturn, 1) := by decide +kernel
