/-! decode rows (written by gen/names.py) -/
theorem qd_E_init_0 : decode qc_E_init 0 = .ok (.aload_n 0, 1) := by decide +kernel
theorem qd_E_init_1 : decode qc_E_init 1 = .ok (.invokespecial 3, 3) := by decide +kernel
theorem qd_E_init_4 : decode qc_E_init 4 = .ok (.return_, 1) := by decide +kernel
theorem qd_E_forget_0 : decode qc_E_forget 0 = .ok (.aload_n 0, 1) := by decide +kernel
theorem qd_E_forget_1 : decode qc_E_forget 1 = .ok (.iconst 0, 1) := by decide +kernel
theorem qd_E_forget_2 : decode qc_E_forget 2 = .ok (.putfield 9, 3) := by decide +kernel
theorem qd_E_forget_5 : decode qc_E_forget 5 = .ok (.aload_n 0, 1) := by decide +kernel
theorem qd_E_forget_6 : decode qc_E_forget 6 = .ok (.iconst 0, 1) := by decide +kernel
theorem qd_E_forget_7 : decode qc_E_forget 7 = .ok (.putfield 15, 3) := by decide +kernel
theorem qd_E_forget_10 : decode qc_E_forget 10 = .ok (.aload_n 0, 1) := by decide +kernel
theorem qd_E_forget_11 : decode qc_E_forget 11 = .ok (.iconst 0, 1) := by decide +kernel
theorem qd_E_forget_12 : decode qc_E_forget 12 = .ok (.putfield 18, 3) := by decide +kernel
theorem qd_E_forget_15 : decode qc_E_forget 15 = .ok (.aload_n 0, 1) := by decide +kernel
theorem qd_E_forget_16 : decode qc_E_forget 16 = .ok (.iconst 0, 1) := by decide +kernel
theorem qd_E_forget_17 : decode qc_E_forget 17 = .ok (.putfield 21, 3) := by decide +kernel
theorem qd_E_forget_20 : decode qc_E_forget 20 = .ok (.aload_n 0, 1) := by decide +kernel
theorem qd_E_forget_21 : decode qc_E_forget 21 = .ok (.iconst 0, 1) := by decide +kernel
theorem qd_E_forget_22 : decode qc_E_forget 22 = .ok (.putfield 24, 3) := by decide +kernel
theorem qd_E_forget_25 : decode qc_E_forget 25 = .ok (.return_, 1) := by decide +kernel
theorem qd_E_become_0 : decode qc_E_become 0 = .ok (.aload_n 0, 1) := by decide +kernel
theorem qd_E_become_1 : decode qc_E_become 1 = .ok (.iload_n 1, 1) := by decide +kernel
theorem qd_E_become_2 : decode qc_E_become 2 = .ok (.putfield 9, 3) := by decide +kernel
theorem qd_E_become_5 : decode qc_E_become 5 = .ok (.aload_n 0, 1) := by decide +kernel
theorem qd_E_become_6 : decode qc_E_become 6 = .ok (.iload_n 2, 1) := by decide +kernel
theorem qd_E_become_7 : decode qc_E_become 7 = .ok (.putfield 15, 3) := by decide +kernel
theorem qd_E_become_10 : decode qc_E_become 10 = .ok (.aload_n 0, 1) := by decide +kernel
theorem qd_E_become_11 : decode qc_E_become 11 = .ok (.iload_n 3, 1) := by decide +kernel
theorem qd_E_become_12 : decode qc_E_become 12 = .ok (.putfield 18, 3) := by decide +kernel
theorem qd_E_become_15 : decode qc_E_become 15 = .ok (.aload_n 0, 1) := by decide +kernel
theorem qd_E_become_16 : decode qc_E_become 16 = .ok (.iconst 0, 1) := by decide +kernel
theorem qd_E_become_17 : decode qc_E_become 17 = .ok (.putfield 21, 3) := by decide +kernel
theorem qd_E_become_20 : decode qc_E_become 20 = .ok (.aload_n 0, 1) := by decide +kernel
theorem qd_E_become_21 : decode qc_E_become 21 = .ok (.invokevirtual 27, 3) := by decide +kernel
theorem qd_E_become_24 : decode qc_E_become 24 = .ok (.return_, 1) := by decide +kernel
theorem qd_E_announce_0 : decode qc_E_announce 0 = .ok (.aload_n 0, 1) := by decide +kernel
theorem qd_E_announce_1 : decode qc_E_announce 1 = .ok (.iconst 4, 1) := by decide +kernel
theorem qd_E_announce_2 : decode qc_E_announce 2 = .ok (.putfield 24, 3) := by decide +kernel
theorem qd_E_announce_5 : decode qc_E_announce 5 = .ok (.return_, 1) := by decide +kernel
theorem qd_E_isBelow_0 : decode qc_E_isBelow 0 = .ok (.aload_n 0, 1) := by decide +kernel
theorem qd_E_isBelow_1 : decode qc_E_isBelow 1 = .ok (.getfield 9, 3) := by decide +kernel
theorem qd_E_isBelow_4 : decode qc_E_isBelow 4 = .ok (.ifCond .eq 11, 3) := by decide +kernel
theorem qd_E_isBelow_7 : decode qc_E_isBelow 7 = .ok (.iload_n 2, 1) := by decide +kernel
theorem qd_E_isBelow_8 : decode qc_E_isBelow 8 = .ok (.aload_n 0, 1) := by decide +kernel
theorem qd_E_isBelow_9 : decode qc_E_isBelow 9 = .ok (.getfield 15, 3) := by decide +kernel
theorem qd_E_isBelow_12 : decode qc_E_isBelow 12 = .ok (.if_icmp .le 5, 3) := by decide +kernel
theorem qd_E_isBelow_15 : decode qc_E_isBelow 15 = .ok (.iconst 1, 1) := by decide +kernel
theorem qd_E_isBelow_16 : decode qc_E_isBelow 16 = .ok (.ireturn, 1) := by decide +kernel
theorem qd_E_isBelow_17 : decode qc_E_isBelow 17 = .ok (.iload_n 2, 1) := by decide +kernel
theorem qd_E_isBelow_18 : decode qc_E_isBelow 18 = .ok (.aload_n 0, 1) := by decide +kernel
theorem qd_E_isBelow_19 : decode qc_E_isBelow 19 = .ok (.getfield 15, 3) := by decide +kernel
theorem qd_E_isBelow_22 : decode qc_E_isBelow 22 = .ok (.if_icmp .ne 15, 3) := by decide +kernel
theorem qd_E_isBelow_25 : decode qc_E_isBelow 25 = .ok (.iload_n 1, 1) := by decide +kernel
theorem qd_E_isBelow_26 : decode qc_E_isBelow 26 = .ok (.aload_n 0, 1) := by decide +kernel
theorem qd_E_isBelow_27 : decode qc_E_isBelow 27 = .ok (.getfield 9, 3) := by decide +kernel
theorem qd_E_isBelow_30 : decode qc_E_isBelow 30 = .ok (.if_icmp .le 7, 3) := by decide +kernel
theorem qd_E_isBelow_33 : decode qc_E_isBelow 33 = .ok (.iconst 1, 1) := by decide +kernel
theorem qd_E_isBelow_34 : decode qc_E_isBelow 34 = .ok (.goto 4, 3) := by decide +kernel
theorem qd_E_isBelow_37 : decode qc_E_isBelow 37 = .ok (.iconst 0, 1) := by decide +kernel
theorem qd_E_isBelow_38 : decode qc_E_isBelow 38 = .ok (.ireturn, 1) := by decide +kernel
theorem qd_E_becomeSuspect_0 : decode qc_E_becomeSuspect 0 = .ok (.aload_n 0, 1) := by decide +kernel
theorem qd_E_becomeSuspect_1 : decode qc_E_becomeSuspect 1 = .ok (.iconst 2, 1) := by decide +kernel
theorem qd_E_becomeSuspect_2 : decode qc_E_becomeSuspect 2 = .ok (.iload_n 1, 1) := by decide +kernel
theorem qd_E_becomeSuspect_3 : decode qc_E_becomeSuspect 3 = .ok (.iload_n 2, 1) := by decide +kernel
theorem qd_E_becomeSuspect_4 : decode qc_E_becomeSuspect 4 = .ok (.invokevirtual 30, 3) := by decide +kernel
theorem qd_E_becomeSuspect_7 : decode qc_E_becomeSuspect 7 = .ok (.aload_n 0, 1) := by decide +kernel
theorem qd_E_becomeSuspect_8 : decode qc_E_becomeSuspect 8 = .ok (.iconst 1, 1) := by decide +kernel
theorem qd_E_becomeSuspect_9 : decode qc_E_becomeSuspect 9 = .ok (.iload_n 3, 1) := by decide +kernel
theorem qd_E_becomeSuspect_10 : decode qc_E_becomeSuspect 10 = .ok (.ishl, 1) := by decide +kernel
theorem qd_E_becomeSuspect_11 : decode qc_E_becomeSuspect 11 = .ok (.putfield 21, 3) := by decide +kernel
theorem qd_E_becomeSuspect_14 : decode qc_E_becomeSuspect 14 = .ok (.return_, 1) := by decide +kernel
theorem qd_E_isSameSuspicion_0 : decode qc_E_isSameSuspicion 0 = .ok (.aload_n 0, 1) := by decide +kernel
theorem qd_E_isSameSuspicion_1 : decode qc_E_isSameSuspicion 1 = .ok (.getfield 9, 3) := by decide +kernel
theorem qd_E_isSameSuspicion_4 : decode qc_E_isSameSuspicion 4 = .ok (.iconst 2, 1) := by decide +kernel
theorem qd_E_isSameSuspicion_5 : decode qc_E_isSameSuspicion 5 = .ok (.if_icmp .ne 20, 3) := by decide +kernel
theorem qd_E_isSameSuspicion_8 : decode qc_E_isSameSuspicion 8 = .ok (.iload_n 1, 1) := by decide +kernel
theorem qd_E_isSameSuspicion_9 : decode qc_E_isSameSuspicion 9 = .ok (.iconst 2, 1) := by decide +kernel
theorem qd_E_isSameSuspicion_10 : decode qc_E_isSameSuspicion 10 = .ok (.if_icmp .ne 15, 3) := by decide +kernel
theorem qd_E_isSameSuspicion_13 : decode qc_E_isSameSuspicion 13 = .ok (.iload_n 2, 1) := by decide +kernel
theorem qd_E_isSameSuspicion_14 : decode qc_E_isSameSuspicion 14 = .ok (.aload_n 0, 1) := by decide +kernel
theorem qd_E_isSameSuspicion_15 : decode qc_E_isSameSuspicion 15 = .ok (.getfield 15, 3) := by decide +kernel
theorem qd_E_isSameSuspicion_18 : decode qc_E_isSameSuspicion 18 = .ok (.if_icmp .ne 7, 3) := by decide +kernel
theorem qd_E_isSameSuspicion_21 : decode qc_E_isSameSuspicion 21 = .ok (.iconst 1, 1) := by decide +kernel
theorem qd_E_isSameSuspicion_22 : decode qc_E_isSameSuspicion 22 = .ok (.goto 4, 3) := by decide +kernel
theorem qd_E_isSameSuspicion_25 : decode qc_E_isSameSuspicion 25 = .ok (.iconst 0, 1) := by decide +kernel
theorem qd_E_isSameSuspicion_26 : decode qc_E_isSameSuspicion 26 = .ok (.ireturn, 1) := by decide +kernel
theorem qd_E_tell_0 : decode qc_E_tell 0 = .ok (.iload_n 1, 1) := by decide +kernel
theorem qd_E_tell_1 : decode qc_E_tell 1 = .ok (.tableswitch 54 0 3 #[31, 36, 41, 46], 31) := by decide +kernel
theorem qd_E_tell_32 : decode qc_E_tell 32 = .ok (.aload_n 0, 1) := by decide +kernel
theorem qd_E_tell_33 : decode qc_E_tell 33 = .ok (.getfield 9, 3) := by decide +kernel
theorem qd_E_tell_36 : decode qc_E_tell 36 = .ok (.ireturn, 1) := by decide +kernel
theorem qd_E_tell_37 : decode qc_E_tell 37 = .ok (.aload_n 0, 1) := by decide +kernel
theorem qd_E_tell_38 : decode qc_E_tell 38 = .ok (.getfield 15, 3) := by decide +kernel
theorem qd_E_tell_41 : decode qc_E_tell 41 = .ok (.ireturn, 1) := by decide +kernel
theorem qd_E_tell_42 : decode qc_E_tell 42 = .ok (.aload_n 0, 1) := by decide +kernel
theorem qd_E_tell_43 : decode qc_E_tell 43 = .ok (.getfield 18, 3) := by decide +kernel
theorem qd_E_tell_46 : decode qc_E_tell 46 = .ok (.ireturn, 1) := by decide +kernel
theorem qd_E_tell_47 : decode qc_E_tell 47 = .ok (.aload_n 0, 1) := by decide +kernel
theorem qd_E_tell_48 : decode qc_E_tell 48 = .ok (.getfield 21, 3) := by decide +kernel
theorem qd_E_tell_51 : decode qc_E_tell 51 = .ok (.invokestatic 34, 3) := by decide +kernel
theorem qd_E_tell_54 : decode qc_E_tell 54 = .ok (.ireturn, 1) := by decide +kernel
theorem qd_E_tell_55 : decode qc_E_tell 55 = .ok (.iconst 0, 1) := by decide +kernel
theorem qd_E_tell_56 : decode qc_E_tell 56 = .ok (.ireturn, 1) := by decide +kernel
theorem qd_F_init_0 : decode qc_F_init 0 = .ok (.aload_n 0, 1) := by decide +kernel
theorem qd_F_init_1 : decode qc_F_init 1 = .ok (.invokespecial 1, 3) := by decide +kernel
theorem qd_F_init_4 : decode qc_F_init 4 = .ok (.aload_n 0, 1) := by decide +kernel
theorem qd_F_init_5 : decode qc_F_init 5 = .ok (.bipush 60, 2) := by decide +kernel
theorem qd_F_init_7 : decode qc_F_init 7 = .ok (.anewarray 9, 3) := by decide +kernel
theorem qd_F_init_10 : decode qc_F_init 10 = .ok (.putfield 11, 3) := by decide +kernel
theorem qd_F_init_13 : decode qc_F_init 13 = .ok (.aload_n 0, 1) := by decide +kernel
theorem qd_F_init_14 : decode qc_F_init 14 = .ok (.bipush 60, 2) := by decide +kernel
theorem qd_F_init_16 : decode qc_F_init 16 = .ok (.anewarray 9, 3) := by decide +kernel
theorem qd_F_init_19 : decode qc_F_init 19 = .ok (.putfield 15, 3) := by decide +kernel
theorem qd_F_init_22 : decode qc_F_init 22 = .ok (.aload_n 0, 1) := by decide +kernel
theorem qd_F_init_23 : decode qc_F_init 23 = .ok (.new 9, 3) := by decide +kernel
theorem qd_F_init_26 : decode qc_F_init 26 = .ok (.dup, 1) := by decide +kernel
theorem qd_F_init_27 : decode qc_F_init 27 = .ok (.invokespecial 18, 3) := by decide +kernel
theorem qd_F_init_30 : decode qc_F_init 30 = .ok (.putfield 19, 3) := by decide +kernel
theorem qd_F_init_33 : decode qc_F_init 33 = .ok (.iconst 0, 1) := by decide +kernel
theorem qd_F_init_34 : decode qc_F_init 34 = .ok (.istore_n 1, 1) := by decide +kernel
theorem qd_F_init_35 : decode qc_F_init 35 = .ok (.iload_n 1, 1) := by decide +kernel
theorem qd_F_init_36 : decode qc_F_init 36 = .ok (.bipush 60, 2) := by decide +kernel
theorem qd_F_init_38 : decode qc_F_init 38 = .ok (.if_icmp .ge 35, 3) := by decide +kernel
theorem qd_F_init_41 : decode qc_F_init 41 = .ok (.aload_n 0, 1) := by decide +kernel
theorem qd_F_init_42 : decode qc_F_init 42 = .ok (.getfield 11, 3) := by decide +kernel
theorem qd_F_init_45 : decode qc_F_init 45 = .ok (.iload_n 1, 1) := by decide +kernel
theorem qd_F_init_46 : decode qc_F_init 46 = .ok (.new 9, 3) := by decide +kernel
theorem qd_F_init_49 : decode qc_F_init 49 = .ok (.dup, 1) := by decide +kernel
theorem qd_F_init_50 : decode qc_F_init 50 = .ok (.invokespecial 18, 3) := by decide +kernel
theorem qd_F_init_53 : decode qc_F_init 53 = .ok (.aastore, 1) := by decide +kernel
theorem qd_F_init_54 : decode qc_F_init 54 = .ok (.aload_n 0, 1) := by decide +kernel
theorem qd_F_init_55 : decode qc_F_init 55 = .ok (.getfield 15, 3) := by decide +kernel
theorem qd_F_init_58 : decode qc_F_init 58 = .ok (.iload_n 1, 1) := by decide +kernel
theorem qd_F_init_59 : decode qc_F_init 59 = .ok (.new 9, 3) := by decide +kernel
theorem qd_F_init_62 : decode qc_F_init 62 = .ok (.dup, 1) := by decide +kernel
theorem qd_F_init_63 : decode qc_F_init 63 = .ok (.invokespecial 18, 3) := by decide +kernel
theorem qd_F_init_66 : decode qc_F_init 66 = .ok (.aastore, 1) := by decide +kernel
theorem qd_F_init_67 : decode qc_F_init 67 = .ok (.iinc 1 1, 3) := by decide +kernel
theorem qd_F_init_70 : decode qc_F_init 70 = .ok (.goto (-35), 3) := by decide +kernel
theorem qd_F_init_73 : decode qc_F_init 73 = .ok (.aload_n 0, 1) := by decide +kernel
theorem qd_F_init_74 : decode qc_F_init 74 = .ok (.iconst 0, 1) := by decide +kernel
theorem qd_F_init_75 : decode qc_F_init 75 = .ok (.putfield 23, 3) := by decide +kernel
theorem qd_F_init_78 : decode qc_F_init 78 = .ok (.return_, 1) := by decide +kernel
theorem qd_F_next_0 : decode qc_F_next 0 = .ok (.aload_n 0, 1) := by decide +kernel
theorem qd_F_next_1 : decode qc_F_next 1 = .ok (.getfield 23, 3) := by decide +kernel
theorem qd_F_next_4 : decode qc_F_next 4 = .ok (.bipush 60, 2) := by decide +kernel
theorem qd_F_next_6 : decode qc_F_next 6 = .ok (.if_icmp .lt 8, 3) := by decide +kernel
theorem qd_F_next_9 : decode qc_F_next 9 = .ok (.aload_n 0, 1) := by decide +kernel
theorem qd_F_next_10 : decode qc_F_next 10 = .ok (.getfield 19, 3) := by decide +kernel
theorem qd_F_next_13 : decode qc_F_next 13 = .ok (.areturn, 1) := by decide +kernel
theorem qd_F_next_14 : decode qc_F_next 14 = .ok (.aload_n 0, 1) := by decide +kernel
theorem qd_F_next_15 : decode qc_F_next 15 = .ok (.dup, 1) := by decide +kernel
theorem qd_F_next_16 : decode qc_F_next 16 = .ok (.getfield 23, 3) := by decide +kernel
theorem qd_F_next_19 : decode qc_F_next 19 = .ok (.iconst 1, 1) := by decide +kernel
theorem qd_F_next_20 : decode qc_F_next 20 = .ok (.iadd, 1) := by decide +kernel
theorem qd_F_next_21 : decode qc_F_next 21 = .ok (.putfield 23, 3) := by decide +kernel
theorem qd_F_next_24 : decode qc_F_next 24 = .ok (.aload_n 0, 1) := by decide +kernel
theorem qd_F_next_25 : decode qc_F_next 25 = .ok (.getfield 11, 3) := by decide +kernel
theorem qd_F_next_28 : decode qc_F_next 28 = .ok (.aload_n 0, 1) := by decide +kernel
theorem qd_F_next_29 : decode qc_F_next 29 = .ok (.getfield 23, 3) := by decide +kernel
theorem qd_F_next_32 : decode qc_F_next 32 = .ok (.iconst 1, 1) := by decide +kernel
theorem qd_F_next_33 : decode qc_F_next 33 = .ok (.isub, 1) := by decide +kernel
theorem qd_F_next_34 : decode qc_F_next 34 = .ok (.aaload, 1) := by decide +kernel
theorem qd_F_next_35 : decode qc_F_next 35 = .ok (.areturn, 1) := by decide +kernel
theorem qd_F_lose_0 : decode qc_F_lose 0 = .ok (.iload_n 1, 1) := by decide +kernel
theorem qd_F_lose_1 : decode qc_F_lose 1 = .ok (.ifCond .lt 11, 3) := by decide +kernel
theorem qd_F_lose_4 : decode qc_F_lose 4 = .ok (.iload_n 1, 1) := by decide +kernel
theorem qd_F_lose_5 : decode qc_F_lose 5 = .ok (.aload_n 0, 1) := by decide +kernel
theorem qd_F_lose_6 : decode qc_F_lose 6 = .ok (.getfield 23, 3) := by decide +kernel
theorem qd_F_lose_9 : decode qc_F_lose 9 = .ok (.if_icmp .lt 5, 3) := by decide +kernel
theorem qd_F_lose_12 : decode qc_F_lose 12 = .ok (.iconst 0, 1) := by decide +kernel
theorem qd_F_lose_13 : decode qc_F_lose 13 = .ok (.ireturn, 1) := by decide +kernel
theorem qd_F_lose_14 : decode qc_F_lose 14 = .ok (.aload_n 0, 1) := by decide +kernel
theorem qd_F_lose_15 : decode qc_F_lose 15 = .ok (.getfield 11, 3) := by decide +kernel
theorem qd_F_lose_18 : decode qc_F_lose 18 = .ok (.iload_n 1, 1) := by decide +kernel
theorem qd_F_lose_19 : decode qc_F_lose 19 = .ok (.aaload, 1) := by decide +kernel
theorem qd_F_lose_20 : decode qc_F_lose 20 = .ok (.astore_n 2, 1) := by decide +kernel
theorem qd_F_lose_21 : decode qc_F_lose 21 = .ok (.iload_n 1, 1) := by decide +kernel
theorem qd_F_lose_22 : decode qc_F_lose 22 = .ok (.istore_n 3, 1) := by decide +kernel
theorem qd_F_lose_23 : decode qc_F_lose 23 = .ok (.iload_n 3, 1) := by decide +kernel
theorem qd_F_lose_24 : decode qc_F_lose 24 = .ok (.aload_n 0, 1) := by decide +kernel
theorem qd_F_lose_25 : decode qc_F_lose 25 = .ok (.getfield 23, 3) := by decide +kernel
theorem qd_F_lose_28 : decode qc_F_lose 28 = .ok (.iconst 1, 1) := by decide +kernel
theorem qd_F_lose_29 : decode qc_F_lose 29 = .ok (.isub, 1) := by decide +kernel
theorem qd_F_lose_30 : decode qc_F_lose 30 = .ok (.if_icmp .ge 23, 3) := by decide +kernel
theorem qd_F_lose_33 : decode qc_F_lose 33 = .ok (.aload_n 0, 1) := by decide +kernel
theorem qd_F_lose_34 : decode qc_F_lose 34 = .ok (.getfield 11, 3) := by decide +kernel
theorem qd_F_lose_37 : decode qc_F_lose 37 = .ok (.iload_n 3, 1) := by decide +kernel
theorem qd_F_lose_38 : decode qc_F_lose 38 = .ok (.aload_n 0, 1) := by decide +kernel
theorem qd_F_lose_39 : decode qc_F_lose 39 = .ok (.getfield 11, 3) := by decide +kernel
theorem qd_F_lose_42 : decode qc_F_lose 42 = .ok (.iload_n 3, 1) := by decide +kernel
theorem qd_F_lose_43 : decode qc_F_lose 43 = .ok (.iconst 1, 1) := by decide +kernel
theorem qd_F_lose_44 : decode qc_F_lose 44 = .ok (.iadd, 1) := by decide +kernel
theorem qd_F_lose_45 : decode qc_F_lose 45 = .ok (.aaload, 1) := by decide +kernel
theorem qd_F_lose_46 : decode qc_F_lose 46 = .ok (.aastore, 1) := by decide +kernel
theorem qd_F_lose_47 : decode qc_F_lose 47 = .ok (.iinc 3 1, 3) := by decide +kernel
theorem qd_F_lose_50 : decode qc_F_lose 50 = .ok (.goto (-27), 3) := by decide +kernel
theorem qd_F_lose_53 : decode qc_F_lose 53 = .ok (.aload_n 0, 1) := by decide +kernel
theorem qd_F_lose_54 : decode qc_F_lose 54 = .ok (.dup, 1) := by decide +kernel
theorem qd_F_lose_55 : decode qc_F_lose 55 = .ok (.getfield 23, 3) := by decide +kernel
theorem qd_F_lose_58 : decode qc_F_lose 58 = .ok (.iconst 1, 1) := by decide +kernel
theorem qd_F_lose_59 : decode qc_F_lose 59 = .ok (.isub, 1) := by decide +kernel
theorem qd_F_lose_60 : decode qc_F_lose 60 = .ok (.putfield 23, 3) := by decide +kernel
theorem qd_F_lose_63 : decode qc_F_lose 63 = .ok (.aload_n 0, 1) := by decide +kernel
theorem qd_F_lose_64 : decode qc_F_lose 64 = .ok (.getfield 11, 3) := by decide +kernel
theorem qd_F_lose_67 : decode qc_F_lose 67 = .ok (.aload_n 0, 1) := by decide +kernel
theorem qd_F_lose_68 : decode qc_F_lose 68 = .ok (.getfield 23, 3) := by decide +kernel
theorem qd_F_lose_71 : decode qc_F_lose 71 = .ok (.aload_n 2, 1) := by decide +kernel
theorem qd_F_lose_72 : decode qc_F_lose 72 = .ok (.aastore, 1) := by decide +kernel
theorem qd_F_lose_73 : decode qc_F_lose 73 = .ok (.iconst 1, 1) := by decide +kernel
theorem qd_F_lose_74 : decode qc_F_lose 74 = .ok (.ireturn, 1) := by decide +kernel
theorem qd_F_overtake_0 : decode qc_F_overtake 0 = .ok (.iload_n 1, 1) := by decide +kernel
theorem qd_F_overtake_1 : decode qc_F_overtake 1 = .ok (.ifCond .lt 13, 3) := by decide +kernel
theorem qd_F_overtake_4 : decode qc_F_overtake 4 = .ok (.iload_n 1, 1) := by decide +kernel
theorem qd_F_overtake_5 : decode qc_F_overtake 5 = .ok (.aload_n 0, 1) := by decide +kernel
theorem qd_F_overtake_6 : decode qc_F_overtake 6 = .ok (.getfield 23, 3) := by decide +kernel
theorem qd_F_overtake_9 : decode qc_F_overtake 9 = .ok (.iconst 1, 1) := by decide +kernel
theorem qd_F_overtake_10 : decode qc_F_overtake 10 = .ok (.isub, 1) := by decide +kernel
theorem qd_F_overtake_11 : decode qc_F_overtake 11 = .ok (.if_icmp .lt 5, 3) := by decide +kernel
theorem qd_F_overtake_14 : decode qc_F_overtake 14 = .ok (.iconst 0, 1) := by decide +kernel
theorem qd_F_overtake_15 : decode qc_F_overtake 15 = .ok (.ireturn, 1) := by decide +kernel
theorem qd_F_overtake_16 : decode qc_F_overtake 16 = .ok (.aload_n 0, 1) := by decide +kernel
theorem qd_F_overtake_17 : decode qc_F_overtake 17 = .ok (.getfield 11, 3) := by decide +kernel
theorem qd_F_overtake_20 : decode qc_F_overtake 20 = .ok (.iload_n 1, 1) := by decide +kernel
theorem qd_F_overtake_21 : decode qc_F_overtake 21 = .ok (.aaload, 1) := by decide +kernel
theorem qd_F_overtake_22 : decode qc_F_overtake 22 = .ok (.astore_n 2, 1) := by decide +kernel
theorem qd_F_overtake_23 : decode qc_F_overtake 23 = .ok (.aload_n 0, 1) := by decide +kernel
theorem qd_F_overtake_24 : decode qc_F_overtake 24 = .ok (.getfield 11, 3) := by decide +kernel
theorem qd_F_overtake_27 : decode qc_F_overtake 27 = .ok (.iload_n 1, 1) := by decide +kernel
theorem qd_F_overtake_28 : decode qc_F_overtake 28 = .ok (.aload_n 0, 1) := by decide +kernel
theorem qd_F_overtake_29 : decode qc_F_overtake 29 = .ok (.getfield 11, 3) := by decide +kernel
theorem qd_F_overtake_32 : decode qc_F_overtake 32 = .ok (.iload_n 1, 1) := by decide +kernel
theorem qd_F_overtake_33 : decode qc_F_overtake 33 = .ok (.iconst 1, 1) := by decide +kernel
theorem qd_F_overtake_34 : decode qc_F_overtake 34 = .ok (.iadd, 1) := by decide +kernel
theorem qd_F_overtake_35 : decode qc_F_overtake 35 = .ok (.aaload, 1) := by decide +kernel
theorem qd_F_overtake_36 : decode qc_F_overtake 36 = .ok (.aastore, 1) := by decide +kernel
theorem qd_F_overtake_37 : decode qc_F_overtake 37 = .ok (.aload_n 0, 1) := by decide +kernel
theorem qd_F_overtake_38 : decode qc_F_overtake 38 = .ok (.getfield 11, 3) := by decide +kernel
theorem qd_F_overtake_41 : decode qc_F_overtake 41 = .ok (.iload_n 1, 1) := by decide +kernel
theorem qd_F_overtake_42 : decode qc_F_overtake 42 = .ok (.iconst 1, 1) := by decide +kernel
theorem qd_F_overtake_43 : decode qc_F_overtake 43 = .ok (.iadd, 1) := by decide +kernel
theorem qd_F_overtake_44 : decode qc_F_overtake 44 = .ok (.aload_n 2, 1) := by decide +kernel
theorem qd_F_overtake_45 : decode qc_F_overtake 45 = .ok (.aastore, 1) := by decide +kernel
theorem qd_F_overtake_46 : decode qc_F_overtake 46 = .ok (.iconst 1, 1) := by decide +kernel
theorem qd_F_overtake_47 : decode qc_F_overtake 47 = .ok (.ireturn, 1) := by decide +kernel
theorem qd_F_land_0 : decode qc_F_land 0 = .ok (.aload_n 0, 1) := by decide +kernel
theorem qd_F_land_1 : decode qc_F_land 1 = .ok (.getfield 15, 3) := by decide +kernel
theorem qd_F_land_4 : decode qc_F_land 4 = .ok (.astore_n 1, 1) := by decide +kernel
theorem qd_F_land_5 : decode qc_F_land 5 = .ok (.aload_n 0, 1) := by decide +kernel
theorem qd_F_land_6 : decode qc_F_land 6 = .ok (.aload_n 0, 1) := by decide +kernel
theorem qd_F_land_7 : decode qc_F_land 7 = .ok (.getfield 11, 3) := by decide +kernel
theorem qd_F_land_10 : decode qc_F_land 10 = .ok (.putfield 15, 3) := by decide +kernel
theorem qd_F_land_13 : decode qc_F_land 13 = .ok (.aload_n 0, 1) := by decide +kernel
theorem qd_F_land_14 : decode qc_F_land 14 = .ok (.aload_n 1, 1) := by decide +kernel
theorem qd_F_land_15 : decode qc_F_land 15 = .ok (.putfield 11, 3) := by decide +kernel
theorem qd_F_land_18 : decode qc_F_land 18 = .ok (.aload_n 0, 1) := by decide +kernel
theorem qd_F_land_19 : decode qc_F_land 19 = .ok (.getfield 23, 3) := by decide +kernel
theorem qd_F_land_22 : decode qc_F_land 22 = .ok (.istore_n 2, 1) := by decide +kernel
theorem qd_F_land_23 : decode qc_F_land 23 = .ok (.aload_n 0, 1) := by decide +kernel
theorem qd_F_land_24 : decode qc_F_land 24 = .ok (.iconst 0, 1) := by decide +kernel
theorem qd_F_land_25 : decode qc_F_land 25 = .ok (.putfield 23, 3) := by decide +kernel
theorem qd_F_land_28 : decode qc_F_land 28 = .ok (.iload_n 2, 1) := by decide +kernel
theorem qd_F_land_29 : decode qc_F_land 29 = .ok (.ireturn, 1) := by decide +kernel
theorem qd_M_init_0 : decode qc_M_init 0 = .ok (.aload_n 0, 1) := by decide +kernel
theorem qd_M_init_1 : decode qc_M_init 1 = .ok (.invokespecial 3, 3) := by decide +kernel
theorem qd_M_init_4 : decode qc_M_init 4 = .ok (.aload_n 0, 1) := by decide +kernel
theorem qd_M_init_5 : decode qc_M_init 5 = .ok (.bipush 24, 2) := by decide +kernel
theorem qd_M_init_7 : decode qc_M_init 7 = .ok (.newarray .int, 2) := by decide +kernel
theorem qd_M_init_9 : decode qc_M_init 9 = .ok (.putfield 11, 3) := by decide +kernel
theorem qd_M_init_12 : decode qc_M_init 12 = .ok (.return_, 1) := by decide +kernel
theorem qd_M_address_0 : decode qc_M_address 0 = .ok (.aload_n 0, 1) := by decide +kernel
theorem qd_M_address_1 : decode qc_M_address 1 = .ok (.iload_n 1, 1) := by decide +kernel
theorem qd_M_address_2 : decode qc_M_address 2 = .ok (.putfield 15, 3) := by decide +kernel
theorem qd_M_address_5 : decode qc_M_address 5 = .ok (.aload_n 0, 1) := by decide +kernel
theorem qd_M_address_6 : decode qc_M_address 6 = .ok (.iload_n 2, 1) := by decide +kernel
theorem qd_M_address_7 : decode qc_M_address 7 = .ok (.putfield 19, 3) := by decide +kernel
theorem qd_M_address_10 : decode qc_M_address 10 = .ok (.aload_n 0, 1) := by decide +kernel
theorem qd_M_address_11 : decode qc_M_address 11 = .ok (.iload_n 3, 1) := by decide +kernel
theorem qd_M_address_12 : decode qc_M_address 12 = .ok (.putfield 22, 3) := by decide +kernel
theorem qd_M_address_15 : decode qc_M_address 15 = .ok (.aload_n 0, 1) := by decide +kernel
theorem qd_M_address_16 : decode qc_M_address 16 = .ok (.iconst 0, 1) := by decide +kernel
theorem qd_M_address_17 : decode qc_M_address 17 = .ok (.putfield 25, 3) := by decide +kernel
theorem qd_M_address_20 : decode qc_M_address 20 = .ok (.return_, 1) := by decide +kernel
theorem qd_M_concern_0 : decode qc_M_concern 0 = .ok (.aload_n 0, 1) := by decide +kernel
theorem qd_M_concern_1 : decode qc_M_concern 1 = .ok (.iload_n 1, 1) := by decide +kernel
theorem qd_M_concern_2 : decode qc_M_concern 2 = .ok (.putfield 28, 3) := by decide +kernel
theorem qd_M_concern_5 : decode qc_M_concern 5 = .ok (.aload_n 0, 1) := by decide +kernel
theorem qd_M_concern_6 : decode qc_M_concern 6 = .ok (.iload_n 2, 1) := by decide +kernel
theorem qd_M_concern_7 : decode qc_M_concern 7 = .ok (.putfield 31, 3) := by decide +kernel
theorem qd_M_concern_10 : decode qc_M_concern 10 = .ok (.aload_n 0, 1) := by decide +kernel
theorem qd_M_concern_11 : decode qc_M_concern 11 = .ok (.iload_n 3, 1) := by decide +kernel
theorem qd_M_concern_12 : decode qc_M_concern 12 = .ok (.putfield 34, 3) := by decide +kernel
theorem qd_M_concern_15 : decode qc_M_concern 15 = .ok (.return_, 1) := by decide +kernel
theorem qd_M_carry_0 : decode qc_M_carry 0 = .ok (.aload_n 0, 1) := by decide +kernel
theorem qd_M_carry_1 : decode qc_M_carry 1 = .ok (.getfield 25, 3) := by decide +kernel
theorem qd_M_carry_4 : decode qc_M_carry 4 = .ok (.bipush 8, 2) := by decide +kernel
theorem qd_M_carry_6 : decode qc_M_carry 6 = .ok (.if_icmp .lt 4, 3) := by decide +kernel
theorem qd_M_carry_9 : decode qc_M_carry 9 = .ok (.return_, 1) := by decide +kernel
theorem qd_M_carry_10 : decode qc_M_carry 10 = .ok (.iconst 3, 1) := by decide +kernel
theorem qd_M_carry_11 : decode qc_M_carry 11 = .ok (.aload_n 0, 1) := by decide +kernel
theorem qd_M_carry_12 : decode qc_M_carry 12 = .ok (.getfield 25, 3) := by decide +kernel
theorem qd_M_carry_15 : decode qc_M_carry 15 = .ok (.imul, 1) := by decide +kernel
theorem qd_M_carry_16 : decode qc_M_carry 16 = .ok (.istore_n 3, 1) := by decide +kernel
theorem qd_M_carry_17 : decode qc_M_carry 17 = .ok (.aload_n 0, 1) := by decide +kernel
theorem qd_M_carry_18 : decode qc_M_carry 18 = .ok (.getfield 11, 3) := by decide +kernel
theorem qd_M_carry_21 : decode qc_M_carry 21 = .ok (.iload_n 3, 1) := by decide +kernel
theorem qd_M_carry_22 : decode qc_M_carry 22 = .ok (.iload_n 1, 1) := by decide +kernel
theorem qd_M_carry_23 : decode qc_M_carry 23 = .ok (.iastore, 1) := by decide +kernel
theorem qd_M_carry_24 : decode qc_M_carry 24 = .ok (.aload_n 0, 1) := by decide +kernel
theorem qd_M_carry_25 : decode qc_M_carry 25 = .ok (.getfield 11, 3) := by decide +kernel
theorem qd_M_carry_28 : decode qc_M_carry 28 = .ok (.iload_n 3, 1) := by decide +kernel
theorem qd_M_carry_29 : decode qc_M_carry 29 = .ok (.iconst 1, 1) := by decide +kernel
theorem qd_M_carry_30 : decode qc_M_carry 30 = .ok (.iadd, 1) := by decide +kernel
theorem qd_M_carry_31 : decode qc_M_carry 31 = .ok (.aload_n 2, 1) := by decide +kernel
theorem qd_M_carry_32 : decode qc_M_carry 32 = .ok (.getfield 37, 3) := by decide +kernel
theorem qd_M_carry_35 : decode qc_M_carry 35 = .ok (.iastore, 1) := by decide +kernel
theorem qd_M_carry_36 : decode qc_M_carry 36 = .ok (.aload_n 0, 1) := by decide +kernel
theorem qd_M_carry_37 : decode qc_M_carry 37 = .ok (.getfield 11, 3) := by decide +kernel
theorem qd_M_carry_40 : decode qc_M_carry 40 = .ok (.iload_n 3, 1) := by decide +kernel
theorem qd_M_carry_41 : decode qc_M_carry 41 = .ok (.iconst 2, 1) := by decide +kernel
theorem qd_M_carry_42 : decode qc_M_carry 42 = .ok (.iadd, 1) := by decide +kernel
theorem qd_M_carry_43 : decode qc_M_carry 43 = .ok (.aload_n 2, 1) := by decide +kernel
theorem qd_M_carry_44 : decode qc_M_carry 44 = .ok (.getfield 42, 3) := by decide +kernel
theorem qd_M_carry_47 : decode qc_M_carry 47 = .ok (.iastore, 1) := by decide +kernel
theorem qd_M_carry_48 : decode qc_M_carry 48 = .ok (.aload_n 0, 1) := by decide +kernel
theorem qd_M_carry_49 : decode qc_M_carry 49 = .ok (.dup, 1) := by decide +kernel
theorem qd_M_carry_50 : decode qc_M_carry 50 = .ok (.getfield 25, 3) := by decide +kernel
theorem qd_M_carry_53 : decode qc_M_carry 53 = .ok (.iconst 1, 1) := by decide +kernel
theorem qd_M_carry_54 : decode qc_M_carry 54 = .ok (.iadd, 1) := by decide +kernel
theorem qd_M_carry_55 : decode qc_M_carry 55 = .ok (.putfield 25, 3) := by decide +kernel
theorem qd_M_carry_58 : decode qc_M_carry 58 = .ok (.return_, 1) := by decide +kernel
theorem qd_M_tell_0 : decode qc_M_tell 0 = .ok (.iload_n 1, 1) := by decide +kernel
theorem qd_M_tell_1 : decode qc_M_tell 1 = .ok (.tableswitch 78 0 6 #[43, 48, 53, 58, 63, 68, 73], 43) := by decide +kernel
theorem qd_M_tell_44 : decode qc_M_tell 44 = .ok (.aload_n 0, 1) := by decide +kernel
theorem qd_M_tell_45 : decode qc_M_tell 45 = .ok (.getfield 15, 3) := by decide +kernel
theorem qd_M_tell_48 : decode qc_M_tell 48 = .ok (.ireturn, 1) := by decide +kernel
theorem qd_M_tell_49 : decode qc_M_tell 49 = .ok (.aload_n 0, 1) := by decide +kernel
theorem qd_M_tell_50 : decode qc_M_tell 50 = .ok (.getfield 19, 3) := by decide +kernel
theorem qd_M_tell_53 : decode qc_M_tell 53 = .ok (.ireturn, 1) := by decide +kernel
theorem qd_M_tell_54 : decode qc_M_tell 54 = .ok (.aload_n 0, 1) := by decide +kernel
theorem qd_M_tell_55 : decode qc_M_tell 55 = .ok (.getfield 22, 3) := by decide +kernel
theorem qd_M_tell_58 : decode qc_M_tell 58 = .ok (.ireturn, 1) := by decide +kernel
theorem qd_M_tell_59 : decode qc_M_tell 59 = .ok (.aload_n 0, 1) := by decide +kernel
theorem qd_M_tell_60 : decode qc_M_tell 60 = .ok (.getfield 28, 3) := by decide +kernel
theorem qd_M_tell_63 : decode qc_M_tell 63 = .ok (.ireturn, 1) := by decide +kernel
theorem qd_M_tell_64 : decode qc_M_tell 64 = .ok (.aload_n 0, 1) := by decide +kernel
theorem qd_M_tell_65 : decode qc_M_tell 65 = .ok (.getfield 31, 3) := by decide +kernel
theorem qd_M_tell_68 : decode qc_M_tell 68 = .ok (.ireturn, 1) := by decide +kernel
theorem qd_M_tell_69 : decode qc_M_tell 69 = .ok (.aload_n 0, 1) := by decide +kernel
theorem qd_M_tell_70 : decode qc_M_tell 70 = .ok (.getfield 34, 3) := by decide +kernel
theorem qd_M_tell_73 : decode qc_M_tell 73 = .ok (.ireturn, 1) := by decide +kernel
theorem qd_M_tell_74 : decode qc_M_tell 74 = .ok (.aload_n 0, 1) := by decide +kernel
theorem qd_M_tell_75 : decode qc_M_tell 75 = .ok (.getfield 25, 3) := by decide +kernel
theorem qd_M_tell_78 : decode qc_M_tell 78 = .ok (.ireturn, 1) := by decide +kernel
theorem qd_M_tell_79 : decode qc_M_tell 79 = .ok (.aload_n 0, 1) := by decide +kernel
theorem qd_M_tell_80 : decode qc_M_tell 80 = .ok (.iload_n 1, 1) := by decide +kernel
theorem qd_M_tell_81 : decode qc_M_tell 81 = .ok (.invokevirtual 45, 3) := by decide +kernel
theorem qd_M_tell_84 : decode qc_M_tell 84 = .ok (.ireturn, 1) := by decide +kernel
theorem qd_M_tellNews_0 : decode qc_M_tellNews 0 = .ok (.iload_n 1, 1) := by decide +kernel
theorem qd_M_tellNews_1 : decode qc_M_tellNews 1 = .ok (.bipush 7, 2) := by decide +kernel
theorem qd_M_tellNews_3 : decode qc_M_tellNews 3 = .ok (.if_icmp .lt 16, 3) := by decide +kernel
theorem qd_M_tellNews_6 : decode qc_M_tellNews 6 = .ok (.iload_n 1, 1) := by decide +kernel
theorem qd_M_tellNews_7 : decode qc_M_tellNews 7 = .ok (.bipush 7, 2) := by decide +kernel
theorem qd_M_tellNews_9 : decode qc_M_tellNews 9 = .ok (.iconst 3, 1) := by decide +kernel
theorem qd_M_tellNews_10 : decode qc_M_tellNews 10 = .ok (.aload_n 0, 1) := by decide +kernel
theorem qd_M_tellNews_11 : decode qc_M_tellNews 11 = .ok (.getfield 25, 3) := by decide +kernel
theorem qd_M_tellNews_14 : decode qc_M_tellNews 14 = .ok (.imul, 1) := by decide +kernel
theorem qd_M_tellNews_15 : decode qc_M_tellNews 15 = .ok (.iadd, 1) := by decide +kernel
theorem qd_M_tellNews_16 : decode qc_M_tellNews 16 = .ok (.if_icmp .lt 5, 3) := by decide +kernel
theorem qd_M_tellNews_19 : decode qc_M_tellNews 19 = .ok (.iconst 0, 1) := by decide +kernel
theorem qd_M_tellNews_20 : decode qc_M_tellNews 20 = .ok (.ireturn, 1) := by decide +kernel
theorem qd_M_tellNews_21 : decode qc_M_tellNews 21 = .ok (.aload_n 0, 1) := by decide +kernel
theorem qd_M_tellNews_22 : decode qc_M_tellNews 22 = .ok (.getfield 11, 3) := by decide +kernel
theorem qd_M_tellNews_25 : decode qc_M_tellNews 25 = .ok (.iload_n 1, 1) := by decide +kernel
theorem qd_M_tellNews_26 : decode qc_M_tellNews 26 = .ok (.bipush 7, 2) := by decide +kernel
theorem qd_M_tellNews_28 : decode qc_M_tellNews 28 = .ok (.isub, 1) := by decide +kernel
theorem qd_M_tellNews_29 : decode qc_M_tellNews 29 = .ok (.iaload, 1) := by decide +kernel
theorem qd_M_tellNews_30 : decode qc_M_tellNews 30 = .ok (.ireturn, 1) := by decide +kernel
theorem qd_R_init_0 : decode qc_R_init 0 = .ok (.aload_n 0, 1) := by decide +kernel
theorem qd_R_init_1 : decode qc_R_init 1 = .ok (.invokespecial 1, 3) := by decide +kernel
theorem qd_R_init_4 : decode qc_R_init 4 = .ok (.return_, 1) := by decide +kernel
theorem qd_R_isFor_0 : decode qc_R_isFor 0 = .ok (.aload_n 0, 1) := by decide +kernel
theorem qd_R_isFor_1 : decode qc_R_isFor 1 = .ok (.getfield 7, 3) := by decide +kernel
theorem qd_R_isFor_4 : decode qc_R_isFor 4 = .ok (.aload_n 1, 1) := by decide +kernel
theorem qd_R_isFor_5 : decode qc_R_isFor 5 = .ok (.getfield 13, 3) := by decide +kernel
theorem qd_R_isFor_8 : decode qc_R_isFor 8 = .ok (.if_icmp .ne 29, 3) := by decide +kernel
theorem qd_R_isFor_11 : decode qc_R_isFor 11 = .ok (.aload_n 0, 1) := by decide +kernel
theorem qd_R_isFor_12 : decode qc_R_isFor 12 = .ok (.getfield 16, 3) := by decide +kernel
theorem qd_R_isFor_15 : decode qc_R_isFor 15 = .ok (.aload_n 1, 1) := by decide +kernel
theorem qd_R_isFor_16 : decode qc_R_isFor 16 = .ok (.getfield 19, 3) := by decide +kernel
theorem qd_R_isFor_19 : decode qc_R_isFor 19 = .ok (.if_icmp .ne 18, 3) := by decide +kernel
theorem qd_R_isFor_22 : decode qc_R_isFor 22 = .ok (.aload_n 0, 1) := by decide +kernel
theorem qd_R_isFor_23 : decode qc_R_isFor 23 = .ok (.getfield 20, 3) := by decide +kernel
theorem qd_R_isFor_26 : decode qc_R_isFor 26 = .ok (.aload_n 1, 1) := by decide +kernel
theorem qd_R_isFor_27 : decode qc_R_isFor 27 = .ok (.getfield 23, 3) := by decide +kernel
theorem qd_R_isFor_30 : decode qc_R_isFor 30 = .ok (.if_icmp .ne 7, 3) := by decide +kernel
theorem qd_R_isFor_33 : decode qc_R_isFor 33 = .ok (.iconst 1, 1) := by decide +kernel
theorem qd_R_isFor_34 : decode qc_R_isFor 34 = .ok (.goto 4, 3) := by decide +kernel
theorem qd_R_isFor_37 : decode qc_R_isFor 37 = .ok (.iconst 0, 1) := by decide +kernel
theorem qd_R_isFor_38 : decode qc_R_isFor 38 = .ok (.ireturn, 1) := by decide +kernel
theorem qd_J_bitCount_0 : decode qc_J_bitCount 0 = .ok (.iload_n 0, 1) := by decide +kernel
theorem qd_J_bitCount_1 : decode qc_J_bitCount 1 = .ok (.iload_n 0, 1) := by decide +kernel
theorem qd_J_bitCount_2 : decode qc_J_bitCount 2 = .ok (.iconst 1, 1) := by decide +kernel
theorem qd_J_bitCount_3 : decode qc_J_bitCount 3 = .ok (.iushr, 1) := by decide +kernel
theorem qd_J_bitCount_4 : decode qc_J_bitCount 4 = .ok (.ldc_w 265, 3) := by decide +kernel
theorem qd_J_bitCount_7 : decode qc_J_bitCount 7 = .ok (.iand, 1) := by decide +kernel
theorem qd_J_bitCount_8 : decode qc_J_bitCount 8 = .ok (.isub, 1) := by decide +kernel
theorem qd_J_bitCount_9 : decode qc_J_bitCount 9 = .ok (.istore_n 0, 1) := by decide +kernel
theorem qd_J_bitCount_10 : decode qc_J_bitCount 10 = .ok (.iload_n 0, 1) := by decide +kernel
theorem qd_J_bitCount_11 : decode qc_J_bitCount 11 = .ok (.ldc_w 266, 3) := by decide +kernel
theorem qd_J_bitCount_14 : decode qc_J_bitCount 14 = .ok (.iand, 1) := by decide +kernel
theorem qd_J_bitCount_15 : decode qc_J_bitCount 15 = .ok (.iload_n 0, 1) := by decide +kernel
theorem qd_J_bitCount_16 : decode qc_J_bitCount 16 = .ok (.iconst 2, 1) := by decide +kernel
theorem qd_J_bitCount_17 : decode qc_J_bitCount 17 = .ok (.iushr, 1) := by decide +kernel
theorem qd_J_bitCount_18 : decode qc_J_bitCount 18 = .ok (.ldc_w 266, 3) := by decide +kernel
theorem qd_J_bitCount_21 : decode qc_J_bitCount 21 = .ok (.iand, 1) := by decide +kernel
theorem qd_J_bitCount_22 : decode qc_J_bitCount 22 = .ok (.iadd, 1) := by decide +kernel
theorem qd_J_bitCount_23 : decode qc_J_bitCount 23 = .ok (.istore_n 0, 1) := by decide +kernel
theorem qd_J_bitCount_24 : decode qc_J_bitCount 24 = .ok (.iload_n 0, 1) := by decide +kernel
theorem qd_J_bitCount_25 : decode qc_J_bitCount 25 = .ok (.iload_n 0, 1) := by decide +kernel
theorem qd_J_bitCount_26 : decode qc_J_bitCount 26 = .ok (.iconst 4, 1) := by decide +kernel
theorem qd_J_bitCount_27 : decode qc_J_bitCount 27 = .ok (.iushr, 1) := by decide +kernel
theorem qd_J_bitCount_28 : decode qc_J_bitCount 28 = .ok (.iadd, 1) := by decide +kernel
theorem qd_J_bitCount_29 : decode qc_J_bitCount 29 = .ok (.ldc_w 267, 3) := by decide +kernel
theorem qd_J_bitCount_32 : decode qc_J_bitCount 32 = .ok (.iand, 1) := by decide +kernel
theorem qd_J_bitCount_33 : decode qc_J_bitCount 33 = .ok (.istore_n 0, 1) := by decide +kernel
theorem qd_J_bitCount_34 : decode qc_J_bitCount 34 = .ok (.iload_n 0, 1) := by decide +kernel
theorem qd_J_bitCount_35 : decode qc_J_bitCount 35 = .ok (.iload_n 0, 1) := by decide +kernel
theorem qd_J_bitCount_36 : decode qc_J_bitCount 36 = .ok (.bipush 8, 2) := by decide +kernel
theorem qd_J_bitCount_38 : decode qc_J_bitCount 38 = .ok (.iushr, 1) := by decide +kernel
theorem qd_J_bitCount_39 : decode qc_J_bitCount 39 = .ok (.iadd, 1) := by decide +kernel
theorem qd_J_bitCount_40 : decode qc_J_bitCount 40 = .ok (.istore_n 0, 1) := by decide +kernel
theorem qd_J_bitCount_41 : decode qc_J_bitCount 41 = .ok (.iload_n 0, 1) := by decide +kernel
theorem qd_J_bitCount_42 : decode qc_J_bitCount 42 = .ok (.iload_n 0, 1) := by decide +kernel
theorem qd_J_bitCount_43 : decode qc_J_bitCount 43 = .ok (.bipush 16, 2) := by decide +kernel
theorem qd_J_bitCount_45 : decode qc_J_bitCount 45 = .ok (.iushr, 1) := by decide +kernel
theorem qd_J_bitCount_46 : decode qc_J_bitCount 46 = .ok (.iadd, 1) := by decide +kernel
theorem qd_J_bitCount_47 : decode qc_J_bitCount 47 = .ok (.istore_n 0, 1) := by decide +kernel
theorem qd_J_bitCount_48 : decode qc_J_bitCount 48 = .ok (.iload_n 0, 1) := by decide +kernel
theorem qd_J_bitCount_49 : decode qc_J_bitCount 49 = .ok (.bipush 63, 2) := by decide +kernel
theorem qd_J_bitCount_51 : decode qc_J_bitCount 51 = .ok (.iand, 1) := by decide +kernel
theorem qd_J_bitCount_52 : decode qc_J_bitCount 52 = .ok (.ireturn, 1) := by decide +kernel
theorem qd_N_init_0 : decode qc_N_init 0 = .ok (.aload_n 0, 1) := by decide +kernel
theorem qd_N_init_1 : decode qc_N_init 1 = .ok (.invokespecial 3, 3) := by decide +kernel
theorem qd_N_init_4 : decode qc_N_init 4 = .ok (.aload_n 0, 1) := by decide +kernel
theorem qd_N_init_5 : decode qc_N_init 5 = .ok (.iconst 4, 1) := by decide +kernel
theorem qd_N_init_6 : decode qc_N_init 6 = .ok (.anewarray 11, 3) := by decide +kernel
theorem qd_N_init_9 : decode qc_N_init 9 = .ok (.putfield 13, 3) := by decide +kernel
theorem qd_N_init_12 : decode qc_N_init 12 = .ok (.aload_n 0, 1) := by decide +kernel
theorem qd_N_init_13 : decode qc_N_init 13 = .ok (.iload_n 1, 1) := by decide +kernel
theorem qd_N_init_14 : decode qc_N_init 14 = .ok (.putfield 17, 3) := by decide +kernel
theorem qd_N_init_17 : decode qc_N_init 17 = .ok (.aload_n 0, 1) := by decide +kernel
theorem qd_N_init_18 : decode qc_N_init 18 = .ok (.iload_n 2, 1) := by decide +kernel
theorem qd_N_init_19 : decode qc_N_init 19 = .ok (.putfield 21, 3) := by decide +kernel
theorem qd_N_init_22 : decode qc_N_init 22 = .ok (.aload_n 0, 1) := by decide +kernel
theorem qd_N_init_23 : decode qc_N_init 23 = .ok (.aload_n 3, 1) := by decide +kernel
theorem qd_N_init_24 : decode qc_N_init 24 = .ok (.putfield 24, 3) := by decide +kernel
theorem qd_N_init_27 : decode qc_N_init 27 = .ok (.aload_n 0, 1) := by decide +kernel
theorem qd_N_init_28 : decode qc_N_init 28 = .ok (.iload_n 2, 1) := by decide +kernel
theorem qd_N_init_29 : decode qc_N_init 29 = .ok (.anewarray 28, 3) := by decide +kernel
theorem qd_N_init_32 : decode qc_N_init 32 = .ok (.putfield 30, 3) := by decide +kernel
theorem qd_N_init_35 : decode qc_N_init 35 = .ok (.iconst 0, 1) := by decide +kernel
theorem qd_N_init_36 : decode qc_N_init 36 = .ok (.istore 4, 2) := by decide +kernel
theorem qd_N_init_38 : decode qc_N_init 38 = .ok (.iload 4, 2) := by decide +kernel
theorem qd_N_init_40 : decode qc_N_init 40 = .ok (.iload_n 2, 1) := by decide +kernel
theorem qd_N_init_41 : decode qc_N_init 41 = .ok (.if_icmp .ge 23, 3) := by decide +kernel
theorem qd_N_init_44 : decode qc_N_init 44 = .ok (.aload_n 0, 1) := by decide +kernel
theorem qd_N_init_45 : decode qc_N_init 45 = .ok (.getfield 30, 3) := by decide +kernel
theorem qd_N_init_48 : decode qc_N_init 48 = .ok (.iload 4, 2) := by decide +kernel
theorem qd_N_init_50 : decode qc_N_init 50 = .ok (.new 28, 3) := by decide +kernel
theorem qd_N_init_53 : decode qc_N_init 53 = .ok (.dup, 1) := by decide +kernel
theorem qd_N_init_54 : decode qc_N_init 54 = .ok (.invokespecial 34, 3) := by decide +kernel
theorem qd_N_init_57 : decode qc_N_init 57 = .ok (.aastore, 1) := by decide +kernel
theorem qd_N_init_58 : decode qc_N_init 58 = .ok (.iinc 4 1, 3) := by decide +kernel
theorem qd_N_init_61 : decode qc_N_init 61 = .ok (.goto (-23), 3) := by decide +kernel
theorem qd_N_init_64 : decode qc_N_init 64 = .ok (.iconst 0, 1) := by decide +kernel
theorem qd_N_init_65 : decode qc_N_init 65 = .ok (.istore 4, 2) := by decide +kernel
theorem qd_N_init_67 : decode qc_N_init 67 = .ok (.iload 4, 2) := by decide +kernel
theorem qd_N_init_69 : decode qc_N_init 69 = .ok (.iconst 4, 1) := by decide +kernel
theorem qd_N_init_70 : decode qc_N_init 70 = .ok (.if_icmp .ge 23, 3) := by decide +kernel
theorem qd_N_init_73 : decode qc_N_init 73 = .ok (.aload_n 0, 1) := by decide +kernel
theorem qd_N_init_74 : decode qc_N_init 74 = .ok (.getfield 13, 3) := by decide +kernel
theorem qd_N_init_77 : decode qc_N_init 77 = .ok (.iload 4, 2) := by decide +kernel
theorem qd_N_init_79 : decode qc_N_init 79 = .ok (.new 11, 3) := by decide +kernel
theorem qd_N_init_82 : decode qc_N_init 82 = .ok (.dup, 1) := by decide +kernel
theorem qd_N_init_83 : decode qc_N_init 83 = .ok (.invokespecial 35, 3) := by decide +kernel
theorem qd_N_init_86 : decode qc_N_init 86 = .ok (.aastore, 1) := by decide +kernel
theorem qd_N_init_87 : decode qc_N_init 87 = .ok (.iinc 4 1, 3) := by decide +kernel
theorem qd_N_init_90 : decode qc_N_init 90 = .ok (.goto (-23), 3) := by decide +kernel
theorem qd_N_init_93 : decode qc_N_init 93 = .ok (.return_, 1) := by decide +kernel
theorem qd_N_begin_0 : decode qc_N_begin 0 = .ok (.iconst 0, 1) := by decide +kernel
theorem qd_N_begin_1 : decode qc_N_begin 1 = .ok (.istore_n 2, 1) := by decide +kernel
theorem qd_N_begin_2 : decode qc_N_begin 2 = .ok (.iload_n 2, 1) := by decide +kernel
theorem qd_N_begin_3 : decode qc_N_begin 3 = .ok (.aload_n 0, 1) := by decide +kernel
theorem qd_N_begin_4 : decode qc_N_begin 4 = .ok (.getfield 21, 3) := by decide +kernel
theorem qd_N_begin_7 : decode qc_N_begin 7 = .ok (.if_icmp .ge 18, 3) := by decide +kernel
theorem qd_N_begin_10 : decode qc_N_begin 10 = .ok (.aload_n 0, 1) := by decide +kernel
theorem qd_N_begin_11 : decode qc_N_begin 11 = .ok (.getfield 30, 3) := by decide +kernel
theorem qd_N_begin_14 : decode qc_N_begin 14 = .ok (.iload_n 2, 1) := by decide +kernel
theorem qd_N_begin_15 : decode qc_N_begin 15 = .ok (.aaload, 1) := by decide +kernel
theorem qd_N_begin_16 : decode qc_N_begin 16 = .ok (.invokevirtual 36, 3) := by decide +kernel
theorem qd_N_begin_19 : decode qc_N_begin 19 = .ok (.iinc 2 1, 3) := by decide +kernel
theorem qd_N_begin_22 : decode qc_N_begin 22 = .ok (.goto (-20), 3) := by decide +kernel
theorem qd_N_begin_25 : decode qc_N_begin 25 = .ok (.aload_n 0, 1) := by decide +kernel
theorem qd_N_begin_26 : decode qc_N_begin 26 = .ok (.getfield 30, 3) := by decide +kernel
theorem qd_N_begin_29 : decode qc_N_begin 29 = .ok (.aload_n 0, 1) := by decide +kernel
theorem qd_N_begin_30 : decode qc_N_begin 30 = .ok (.getfield 17, 3) := by decide +kernel
theorem qd_N_begin_33 : decode qc_N_begin 33 = .ok (.aaload, 1) := by decide +kernel
theorem qd_N_begin_34 : decode qc_N_begin 34 = .ok (.iconst 1, 1) := by decide +kernel
theorem qd_N_begin_35 : decode qc_N_begin 35 = .ok (.iconst 0, 1) := by decide +kernel
theorem qd_N_begin_36 : decode qc_N_begin 36 = .ok (.iload_n 1, 1) := by decide +kernel
theorem qd_N_begin_37 : decode qc_N_begin 37 = .ok (.invokevirtual 39, 3) := by decide +kernel
theorem qd_N_begin_40 : decode qc_N_begin 40 = .ok (.aload_n 0, 1) := by decide +kernel
theorem qd_N_begin_41 : decode qc_N_begin 41 = .ok (.iconst 1, 1) := by decide +kernel
theorem qd_N_begin_42 : decode qc_N_begin 42 = .ok (.putfield 43, 3) := by decide +kernel
theorem qd_N_begin_45 : decode qc_N_begin 45 = .ok (.aload_n 0, 1) := by decide +kernel
theorem qd_N_begin_46 : decode qc_N_begin 46 = .ok (.iload_n 1, 1) := by decide +kernel
theorem qd_N_begin_47 : decode qc_N_begin 47 = .ok (.putfield 47, 3) := by decide +kernel
theorem qd_N_begin_50 : decode qc_N_begin 50 = .ok (.aload_n 0, 1) := by decide +kernel
theorem qd_N_begin_51 : decode qc_N_begin 51 = .ok (.iconst 0, 1) := by decide +kernel
theorem qd_N_begin_52 : decode qc_N_begin 52 = .ok (.putfield 50, 3) := by decide +kernel
theorem qd_N_begin_55 : decode qc_N_begin 55 = .ok (.aload_n 0, 1) := by decide +kernel
theorem qd_N_begin_56 : decode qc_N_begin 56 = .ok (.iconst 0, 1) := by decide +kernel
theorem qd_N_begin_57 : decode qc_N_begin 57 = .ok (.putfield 53, 3) := by decide +kernel
theorem qd_N_begin_60 : decode qc_N_begin 60 = .ok (.aload_n 0, 1) := by decide +kernel
theorem qd_N_begin_61 : decode qc_N_begin 61 = .ok (.iconst 2, 1) := by decide +kernel
theorem qd_N_begin_62 : decode qc_N_begin 62 = .ok (.putfield 56, 3) := by decide +kernel
theorem qd_N_begin_65 : decode qc_N_begin 65 = .ok (.aload_n 0, 1) := by decide +kernel
theorem qd_N_begin_66 : decode qc_N_begin 66 = .ok (.iconst 0, 1) := by decide +kernel
theorem qd_N_begin_67 : decode qc_N_begin 67 = .ok (.putfield 59, 3) := by decide +kernel
theorem qd_N_begin_70 : decode qc_N_begin 70 = .ok (.aload_n 0, 1) := by decide +kernel
theorem qd_N_begin_71 : decode qc_N_begin 71 = .ok (.iconst (-1), 1) := by decide +kernel
theorem qd_N_begin_72 : decode qc_N_begin 72 = .ok (.putfield 62, 3) := by decide +kernel
theorem qd_N_begin_75 : decode qc_N_begin 75 = .ok (.aload_n 0, 1) := by decide +kernel
theorem qd_N_begin_76 : decode qc_N_begin 76 = .ok (.aload_n 0, 1) := by decide +kernel
theorem qd_N_begin_77 : decode qc_N_begin 77 = .ok (.getfield 17, 3) := by decide +kernel
theorem qd_N_begin_80 : decode qc_N_begin 80 = .ok (.putfield 65, 3) := by decide +kernel
theorem qd_N_begin_83 : decode qc_N_begin 83 = .ok (.aload_n 0, 1) := by decide +kernel
theorem qd_N_begin_84 : decode qc_N_begin 84 = .ok (.iconst 0, 1) := by decide +kernel
theorem qd_N_begin_85 : decode qc_N_begin 85 = .ok (.putfield 68, 3) := by decide +kernel
theorem qd_N_begin_88 : decode qc_N_begin 88 = .ok (.aload_n 0, 1) := by decide +kernel
theorem qd_N_begin_89 : decode qc_N_begin 89 = .ok (.iconst 0, 1) := by decide +kernel
theorem qd_N_begin_90 : decode qc_N_begin 90 = .ok (.putfield 71, 3) := by decide +kernel
theorem qd_N_begin_93 : decode qc_N_begin 93 = .ok (.aload_n 0, 1) := by decide +kernel
theorem qd_N_begin_94 : decode qc_N_begin 94 = .ok (.iconst 0, 1) := by decide +kernel
theorem qd_N_begin_95 : decode qc_N_begin 95 = .ok (.putfield 74, 3) := by decide +kernel
theorem qd_N_begin_98 : decode qc_N_begin 98 = .ok (.aload_n 0, 1) := by decide +kernel
theorem qd_N_begin_99 : decode qc_N_begin 99 = .ok (.iconst 0, 1) := by decide +kernel
theorem qd_N_begin_100 : decode qc_N_begin 100 = .ok (.putfield 77, 3) := by decide +kernel
theorem qd_N_begin_103 : decode qc_N_begin 103 = .ok (.aload_n 0, 1) := by decide +kernel
theorem qd_N_begin_104 : decode qc_N_begin 104 = .ok (.aload_n 0, 1) := by decide +kernel
theorem qd_N_begin_105 : decode qc_N_begin 105 = .ok (.getfield 17, 3) := by decide +kernel
theorem qd_N_begin_108 : decode qc_N_begin 108 = .ok (.putfield 80, 3) := by decide +kernel
theorem qd_N_begin_111 : decode qc_N_begin 111 = .ok (.return_, 1) := by decide +kernel
theorem qd_N_send_0 : decode qc_N_send 0 = .ok (.aload_n 0, 1) := by decide +kernel
theorem qd_N_send_1 : decode qc_N_send 1 = .ok (.getfield 24, 3) := by decide +kernel
theorem qd_N_send_4 : decode qc_N_send 4 = .ok (.invokevirtual 93, 3) := by decide +kernel
theorem qd_N_send_7 : decode qc_N_send 7 = .ok (.astore 6, 2) := by decide +kernel
theorem qd_N_send_9 : decode qc_N_send 9 = .ok (.aload 6, 2) := by decide +kernel
theorem qd_N_send_11 : decode qc_N_send 11 = .ok (.iload_n 1, 1) := by decide +kernel
theorem qd_N_send_12 : decode qc_N_send 12 = .ok (.aload_n 0, 1) := by decide +kernel
theorem qd_N_send_13 : decode qc_N_send 13 = .ok (.getfield 17, 3) := by decide +kernel
theorem qd_N_send_16 : decode qc_N_send 16 = .ok (.iload_n 2, 1) := by decide +kernel
theorem qd_N_send_17 : decode qc_N_send 17 = .ok (.invokevirtual 99, 3) := by decide +kernel
theorem qd_N_send_20 : decode qc_N_send 20 = .ok (.aload 6, 2) := by decide +kernel
theorem qd_N_send_22 : decode qc_N_send 22 = .ok (.iload_n 3, 1) := by decide +kernel
theorem qd_N_send_23 : decode qc_N_send 23 = .ok (.iload 4, 2) := by decide +kernel
theorem qd_N_send_25 : decode qc_N_send 25 = .ok (.iload 5, 2) := by decide +kernel
theorem qd_N_send_27 : decode qc_N_send 27 = .ok (.invokevirtual 104, 3) := by decide +kernel
theorem qd_N_send_30 : decode qc_N_send 30 = .ok (.iload_n 1, 1) := by decide +kernel
theorem qd_N_send_31 : decode qc_N_send 31 = .ok (.bipush 6, 2) := by decide +kernel
theorem qd_N_send_33 : decode qc_N_send 33 = .ok (.if_icmp .eq 9, 3) := by decide +kernel
theorem qd_N_send_36 : decode qc_N_send 36 = .ok (.iload_n 1, 1) := by decide +kernel
theorem qd_N_send_37 : decode qc_N_send 37 = .ok (.bipush 7, 2) := by decide +kernel
theorem qd_N_send_39 : decode qc_N_send 39 = .ok (.if_icmp .ne 12, 3) := by decide +kernel
theorem qd_N_send_42 : decode qc_N_send 42 = .ok (.aload_n 0, 1) := by decide +kernel
theorem qd_N_send_43 : decode qc_N_send 43 = .ok (.aload 6, 2) := by decide +kernel
theorem qd_N_send_45 : decode qc_N_send 45 = .ok (.invokevirtual 107, 3) := by decide +kernel
theorem qd_N_send_48 : decode qc_N_send 48 = .ok (.goto 9, 3) := by decide +kernel
theorem qd_N_send_51 : decode qc_N_send 51 = .ok (.aload_n 0, 1) := by decide +kernel
theorem qd_N_send_52 : decode qc_N_send 52 = .ok (.aload 6, 2) := by decide +kernel
theorem qd_N_send_54 : decode qc_N_send 54 = .ok (.invokevirtual 111, 3) := by decide +kernel
theorem qd_N_send_57 : decode qc_N_send 57 = .ok (.return_, 1) := by decide +kernel
theorem qd_N_loadTable_0 : decode qc_N_loadTable 0 = .ok (.iconst 0, 1) := by decide +kernel
theorem qd_N_loadTable_1 : decode qc_N_loadTable 1 = .ok (.istore_n 2, 1) := by decide +kernel
theorem qd_N_loadTable_2 : decode qc_N_loadTable 2 = .ok (.iload_n 2, 1) := by decide +kernel
theorem qd_N_loadTable_3 : decode qc_N_loadTable 3 = .ok (.aload_n 0, 1) := by decide +kernel
theorem qd_N_loadTable_4 : decode qc_N_loadTable 4 = .ok (.getfield 21, 3) := by decide +kernel
theorem qd_N_loadTable_7 : decode qc_N_loadTable 7 = .ok (.if_icmp .ge 32, 3) := by decide +kernel
theorem qd_N_loadTable_10 : decode qc_N_loadTable 10 = .ok (.aload_n 0, 1) := by decide +kernel
theorem qd_N_loadTable_11 : decode qc_N_loadTable 11 = .ok (.getfield 30, 3) := by decide +kernel
theorem qd_N_loadTable_14 : decode qc_N_loadTable 14 = .ok (.iload_n 2, 1) := by decide +kernel
theorem qd_N_loadTable_15 : decode qc_N_loadTable 15 = .ok (.aaload, 1) := by decide +kernel
theorem qd_N_loadTable_16 : decode qc_N_loadTable 16 = .ok (.getfield 86, 3) := by decide +kernel
theorem qd_N_loadTable_19 : decode qc_N_loadTable 19 = .ok (.ifCond .eq 14, 3) := by decide +kernel
theorem qd_N_loadTable_22 : decode qc_N_loadTable 22 = .ok (.aload_n 1, 1) := by decide +kernel
theorem qd_N_loadTable_23 : decode qc_N_loadTable 23 = .ok (.iload_n 2, 1) := by decide +kernel
theorem qd_N_loadTable_24 : decode qc_N_loadTable 24 = .ok (.aload_n 0, 1) := by decide +kernel
theorem qd_N_loadTable_25 : decode qc_N_loadTable 25 = .ok (.getfield 30, 3) := by decide +kernel
theorem qd_N_loadTable_28 : decode qc_N_loadTable 28 = .ok (.iload_n 2, 1) := by decide +kernel
theorem qd_N_loadTable_29 : decode qc_N_loadTable 29 = .ok (.aaload, 1) := by decide +kernel
theorem qd_N_loadTable_30 : decode qc_N_loadTable 30 = .ok (.invokevirtual 114, 3) := by decide +kernel
theorem qd_N_loadTable_33 : decode qc_N_loadTable 33 = .ok (.iinc 2 1, 3) := by decide +kernel
theorem qd_N_loadTable_36 : decode qc_N_loadTable 36 = .ok (.goto (-34), 3) := by decide +kernel
theorem qd_N_loadTable_39 : decode qc_N_loadTable 39 = .ok (.return_, 1) := by decide +kernel
theorem qd_N_loadQueued_0 : decode qc_N_loadQueued 0 = .ok (.iconst 0, 1) := by decide +kernel
theorem qd_N_loadQueued_1 : decode qc_N_loadQueued 1 = .ok (.istore_n 2, 1) := by decide +kernel
theorem qd_N_loadQueued_2 : decode qc_N_loadQueued 2 = .ok (.iconst 0, 1) := by decide +kernel
theorem qd_N_loadQueued_3 : decode qc_N_loadQueued 3 = .ok (.istore_n 3, 1) := by decide +kernel
theorem qd_N_loadQueued_4 : decode qc_N_loadQueued 4 = .ok (.iload_n 3, 1) := by decide +kernel
theorem qd_N_loadQueued_5 : decode qc_N_loadQueued 5 = .ok (.iconst 3, 1) := by decide +kernel
theorem qd_N_loadQueued_6 : decode qc_N_loadQueued 6 = .ok (.if_icmp .ge 59, 3) := by decide +kernel
theorem qd_N_loadQueued_9 : decode qc_N_loadQueued 9 = .ok (.aload_n 0, 1) := by decide +kernel
theorem qd_N_loadQueued_10 : decode qc_N_loadQueued 10 = .ok (.iload_n 2, 1) := by decide +kernel
theorem qd_N_loadQueued_11 : decode qc_N_loadQueued 11 = .ok (.invokevirtual 118, 3) := by decide +kernel
theorem qd_N_loadQueued_14 : decode qc_N_loadQueued 14 = .ok (.istore 4, 2) := by decide +kernel
theorem qd_N_loadQueued_16 : decode qc_N_loadQueued 16 = .ok (.iload 4, 2) := by decide +kernel
theorem qd_N_loadQueued_18 : decode qc_N_loadQueued 18 = .ok (.iconst (-1), 1) := by decide +kernel
theorem qd_N_loadQueued_19 : decode qc_N_loadQueued 19 = .ok (.if_icmp .ne 4, 3) := by decide +kernel
theorem qd_N_loadQueued_22 : decode qc_N_loadQueued 22 = .ok (.return_, 1) := by decide +kernel
theorem qd_N_loadQueued_23 : decode qc_N_loadQueued 23 = .ok (.aload_n 1, 1) := by decide +kernel
theorem qd_N_loadQueued_24 : decode qc_N_loadQueued 24 = .ok (.iload 4, 2) := by decide +kernel
theorem qd_N_loadQueued_26 : decode qc_N_loadQueued 26 = .ok (.aload_n 0, 1) := by decide +kernel
theorem qd_N_loadQueued_27 : decode qc_N_loadQueued 27 = .ok (.getfield 30, 3) := by decide +kernel
theorem qd_N_loadQueued_30 : decode qc_N_loadQueued 30 = .ok (.iload 4, 2) := by decide +kernel
theorem qd_N_loadQueued_32 : decode qc_N_loadQueued 32 = .ok (.aaload, 1) := by decide +kernel
theorem qd_N_loadQueued_33 : decode qc_N_loadQueued 33 = .ok (.invokevirtual 114, 3) := by decide +kernel
theorem qd_N_loadQueued_36 : decode qc_N_loadQueued 36 = .ok (.aload_n 0, 1) := by decide +kernel
theorem qd_N_loadQueued_37 : decode qc_N_loadQueued 37 = .ok (.getfield 30, 3) := by decide +kernel
theorem qd_N_loadQueued_40 : decode qc_N_loadQueued 40 = .ok (.iload 4, 2) := by decide +kernel
theorem qd_N_loadQueued_42 : decode qc_N_loadQueued 42 = .ok (.aaload, 1) := by decide +kernel
theorem qd_N_loadQueued_43 : decode qc_N_loadQueued 43 = .ok (.dup, 1) := by decide +kernel
theorem qd_N_loadQueued_44 : decode qc_N_loadQueued 44 = .ok (.getfield 122, 3) := by decide +kernel
theorem qd_N_loadQueued_47 : decode qc_N_loadQueued 47 = .ok (.iconst 1, 1) := by decide +kernel
theorem qd_N_loadQueued_48 : decode qc_N_loadQueued 48 = .ok (.isub, 1) := by decide +kernel
theorem qd_N_loadQueued_49 : decode qc_N_loadQueued 49 = .ok (.putfield 122, 3) := by decide +kernel
theorem qd_N_loadQueued_52 : decode qc_N_loadQueued 52 = .ok (.iload_n 2, 1) := by decide +kernel
theorem qd_N_loadQueued_53 : decode qc_N_loadQueued 53 = .ok (.iconst 1, 1) := by decide +kernel
theorem qd_N_loadQueued_54 : decode qc_N_loadQueued 54 = .ok (.iload 4, 2) := by decide +kernel
theorem qd_N_loadQueued_56 : decode qc_N_loadQueued 56 = .ok (.ishl, 1) := by decide +kernel
theorem qd_N_loadQueued_57 : decode qc_N_loadQueued 57 = .ok (.ior, 1) := by decide +kernel
theorem qd_N_loadQueued_58 : decode qc_N_loadQueued 58 = .ok (.istore_n 2, 1) := by decide +kernel
theorem qd_N_loadQueued_59 : decode qc_N_loadQueued 59 = .ok (.iinc 3 1, 3) := by decide +kernel
theorem qd_N_loadQueued_62 : decode qc_N_loadQueued 62 = .ok (.goto (-58), 3) := by decide +kernel
theorem qd_N_loadQueued_65 : decode qc_N_loadQueued 65 = .ok (.return_, 1) := by decide +kernel
theorem qd_N_mostToSend_0 : decode qc_N_mostToSend 0 = .ok (.iconst (-1), 1) := by decide +kernel
theorem qd_N_mostToSend_1 : decode qc_N_mostToSend 1 = .ok (.istore_n 2, 1) := by decide +kernel
theorem qd_N_mostToSend_2 : decode qc_N_mostToSend 2 = .ok (.iconst 0, 1) := by decide +kernel
theorem qd_N_mostToSend_3 : decode qc_N_mostToSend 3 = .ok (.istore_n 3, 1) := by decide +kernel
theorem qd_N_mostToSend_4 : decode qc_N_mostToSend 4 = .ok (.iconst 0, 1) := by decide +kernel
theorem qd_N_mostToSend_5 : decode qc_N_mostToSend 5 = .ok (.istore 4, 2) := by decide +kernel
theorem qd_N_mostToSend_7 : decode qc_N_mostToSend 7 = .ok (.iload 4, 2) := by decide +kernel
theorem qd_N_mostToSend_9 : decode qc_N_mostToSend 9 = .ok (.aload_n 0, 1) := by decide +kernel
theorem qd_N_mostToSend_10 : decode qc_N_mostToSend 10 = .ok (.getfield 21, 3) := by decide +kernel
theorem qd_N_mostToSend_13 : decode qc_N_mostToSend 13 = .ok (.if_icmp .ge 46, 3) := by decide +kernel
theorem qd_N_mostToSend_16 : decode qc_N_mostToSend 16 = .ok (.iload_n 1, 1) := by decide +kernel
theorem qd_N_mostToSend_17 : decode qc_N_mostToSend 17 = .ok (.iload 4, 2) := by decide +kernel
theorem qd_N_mostToSend_19 : decode qc_N_mostToSend 19 = .ok (.ishr, 1) := by decide +kernel
theorem qd_N_mostToSend_20 : decode qc_N_mostToSend 20 = .ok (.iconst 1, 1) := by decide +kernel
theorem qd_N_mostToSend_21 : decode qc_N_mostToSend 21 = .ok (.iand, 1) := by decide +kernel
theorem qd_N_mostToSend_22 : decode qc_N_mostToSend 22 = .ok (.ifCond .ne 31, 3) := by decide +kernel
theorem qd_N_mostToSend_25 : decode qc_N_mostToSend 25 = .ok (.aload_n 0, 1) := by decide +kernel
theorem qd_N_mostToSend_26 : decode qc_N_mostToSend 26 = .ok (.getfield 30, 3) := by decide +kernel
theorem qd_N_mostToSend_29 : decode qc_N_mostToSend 29 = .ok (.iload 4, 2) := by decide +kernel
theorem qd_N_mostToSend_31 : decode qc_N_mostToSend 31 = .ok (.aaload, 1) := by decide +kernel
theorem qd_N_mostToSend_32 : decode qc_N_mostToSend 32 = .ok (.getfield 122, 3) := by decide +kernel
theorem qd_N_mostToSend_35 : decode qc_N_mostToSend 35 = .ok (.iload_n 3, 1) := by decide +kernel
theorem qd_N_mostToSend_36 : decode qc_N_mostToSend 36 = .ok (.if_icmp .le 17, 3) := by decide +kernel
theorem qd_N_mostToSend_39 : decode qc_N_mostToSend 39 = .ok (.iload 4, 2) := by decide +kernel
theorem qd_N_mostToSend_41 : decode qc_N_mostToSend 41 = .ok (.istore_n 2, 1) := by decide +kernel
theorem qd_N_mostToSend_42 : decode qc_N_mostToSend 42 = .ok (.aload_n 0, 1) := by decide +kernel
theorem qd_N_mostToSend_43 : decode qc_N_mostToSend 43 = .ok (.getfield 30, 3) := by decide +kernel
theorem qd_N_mostToSend_46 : decode qc_N_mostToSend 46 = .ok (.iload 4, 2) := by decide +kernel
theorem qd_N_mostToSend_48 : decode qc_N_mostToSend 48 = .ok (.aaload, 1) := by decide +kernel
theorem qd_N_mostToSend_49 : decode qc_N_mostToSend 49 = .ok (.getfield 122, 3) := by decide +kernel
theorem qd_N_mostToSend_52 : decode qc_N_mostToSend 52 = .ok (.istore_n 3, 1) := by decide +kernel
theorem qd_N_mostToSend_53 : decode qc_N_mostToSend 53 = .ok (.iinc 4 1, 3) := by decide +kernel
theorem qd_N_mostToSend_56 : decode qc_N_mostToSend 56 = .ok (.goto (-49), 3) := by decide +kernel
theorem qd_N_mostToSend_59 : decode qc_N_mostToSend 59 = .ok (.iload_n 2, 1) := by decide +kernel
theorem qd_N_mostToSend_60 : decode qc_N_mostToSend 60 = .ok (.ireturn, 1) := by decide +kernel
theorem qd_N_sayFarewell_0 : decode qc_N_sayFarewell 0 = .ok (.aload_n 0, 1) := by decide +kernel
theorem qd_N_sayFarewell_1 : decode qc_N_sayFarewell 1 = .ok (.getfield 30, 3) := by decide +kernel
theorem qd_N_sayFarewell_4 : decode qc_N_sayFarewell 4 = .ok (.aload_n 0, 1) := by decide +kernel
theorem qd_N_sayFarewell_5 : decode qc_N_sayFarewell 5 = .ok (.getfield 17, 3) := by decide +kernel
theorem qd_N_sayFarewell_8 : decode qc_N_sayFarewell 8 = .ok (.aaload, 1) := by decide +kernel
theorem qd_N_sayFarewell_9 : decode qc_N_sayFarewell 9 = .ok (.iconst 3, 1) := by decide +kernel
theorem qd_N_sayFarewell_10 : decode qc_N_sayFarewell 10 = .ok (.aload_n 0, 1) := by decide +kernel
theorem qd_N_sayFarewell_11 : decode qc_N_sayFarewell 11 = .ok (.getfield 30, 3) := by decide +kernel
theorem qd_N_sayFarewell_14 : decode qc_N_sayFarewell 14 = .ok (.aload_n 0, 1) := by decide +kernel
theorem qd_N_sayFarewell_15 : decode qc_N_sayFarewell 15 = .ok (.getfield 17, 3) := by decide +kernel
theorem qd_N_sayFarewell_18 : decode qc_N_sayFarewell 18 = .ok (.aaload, 1) := by decide +kernel
theorem qd_N_sayFarewell_19 : decode qc_N_sayFarewell 19 = .ok (.getfield 83, 3) := by decide +kernel
theorem qd_N_sayFarewell_22 : decode qc_N_sayFarewell 22 = .ok (.iload_n 1, 1) := by decide +kernel
theorem qd_N_sayFarewell_23 : decode qc_N_sayFarewell 23 = .ok (.invokevirtual 39, 3) := by decide +kernel
theorem qd_N_sayFarewell_26 : decode qc_N_sayFarewell 26 = .ok (.iconst 0, 1) := by decide +kernel
theorem qd_N_sayFarewell_27 : decode qc_N_sayFarewell 27 = .ok (.istore_n 2, 1) := by decide +kernel
theorem qd_N_sayFarewell_28 : decode qc_N_sayFarewell 28 = .ok (.iload_n 2, 1) := by decide +kernel
theorem qd_N_sayFarewell_29 : decode qc_N_sayFarewell 29 = .ok (.aload_n 0, 1) := by decide +kernel
theorem qd_N_sayFarewell_30 : decode qc_N_sayFarewell 30 = .ok (.getfield 21, 3) := by decide +kernel
theorem qd_N_sayFarewell_33 : decode qc_N_sayFarewell 33 = .ok (.if_icmp .ge 39, 3) := by decide +kernel
theorem qd_N_sayFarewell_36 : decode qc_N_sayFarewell 36 = .ok (.iload_n 2, 1) := by decide +kernel
theorem qd_N_sayFarewell_37 : decode qc_N_sayFarewell 37 = .ok (.aload_n 0, 1) := by decide +kernel
theorem qd_N_sayFarewell_38 : decode qc_N_sayFarewell 38 = .ok (.getfield 17, 3) := by decide +kernel
theorem qd_N_sayFarewell_41 : decode qc_N_sayFarewell 41 = .ok (.if_icmp .eq 25, 3) := by decide +kernel
theorem qd_N_sayFarewell_44 : decode qc_N_sayFarewell 44 = .ok (.aload_n 0, 1) := by decide +kernel
theorem qd_N_sayFarewell_45 : decode qc_N_sayFarewell 45 = .ok (.getfield 30, 3) := by decide +kernel
theorem qd_N_sayFarewell_48 : decode qc_N_sayFarewell 48 = .ok (.iload_n 2, 1) := by decide +kernel
theorem qd_N_sayFarewell_49 : decode qc_N_sayFarewell 49 = .ok (.aaload, 1) := by decide +kernel
theorem qd_N_sayFarewell_50 : decode qc_N_sayFarewell 50 = .ok (.getfield 86, 3) := by decide +kernel
theorem qd_N_sayFarewell_53 : decode qc_N_sayFarewell 53 = .ok (.iconst 1, 1) := by decide +kernel
theorem qd_N_sayFarewell_54 : decode qc_N_sayFarewell 54 = .ok (.if_icmp .ne 12, 3) := by decide +kernel
theorem qd_N_sayFarewell_57 : decode qc_N_sayFarewell 57 = .ok (.aload_n 0, 1) := by decide +kernel
theorem qd_N_sayFarewell_58 : decode qc_N_sayFarewell 58 = .ok (.iconst 5, 1) := by decide +kernel
theorem qd_N_sayFarewell_59 : decode qc_N_sayFarewell 59 = .ok (.iload_n 2, 1) := by decide +kernel
theorem qd_N_sayFarewell_60 : decode qc_N_sayFarewell 60 = .ok (.iconst 0, 1) := by decide +kernel
theorem qd_N_sayFarewell_61 : decode qc_N_sayFarewell 61 = .ok (.iconst 0, 1) := by decide +kernel
theorem qd_N_sayFarewell_62 : decode qc_N_sayFarewell 62 = .ok (.iconst 0, 1) := by decide +kernel
theorem qd_N_sayFarewell_63 : decode qc_N_sayFarewell 63 = .ok (.invokevirtual 89, 3) := by decide +kernel
theorem qd_N_sayFarewell_66 : decode qc_N_sayFarewell 66 = .ok (.iinc 2 1, 3) := by decide +kernel
theorem qd_N_sayFarewell_69 : decode qc_N_sayFarewell 69 = .ok (.goto (-41), 3) := by decide +kernel
theorem qd_N_sayFarewell_72 : decode qc_N_sayFarewell 72 = .ok (.return_, 1) := by decide +kernel
theorem qd_N_receive_0 : decode qc_N_receive 0 = .ok (.iconst 0, 1) := by decide +kernel
theorem qd_N_receive_1 : decode qc_N_receive 1 = .ok (.istore_n 3, 1) := by decide +kernel
theorem qd_N_receive_2 : decode qc_N_receive 2 = .ok (.iload_n 3, 1) := by decide +kernel
theorem qd_N_receive_3 : decode qc_N_receive 3 = .ok (.aload_n 1, 1) := by decide +kernel
theorem qd_N_receive_4 : decode qc_N_receive 4 = .ok (.getfield 125, 3) := by decide +kernel
theorem qd_N_receive_7 : decode qc_N_receive 7 = .ok (.if_icmp .ge 48, 3) := by decide +kernel
theorem qd_N_receive_10 : decode qc_N_receive 10 = .ok (.iconst 3, 1) := by decide +kernel
theorem qd_N_receive_11 : decode qc_N_receive 11 = .ok (.iload_n 3, 1) := by decide +kernel
theorem qd_N_receive_12 : decode qc_N_receive 12 = .ok (.imul, 1) := by decide +kernel
theorem qd_N_receive_13 : decode qc_N_receive 13 = .ok (.istore 4, 2) := by decide +kernel
theorem qd_N_receive_15 : decode qc_N_receive 15 = .ok (.aload_n 0, 1) := by decide +kernel
theorem qd_N_receive_16 : decode qc_N_receive 16 = .ok (.aload_n 1, 1) := by decide +kernel
theorem qd_N_receive_17 : decode qc_N_receive 17 = .ok (.getfield 128, 3) := by decide +kernel
theorem qd_N_receive_20 : decode qc_N_receive 20 = .ok (.iload 4, 2) := by decide +kernel
theorem qd_N_receive_22 : decode qc_N_receive 22 = .ok (.iaload, 1) := by decide +kernel
theorem qd_N_receive_23 : decode qc_N_receive 23 = .ok (.aload_n 1, 1) := by decide +kernel
theorem qd_N_receive_24 : decode qc_N_receive 24 = .ok (.getfield 128, 3) := by decide +kernel
theorem qd_N_receive_27 : decode qc_N_receive 27 = .ok (.iload 4, 2) := by decide +kernel
theorem qd_N_receive_29 : decode qc_N_receive 29 = .ok (.iconst 1, 1) := by decide +kernel
theorem qd_N_receive_30 : decode qc_N_receive 30 = .ok (.iadd, 1) := by decide +kernel
theorem qd_N_receive_31 : decode qc_N_receive 31 = .ok (.iaload, 1) := by decide +kernel
theorem qd_N_receive_32 : decode qc_N_receive 32 = .ok (.aload_n 1, 1) := by decide +kernel
theorem qd_N_receive_33 : decode qc_N_receive 33 = .ok (.getfield 128, 3) := by decide +kernel
theorem qd_N_receive_36 : decode qc_N_receive 36 = .ok (.iload 4, 2) := by decide +kernel
theorem qd_N_receive_38 : decode qc_N_receive 38 = .ok (.iconst 2, 1) := by decide +kernel
theorem qd_N_receive_39 : decode qc_N_receive 39 = .ok (.iadd, 1) := by decide +kernel
theorem qd_N_receive_40 : decode qc_N_receive 40 = .ok (.iaload, 1) := by decide +kernel
theorem qd_N_receive_41 : decode qc_N_receive 41 = .ok (.aload_n 1, 1) := by decide +kernel
theorem qd_N_receive_42 : decode qc_N_receive 42 = .ok (.getfield 132, 3) := by decide +kernel
theorem qd_N_receive_45 : decode qc_N_receive 45 = .ok (.iload_n 2, 1) := by decide +kernel
theorem qd_N_receive_46 : decode qc_N_receive 46 = .ok (.invokevirtual 135, 3) := by decide +kernel
theorem qd_N_receive_49 : decode qc_N_receive 49 = .ok (.iinc 3 1, 3) := by decide +kernel
theorem qd_N_receive_52 : decode qc_N_receive 52 = .ok (.goto (-50), 3) := by decide +kernel
theorem qd_N_receive_55 : decode qc_N_receive 55 = .ok (.aload_n 1, 1) := by decide +kernel
theorem qd_N_receive_56 : decode qc_N_receive 56 = .ok (.getfield 138, 3) := by decide +kernel
theorem qd_N_receive_59 : decode qc_N_receive 59 = .ok (.tableswitch 114 1 6 #[37, 61, 69, 77, 114, 98], 37) := by decide +kernel
theorem qd_N_receive_96 : decode qc_N_receive 96 = .ok (.aload_n 0, 1) := by decide +kernel
theorem qd_N_receive_97 : decode qc_N_receive 97 = .ok (.iconst 2, 1) := by decide +kernel
theorem qd_N_receive_98 : decode qc_N_receive 98 = .ok (.aload_n 1, 1) := by decide +kernel
theorem qd_N_receive_99 : decode qc_N_receive 99 = .ok (.getfield 132, 3) := by decide +kernel
theorem qd_N_receive_102 : decode qc_N_receive 102 = .ok (.aload_n 1, 1) := by decide +kernel
theorem qd_N_receive_103 : decode qc_N_receive 103 = .ok (.getfield 141, 3) := by decide +kernel
theorem qd_N_receive_106 : decode qc_N_receive 106 = .ok (.aload_n 1, 1) := by decide +kernel
theorem qd_N_receive_107 : decode qc_N_receive 107 = .ok (.getfield 144, 3) := by decide +kernel
theorem qd_N_receive_110 : decode qc_N_receive 110 = .ok (.aload_n 1, 1) := by decide +kernel
theorem qd_N_receive_111 : decode qc_N_receive 111 = .ok (.getfield 147, 3) := by decide +kernel
theorem qd_N_receive_114 : decode qc_N_receive 114 = .ok (.invokevirtual 89, 3) := by decide +kernel
theorem qd_N_receive_117 : decode qc_N_receive 117 = .ok (.goto 56, 3) := by decide +kernel
theorem qd_N_receive_120 : decode qc_N_receive 120 = .ok (.aload_n 0, 1) := by decide +kernel
theorem qd_N_receive_121 : decode qc_N_receive 121 = .ok (.aload_n 1, 1) := by decide +kernel
theorem qd_N_receive_122 : decode qc_N_receive 122 = .ok (.invokevirtual 150, 3) := by decide +kernel
theorem qd_N_receive_125 : decode qc_N_receive 125 = .ok (.goto 48, 3) := by decide +kernel
theorem qd_N_receive_128 : decode qc_N_receive 128 = .ok (.aload_n 0, 1) := by decide +kernel
theorem qd_N_receive_129 : decode qc_N_receive 129 = .ok (.aload_n 1, 1) := by decide +kernel
theorem qd_N_receive_130 : decode qc_N_receive 130 = .ok (.invokevirtual 153, 3) := by decide +kernel
theorem qd_N_receive_133 : decode qc_N_receive 133 = .ok (.goto 40, 3) := by decide +kernel
theorem qd_N_receive_136 : decode qc_N_receive 136 = .ok (.aload_n 0, 1) := by decide +kernel
theorem qd_N_receive_137 : decode qc_N_receive 137 = .ok (.aload_n 1, 1) := by decide +kernel
theorem qd_N_receive_138 : decode qc_N_receive 138 = .ok (.invokevirtual 156, 3) := by decide +kernel
theorem qd_N_receive_141 : decode qc_N_receive 141 = .ok (.ifCond .eq 32, 3) := by decide +kernel
theorem qd_N_receive_144 : decode qc_N_receive 144 = .ok (.aload_n 0, 1) := by decide +kernel
theorem qd_N_receive_145 : decode qc_N_receive 145 = .ok (.dup, 1) := by decide +kernel
theorem qd_N_receive_146 : decode qc_N_receive 146 = .ok (.getfield 77, 3) := by decide +kernel
theorem qd_N_receive_149 : decode qc_N_receive 149 = .ok (.iconst 1, 1) := by decide +kernel
theorem qd_N_receive_150 : decode qc_N_receive 150 = .ok (.iadd, 1) := by decide +kernel
theorem qd_N_receive_151 : decode qc_N_receive 151 = .ok (.putfield 77, 3) := by decide +kernel
theorem qd_N_receive_154 : decode qc_N_receive 154 = .ok (.goto 19, 3) := by decide +kernel
theorem qd_N_receive_157 : decode qc_N_receive 157 = .ok (.aload_n 0, 1) := by decide +kernel
theorem qd_N_receive_158 : decode qc_N_receive 158 = .ok (.bipush 7, 2) := by decide +kernel
theorem qd_N_receive_160 : decode qc_N_receive 160 = .ok (.aload_n 1, 1) := by decide +kernel
theorem qd_N_receive_161 : decode qc_N_receive 161 = .ok (.getfield 132, 3) := by decide +kernel
theorem qd_N_receive_164 : decode qc_N_receive 164 = .ok (.iconst 0, 1) := by decide +kernel
theorem qd_N_receive_165 : decode qc_N_receive 165 = .ok (.iconst 0, 1) := by decide +kernel
theorem qd_N_receive_166 : decode qc_N_receive 166 = .ok (.iconst 0, 1) := by decide +kernel
theorem qd_N_receive_167 : decode qc_N_receive 167 = .ok (.invokevirtual 89, 3) := by decide +kernel
theorem qd_N_receive_170 : decode qc_N_receive 170 = .ok (.goto 3, 3) := by decide +kernel
theorem qd_N_receive_173 : decode qc_N_receive 173 = .ok (.return_, 1) := by decide +kernel
theorem qd_N_learn_0 : decode qc_N_learn 0 = .ok (.aload_n 0, 1) := by decide +kernel
theorem qd_N_learn_1 : decode qc_N_learn 1 = .ok (.getfield 30, 3) := by decide +kernel
theorem qd_N_learn_4 : decode qc_N_learn 4 = .ok (.iload_n 1, 1) := by decide +kernel
theorem qd_N_learn_5 : decode qc_N_learn 5 = .ok (.aaload, 1) := by decide +kernel
theorem qd_N_learn_6 : decode qc_N_learn 6 = .ok (.astore 6, 2) := by decide +kernel
theorem qd_N_learn_8 : decode qc_N_learn 8 = .ok (.iload_n 1, 1) := by decide +kernel
theorem qd_N_learn_9 : decode qc_N_learn 9 = .ok (.aload_n 0, 1) := by decide +kernel
theorem qd_N_learn_10 : decode qc_N_learn 10 = .ok (.getfield 17, 3) := by decide +kernel
theorem qd_N_learn_13 : decode qc_N_learn 13 = .ok (.if_icmp .ne 18, 3) := by decide +kernel
theorem qd_N_learn_16 : decode qc_N_learn 16 = .ok (.iload_n 2, 1) := by decide +kernel
theorem qd_N_learn_17 : decode qc_N_learn 17 = .ok (.iconst 1, 1) := by decide +kernel
theorem qd_N_learn_18 : decode qc_N_learn 18 = .ok (.if_icmp .eq 77, 3) := by decide +kernel
theorem qd_N_learn_21 : decode qc_N_learn 21 = .ok (.aload_n 0, 1) := by decide +kernel
theorem qd_N_learn_22 : decode qc_N_learn 22 = .ok (.iload_n 3, 1) := by decide +kernel
theorem qd_N_learn_23 : decode qc_N_learn 23 = .ok (.iload 5, 2) := by decide +kernel
theorem qd_N_learn_25 : decode qc_N_learn 25 = .ok (.invokevirtual 160, 3) := by decide +kernel
theorem qd_N_learn_28 : decode qc_N_learn 28 = .ok (.goto 67, 3) := by decide +kernel
theorem qd_N_learn_31 : decode qc_N_learn 31 = .ok (.aload 6, 2) := by decide +kernel
theorem qd_N_learn_33 : decode qc_N_learn 33 = .ok (.iload_n 2, 1) := by decide +kernel
theorem qd_N_learn_34 : decode qc_N_learn 34 = .ok (.iload_n 3, 1) := by decide +kernel
theorem qd_N_learn_35 : decode qc_N_learn 35 = .ok (.invokevirtual 164, 3) := by decide +kernel
theorem qd_N_learn_38 : decode qc_N_learn 38 = .ok (.ifCond .eq 33, 3) := by decide +kernel
theorem qd_N_learn_41 : decode qc_N_learn 41 = .ok (.iload_n 2, 1) := by decide +kernel
theorem qd_N_learn_42 : decode qc_N_learn 42 = .ok (.iconst 2, 1) := by decide +kernel
theorem qd_N_learn_43 : decode qc_N_learn 43 = .ok (.if_icmp .ne 16, 3) := by decide +kernel
theorem qd_N_learn_46 : decode qc_N_learn 46 = .ok (.aload 6, 2) := by decide +kernel
theorem qd_N_learn_48 : decode qc_N_learn 48 = .ok (.iload_n 3, 1) := by decide +kernel
theorem qd_N_learn_49 : decode qc_N_learn 49 = .ok (.iload 5, 2) := by decide +kernel
theorem qd_N_learn_51 : decode qc_N_learn 51 = .ok (.iload 4, 2) := by decide +kernel
theorem qd_N_learn_53 : decode qc_N_learn 53 = .ok (.invokevirtual 168, 3) := by decide +kernel
theorem qd_N_learn_56 : decode qc_N_learn 56 = .ok (.goto 39, 3) := by decide +kernel
theorem qd_N_learn_59 : decode qc_N_learn 59 = .ok (.aload 6, 2) := by decide +kernel
theorem qd_N_learn_61 : decode qc_N_learn 61 = .ok (.iload_n 2, 1) := by decide +kernel
theorem qd_N_learn_62 : decode qc_N_learn 62 = .ok (.iload_n 3, 1) := by decide +kernel
theorem qd_N_learn_63 : decode qc_N_learn 63 = .ok (.iload 5, 2) := by decide +kernel
theorem qd_N_learn_65 : decode qc_N_learn 65 = .ok (.invokevirtual 39, 3) := by decide +kernel
theorem qd_N_learn_68 : decode qc_N_learn 68 = .ok (.goto 27, 3) := by decide +kernel
theorem qd_N_learn_71 : decode qc_N_learn 71 = .ok (.aload 6, 2) := by decide +kernel
theorem qd_N_learn_73 : decode qc_N_learn 73 = .ok (.iload_n 2, 1) := by decide +kernel
theorem qd_N_learn_74 : decode qc_N_learn 74 = .ok (.iload_n 3, 1) := by decide +kernel
theorem qd_N_learn_75 : decode qc_N_learn 75 = .ok (.invokevirtual 171, 3) := by decide +kernel
theorem qd_N_learn_78 : decode qc_N_learn 78 = .ok (.ifCond .eq 17, 3) := by decide +kernel
theorem qd_N_learn_81 : decode qc_N_learn 81 = .ok (.aload 6, 2) := by decide +kernel
theorem qd_N_learn_83 : decode qc_N_learn 83 = .ok (.dup, 1) := by decide +kernel
theorem qd_N_learn_84 : decode qc_N_learn 84 = .ok (.getfield 174, 3) := by decide +kernel
theorem qd_N_learn_87 : decode qc_N_learn 87 = .ok (.iconst 1, 1) := by decide +kernel
theorem qd_N_learn_88 : decode qc_N_learn 88 = .ok (.iload 4, 2) := by decide +kernel
theorem qd_N_learn_90 : decode qc_N_learn 90 = .ok (.ishl, 1) := by decide +kernel
theorem qd_N_learn_91 : decode qc_N_learn 91 = .ok (.ior, 1) := by decide +kernel
theorem qd_N_learn_92 : decode qc_N_learn 92 = .ok (.putfield 174, 3) := by decide +kernel
theorem qd_N_learn_95 : decode qc_N_learn 95 = .ok (.return_, 1) := by decide +kernel
theorem qd_N_refute_0 : decode qc_N_refute 0 = .ok (.aload_n 0, 1) := by decide +kernel
theorem qd_N_refute_1 : decode qc_N_refute 1 = .ok (.getfield 30, 3) := by decide +kernel
theorem qd_N_refute_4 : decode qc_N_refute 4 = .ok (.aload_n 0, 1) := by decide +kernel
theorem qd_N_refute_5 : decode qc_N_refute 5 = .ok (.getfield 17, 3) := by decide +kernel
theorem qd_N_refute_8 : decode qc_N_refute 8 = .ok (.aaload, 1) := by decide +kernel
theorem qd_N_refute_9 : decode qc_N_refute 9 = .ok (.astore_n 3, 1) := by decide +kernel
theorem qd_N_refute_10 : decode qc_N_refute 10 = .ok (.iload_n 1, 1) := by decide +kernel
theorem qd_N_refute_11 : decode qc_N_refute 11 = .ok (.aload_n 3, 1) := by decide +kernel
theorem qd_N_refute_12 : decode qc_N_refute 12 = .ok (.getfield 83, 3) := by decide +kernel
theorem qd_N_refute_15 : decode qc_N_refute 15 = .ok (.if_icmp .lt 17, 3) := by decide +kernel
theorem qd_N_refute_18 : decode qc_N_refute 18 = .ok (.aload_n 3, 1) := by decide +kernel
theorem qd_N_refute_19 : decode qc_N_refute 19 = .ok (.iconst 1, 1) := by decide +kernel
theorem qd_N_refute_20 : decode qc_N_refute 20 = .ok (.iload_n 1, 1) := by decide +kernel
theorem qd_N_refute_21 : decode qc_N_refute 21 = .ok (.iconst 1, 1) := by decide +kernel
theorem qd_N_refute_22 : decode qc_N_refute 22 = .ok (.iadd, 1) := by decide +kernel
theorem qd_N_refute_23 : decode qc_N_refute 23 = .ok (.iload_n 2, 1) := by decide +kernel
theorem qd_N_refute_24 : decode qc_N_refute 24 = .ok (.invokevirtual 39, 3) := by decide +kernel
theorem qd_N_refute_27 : decode qc_N_refute 27 = .ok (.aload_n 0, 1) := by decide +kernel
theorem qd_N_refute_28 : decode qc_N_refute 28 = .ok (.iconst 1, 1) := by decide +kernel
theorem qd_N_refute_29 : decode qc_N_refute 29 = .ok (.invokevirtual 177, 3) := by decide +kernel
theorem qd_N_refute_32 : decode qc_N_refute 32 = .ok (.aload_n 3, 1) := by decide +kernel
theorem qd_N_refute_33 : decode qc_N_refute 33 = .ok (.invokevirtual 181, 3) := by decide +kernel
theorem qd_N_refute_36 : decode qc_N_refute 36 = .ok (.return_, 1) := by decide +kernel
theorem qd_N_raiseScore_0 : decode qc_N_raiseScore 0 = .ok (.aload_n 0, 1) := by decide +kernel
theorem qd_N_raiseScore_1 : decode qc_N_raiseScore 1 = .ok (.iconst 4, 1) := by decide +kernel
theorem qd_N_raiseScore_2 : decode qc_N_raiseScore 2 = .ok (.aload_n 0, 1) := by decide +kernel
theorem qd_N_raiseScore_3 : decode qc_N_raiseScore 3 = .ok (.getfield 50, 3) := by decide +kernel
theorem qd_N_raiseScore_6 : decode qc_N_raiseScore 6 = .ok (.iload_n 1, 1) := by decide +kernel
theorem qd_N_raiseScore_7 : decode qc_N_raiseScore 7 = .ok (.iadd, 1) := by decide +kernel
theorem qd_N_raiseScore_8 : decode qc_N_raiseScore 8 = .ok (.invokestatic 184, 3) := by decide +kernel
theorem qd_N_raiseScore_11 : decode qc_N_raiseScore 11 = .ok (.putfield 50, 3) := by decide +kernel
theorem qd_N_raiseScore_14 : decode qc_N_raiseScore 14 = .ok (.return_, 1) := by decide +kernel
theorem qd_N_takeAck_0 : decode qc_N_takeAck 0 = .ok (.aload_n 1, 1) := by decide +kernel
theorem qd_N_takeAck_1 : decode qc_N_takeAck 1 = .ok (.getfield 144, 3) := by decide +kernel
theorem qd_N_takeAck_4 : decode qc_N_takeAck 4 = .ok (.aload_n 0, 1) := by decide +kernel
theorem qd_N_takeAck_5 : decode qc_N_takeAck 5 = .ok (.getfield 17, 3) := by decide +kernel
theorem qd_N_takeAck_8 : decode qc_N_takeAck 8 = .ok (.if_icmp .ne 17, 3) := by decide +kernel
theorem qd_N_takeAck_11 : decode qc_N_takeAck 11 = .ok (.aload_n 0, 1) := by decide +kernel
theorem qd_N_takeAck_12 : decode qc_N_takeAck 12 = .ok (.aload_n 1, 1) := by decide +kernel
theorem qd_N_takeAck_13 : decode qc_N_takeAck 13 = .ok (.invokevirtual 156, 3) := by decide +kernel
theorem qd_N_takeAck_16 : decode qc_N_takeAck 16 = .ok (.ifCond .eq 8, 3) := by decide +kernel
theorem qd_N_takeAck_19 : decode qc_N_takeAck 19 = .ok (.aload_n 0, 1) := by decide +kernel
theorem qd_N_takeAck_20 : decode qc_N_takeAck 20 = .ok (.iconst 1, 1) := by decide +kernel
theorem qd_N_takeAck_21 : decode qc_N_takeAck 21 = .ok (.putfield 71, 3) := by decide +kernel
theorem qd_N_takeAck_24 : decode qc_N_takeAck 24 = .ok (.return_, 1) := by decide +kernel
theorem qd_N_takeAck_25 : decode qc_N_takeAck 25 = .ok (.iconst 0, 1) := by decide +kernel
theorem qd_N_takeAck_26 : decode qc_N_takeAck 26 = .ok (.istore_n 2, 1) := by decide +kernel
theorem qd_N_takeAck_27 : decode qc_N_takeAck 27 = .ok (.iload_n 2, 1) := by decide +kernel
theorem qd_N_takeAck_28 : decode qc_N_takeAck 28 = .ok (.aload_n 0, 1) := by decide +kernel
theorem qd_N_takeAck_29 : decode qc_N_takeAck 29 = .ok (.getfield 53, 3) := by decide +kernel
theorem qd_N_takeAck_32 : decode qc_N_takeAck 32 = .ok (.if_icmp .ge 49, 3) := by decide +kernel
theorem qd_N_takeAck_35 : decode qc_N_takeAck 35 = .ok (.aload_n 0, 1) := by decide +kernel
theorem qd_N_takeAck_36 : decode qc_N_takeAck 36 = .ok (.getfield 13, 3) := by decide +kernel
theorem qd_N_takeAck_39 : decode qc_N_takeAck 39 = .ok (.iload_n 2, 1) := by decide +kernel
theorem qd_N_takeAck_40 : decode qc_N_takeAck 40 = .ok (.aaload, 1) := by decide +kernel
theorem qd_N_takeAck_41 : decode qc_N_takeAck 41 = .ok (.aload_n 1, 1) := by decide +kernel
theorem qd_N_takeAck_42 : decode qc_N_takeAck 42 = .ok (.invokevirtual 190, 3) := by decide +kernel
theorem qd_N_takeAck_45 : decode qc_N_takeAck 45 = .ok (.ifCond .eq 30, 3) := by decide +kernel
theorem qd_N_takeAck_48 : decode qc_N_takeAck 48 = .ok (.aload_n 0, 1) := by decide +kernel
theorem qd_N_takeAck_49 : decode qc_N_takeAck 49 = .ok (.iload_n 2, 1) := by decide +kernel
theorem qd_N_takeAck_50 : decode qc_N_takeAck 50 = .ok (.invokevirtual 193, 3) := by decide +kernel
theorem qd_N_takeAck_53 : decode qc_N_takeAck 53 = .ok (.aload_n 0, 1) := by decide +kernel
theorem qd_N_takeAck_54 : decode qc_N_takeAck 54 = .ok (.iconst 2, 1) := by decide +kernel
theorem qd_N_takeAck_55 : decode qc_N_takeAck 55 = .ok (.aload_n 1, 1) := by decide +kernel
theorem qd_N_takeAck_56 : decode qc_N_takeAck 56 = .ok (.getfield 144, 3) := by decide +kernel
theorem qd_N_takeAck_59 : decode qc_N_takeAck 59 = .ok (.aload_n 1, 1) := by decide +kernel
theorem qd_N_takeAck_60 : decode qc_N_takeAck 60 = .ok (.getfield 141, 3) := by decide +kernel
theorem qd_N_takeAck_63 : decode qc_N_takeAck 63 = .ok (.aload_n 1, 1) := by decide +kernel
theorem qd_N_takeAck_64 : decode qc_N_takeAck 64 = .ok (.getfield 144, 3) := by decide +kernel
theorem qd_N_takeAck_67 : decode qc_N_takeAck 67 = .ok (.aload_n 1, 1) := by decide +kernel
theorem qd_N_takeAck_68 : decode qc_N_takeAck 68 = .ok (.getfield 147, 3) := by decide +kernel
theorem qd_N_takeAck_71 : decode qc_N_takeAck 71 = .ok (.invokevirtual 89, 3) := by decide +kernel
theorem qd_N_takeAck_74 : decode qc_N_takeAck 74 = .ok (.return_, 1) := by decide +kernel
theorem qd_N_takeAck_75 : decode qc_N_takeAck 75 = .ok (.iinc 2 1, 3) := by decide +kernel
theorem qd_N_takeAck_78 : decode qc_N_takeAck 78 = .ok (.goto (-51), 3) := by decide +kernel
theorem qd_N_takeAck_81 : decode qc_N_takeAck 81 = .ok (.return_, 1) := by decide +kernel
theorem qd_N_isOfProbe_0 : decode qc_N_isOfProbe 0 = .ok (.aload_n 0, 1) := by decide +kernel
theorem qd_N_isOfProbe_1 : decode qc_N_isOfProbe 1 = .ok (.getfield 62, 3) := by decide +kernel
theorem qd_N_isOfProbe_4 : decode qc_N_isOfProbe 4 = .ok (.iconst (-1), 1) := by decide +kernel
theorem qd_N_isOfProbe_5 : decode qc_N_isOfProbe 5 = .ok (.if_icmp .eq 18, 3) := by decide +kernel
theorem qd_N_isOfProbe_8 : decode qc_N_isOfProbe 8 = .ok (.aload_n 1, 1) := by decide +kernel
theorem qd_N_isOfProbe_9 : decode qc_N_isOfProbe 9 = .ok (.getfield 141, 3) := by decide +kernel
theorem qd_N_isOfProbe_12 : decode qc_N_isOfProbe 12 = .ok (.aload_n 0, 1) := by decide +kernel
theorem qd_N_isOfProbe_13 : decode qc_N_isOfProbe 13 = .ok (.getfield 59, 3) := by decide +kernel
theorem qd_N_isOfProbe_16 : decode qc_N_isOfProbe 16 = .ok (.if_icmp .ne 7, 3) := by decide +kernel
theorem qd_N_isOfProbe_19 : decode qc_N_isOfProbe 19 = .ok (.iconst 1, 1) := by decide +kernel
theorem qd_N_isOfProbe_20 : decode qc_N_isOfProbe 20 = .ok (.goto 4, 3) := by decide +kernel
theorem qd_N_isOfProbe_23 : decode qc_N_isOfProbe 23 = .ok (.iconst 0, 1) := by decide +kernel
theorem qd_N_isOfProbe_24 : decode qc_N_isOfProbe 24 = .ok (.ireturn, 1) := by decide +kernel
theorem qd_N_endRelay_0 : decode qc_N_endRelay 0 = .ok (.aload_n 0, 1) := by decide +kernel
theorem qd_N_endRelay_1 : decode qc_N_endRelay 1 = .ok (.getfield 13, 3) := by decide +kernel
theorem qd_N_endRelay_4 : decode qc_N_endRelay 4 = .ok (.iload_n 1, 1) := by decide +kernel
theorem qd_N_endRelay_5 : decode qc_N_endRelay 5 = .ok (.aaload, 1) := by decide +kernel
theorem qd_N_endRelay_6 : decode qc_N_endRelay 6 = .ok (.astore_n 2, 1) := by decide +kernel
theorem qd_N_endRelay_7 : decode qc_N_endRelay 7 = .ok (.iload_n 1, 1) := by decide +kernel
theorem qd_N_endRelay_8 : decode qc_N_endRelay 8 = .ok (.istore_n 3, 1) := by decide +kernel
theorem qd_N_endRelay_9 : decode qc_N_endRelay 9 = .ok (.iload_n 3, 1) := by decide +kernel
theorem qd_N_endRelay_10 : decode qc_N_endRelay 10 = .ok (.aload_n 0, 1) := by decide +kernel
theorem qd_N_endRelay_11 : decode qc_N_endRelay 11 = .ok (.getfield 53, 3) := by decide +kernel
theorem qd_N_endRelay_14 : decode qc_N_endRelay 14 = .ok (.iconst 1, 1) := by decide +kernel
theorem qd_N_endRelay_15 : decode qc_N_endRelay 15 = .ok (.isub, 1) := by decide +kernel
theorem qd_N_endRelay_16 : decode qc_N_endRelay 16 = .ok (.if_icmp .ge 23, 3) := by decide +kernel
theorem qd_N_endRelay_19 : decode qc_N_endRelay 19 = .ok (.aload_n 0, 1) := by decide +kernel
theorem qd_N_endRelay_20 : decode qc_N_endRelay 20 = .ok (.getfield 13, 3) := by decide +kernel
theorem qd_N_endRelay_23 : decode qc_N_endRelay 23 = .ok (.iload_n 3, 1) := by decide +kernel
theorem qd_N_endRelay_24 : decode qc_N_endRelay 24 = .ok (.aload_n 0, 1) := by decide +kernel
theorem qd_N_endRelay_25 : decode qc_N_endRelay 25 = .ok (.getfield 13, 3) := by decide +kernel
theorem qd_N_endRelay_28 : decode qc_N_endRelay 28 = .ok (.iload_n 3, 1) := by decide +kernel
theorem qd_N_endRelay_29 : decode qc_N_endRelay 29 = .ok (.iconst 1, 1) := by decide +kernel
theorem qd_N_endRelay_30 : decode qc_N_endRelay 30 = .ok (.iadd, 1) := by decide +kernel
theorem qd_N_endRelay_31 : decode qc_N_endRelay 31 = .ok (.aaload, 1) := by decide +kernel
theorem qd_N_endRelay_32 : decode qc_N_endRelay 32 = .ok (.aastore, 1) := by decide +kernel
theorem qd_N_endRelay_33 : decode qc_N_endRelay 33 = .ok (.iinc 3 1, 3) := by decide +kernel
theorem qd_N_endRelay_36 : decode qc_N_endRelay 36 = .ok (.goto (-27), 3) := by decide +kernel
theorem qd_N_endRelay_39 : decode qc_N_endRelay 39 = .ok (.aload_n 0, 1) := by decide +kernel
theorem qd_N_endRelay_40 : decode qc_N_endRelay 40 = .ok (.dup, 1) := by decide +kernel
theorem qd_N_endRelay_41 : decode qc_N_endRelay 41 = .ok (.getfield 53, 3) := by decide +kernel
theorem qd_N_endRelay_44 : decode qc_N_endRelay 44 = .ok (.iconst 1, 1) := by decide +kernel
theorem qd_N_endRelay_45 : decode qc_N_endRelay 45 = .ok (.isub, 1) := by decide +kernel
theorem qd_N_endRelay_46 : decode qc_N_endRelay 46 = .ok (.putfield 53, 3) := by decide +kernel
theorem qd_N_endRelay_49 : decode qc_N_endRelay 49 = .ok (.aload_n 0, 1) := by decide +kernel
theorem qd_N_endRelay_50 : decode qc_N_endRelay 50 = .ok (.getfield 13, 3) := by decide +kernel
theorem qd_N_endRelay_53 : decode qc_N_endRelay 53 = .ok (.aload_n 0, 1) := by decide +kernel
theorem qd_N_endRelay_54 : decode qc_N_endRelay 54 = .ok (.getfield 53, 3) := by decide +kernel
theorem qd_N_endRelay_57 : decode qc_N_endRelay 57 = .ok (.aload_n 2, 1) := by decide +kernel
theorem qd_N_endRelay_58 : decode qc_N_endRelay 58 = .ok (.aastore, 1) := by decide +kernel
theorem qd_N_endRelay_59 : decode qc_N_endRelay 59 = .ok (.return_, 1) := by decide +kernel
theorem qd_N_takeAsk_0 : decode qc_N_takeAsk 0 = .ok (.aload_n 0, 1) := by decide +kernel
theorem qd_N_takeAsk_1 : decode qc_N_takeAsk 1 = .ok (.getfield 53, 3) := by decide +kernel
theorem qd_N_takeAsk_4 : decode qc_N_takeAsk 4 = .ok (.iconst 4, 1) := by decide +kernel
theorem qd_N_takeAsk_5 : decode qc_N_takeAsk 5 = .ok (.if_icmp .lt 4, 3) := by decide +kernel
theorem qd_N_takeAsk_8 : decode qc_N_takeAsk 8 = .ok (.return_, 1) := by decide +kernel
theorem qd_N_takeAsk_9 : decode qc_N_takeAsk 9 = .ok (.aload_n 0, 1) := by decide +kernel
theorem qd_N_takeAsk_10 : decode qc_N_takeAsk 10 = .ok (.getfield 13, 3) := by decide +kernel
theorem qd_N_takeAsk_13 : decode qc_N_takeAsk 13 = .ok (.aload_n 0, 1) := by decide +kernel
theorem qd_N_takeAsk_14 : decode qc_N_takeAsk 14 = .ok (.getfield 53, 3) := by decide +kernel
theorem qd_N_takeAsk_17 : decode qc_N_takeAsk 17 = .ok (.aaload, 1) := by decide +kernel
theorem qd_N_takeAsk_18 : decode qc_N_takeAsk 18 = .ok (.astore_n 2, 1) := by decide +kernel
theorem qd_N_takeAsk_19 : decode qc_N_takeAsk 19 = .ok (.aload_n 0, 1) := by decide +kernel
theorem qd_N_takeAsk_20 : decode qc_N_takeAsk 20 = .ok (.dup, 1) := by decide +kernel
theorem qd_N_takeAsk_21 : decode qc_N_takeAsk 21 = .ok (.getfield 53, 3) := by decide +kernel
theorem qd_N_takeAsk_24 : decode qc_N_takeAsk 24 = .ok (.iconst 1, 1) := by decide +kernel
theorem qd_N_takeAsk_25 : decode qc_N_takeAsk 25 = .ok (.iadd, 1) := by decide +kernel
theorem qd_N_takeAsk_26 : decode qc_N_takeAsk 26 = .ok (.putfield 53, 3) := by decide +kernel
theorem qd_N_takeAsk_29 : decode qc_N_takeAsk 29 = .ok (.aload_n 2, 1) := by decide +kernel
theorem qd_N_takeAsk_30 : decode qc_N_takeAsk 30 = .ok (.aload_n 1, 1) := by decide +kernel
theorem qd_N_takeAsk_31 : decode qc_N_takeAsk 31 = .ok (.getfield 141, 3) := by decide +kernel
theorem qd_N_takeAsk_34 : decode qc_N_takeAsk 34 = .ok (.putfield 196, 3) := by decide +kernel
theorem qd_N_takeAsk_37 : decode qc_N_takeAsk 37 = .ok (.aload_n 2, 1) := by decide +kernel
theorem qd_N_takeAsk_38 : decode qc_N_takeAsk 38 = .ok (.aload_n 1, 1) := by decide +kernel
theorem qd_N_takeAsk_39 : decode qc_N_takeAsk 39 = .ok (.getfield 144, 3) := by decide +kernel
theorem qd_N_takeAsk_42 : decode qc_N_takeAsk 42 = .ok (.putfield 197, 3) := by decide +kernel
theorem qd_N_takeAsk_45 : decode qc_N_takeAsk 45 = .ok (.aload_n 2, 1) := by decide +kernel
theorem qd_N_takeAsk_46 : decode qc_N_takeAsk 46 = .ok (.aload_n 1, 1) := by decide +kernel
theorem qd_N_takeAsk_47 : decode qc_N_takeAsk 47 = .ok (.getfield 147, 3) := by decide +kernel
theorem qd_N_takeAsk_50 : decode qc_N_takeAsk 50 = .ok (.putfield 198, 3) := by decide +kernel
theorem qd_N_takeAsk_53 : decode qc_N_takeAsk 53 = .ok (.aload_n 2, 1) := by decide +kernel
theorem qd_N_takeAsk_54 : decode qc_N_takeAsk 54 = .ok (.iconst 0, 1) := by decide +kernel
theorem qd_N_takeAsk_55 : decode qc_N_takeAsk 55 = .ok (.putfield 199, 3) := by decide +kernel
theorem qd_N_takeAsk_58 : decode qc_N_takeAsk 58 = .ok (.aload_n 0, 1) := by decide +kernel
theorem qd_N_takeAsk_59 : decode qc_N_takeAsk 59 = .ok (.iconst 1, 1) := by decide +kernel
theorem qd_N_takeAsk_60 : decode qc_N_takeAsk 60 = .ok (.aload_n 1, 1) := by decide +kernel
theorem qd_N_takeAsk_61 : decode qc_N_takeAsk 61 = .ok (.getfield 147, 3) := by decide +kernel
theorem qd_N_takeAsk_64 : decode qc_N_takeAsk 64 = .ok (.aload_n 1, 1) := by decide +kernel
theorem qd_N_takeAsk_65 : decode qc_N_takeAsk 65 = .ok (.getfield 141, 3) := by decide +kernel
theorem qd_N_takeAsk_68 : decode qc_N_takeAsk 68 = .ok (.aload_n 1, 1) := by decide +kernel
theorem qd_N_takeAsk_69 : decode qc_N_takeAsk 69 = .ok (.getfield 144, 3) := by decide +kernel
theorem qd_N_takeAsk_72 : decode qc_N_takeAsk 72 = .ok (.aload_n 1, 1) := by decide +kernel
theorem qd_N_takeAsk_73 : decode qc_N_takeAsk 73 = .ok (.getfield 147, 3) := by decide +kernel
theorem qd_N_takeAsk_76 : decode qc_N_takeAsk 76 = .ok (.invokevirtual 89, 3) := by decide +kernel
theorem qd_N_takeAsk_79 : decode qc_N_takeAsk 79 = .ok (.return_, 1) := by decide +kernel
theorem qd_N_timer_0 : decode qc_N_timer 0 = .ok (.aload_n 0, 1) := by decide +kernel
theorem qd_N_timer_1 : decode qc_N_timer 1 = .ok (.invokevirtual 202, 3) := by decide +kernel
theorem qd_N_timer_4 : decode qc_N_timer 4 = .ok (.aload_n 0, 1) := by decide +kernel
theorem qd_N_timer_5 : decode qc_N_timer 5 = .ok (.iload_n 1, 1) := by decide +kernel
theorem qd_N_timer_6 : decode qc_N_timer 6 = .ok (.invokevirtual 205, 3) := by decide +kernel
theorem qd_N_timer_9 : decode qc_N_timer 9 = .ok (.aload_n 0, 1) := by decide +kernel
theorem qd_N_timer_10 : decode qc_N_timer 10 = .ok (.getfield 62, 3) := by decide +kernel
theorem qd_N_timer_13 : decode qc_N_timer 13 = .ok (.iconst (-1), 1) := by decide +kernel
theorem qd_N_timer_14 : decode qc_N_timer 14 = .ok (.if_icmp .ne 10, 3) := by decide +kernel
theorem qd_N_timer_17 : decode qc_N_timer 17 = .ok (.aload_n 0, 1) := by decide +kernel
theorem qd_N_timer_18 : decode qc_N_timer 18 = .ok (.invokevirtual 208, 3) := by decide +kernel
theorem qd_N_timer_21 : decode qc_N_timer 21 = .ok (.goto 8, 3) := by decide +kernel
theorem qd_N_timer_24 : decode qc_N_timer 24 = .ok (.aload_n 0, 1) := by decide +kernel
theorem qd_N_timer_25 : decode qc_N_timer 25 = .ok (.iload_n 1, 1) := by decide +kernel
theorem qd_N_timer_26 : decode qc_N_timer 26 = .ok (.invokevirtual 211, 3) := by decide +kernel
theorem qd_N_timer_29 : decode qc_N_timer 29 = .ok (.iload_n 1, 1) := by decide +kernel
theorem qd_N_timer_30 : decode qc_N_timer 30 = .ok (.aload_n 0, 1) := by decide +kernel
theorem qd_N_timer_31 : decode qc_N_timer 31 = .ok (.getfield 47, 3) := by decide +kernel
theorem qd_N_timer_34 : decode qc_N_timer 34 = .ok (.isub, 1) := by decide +kernel
theorem qd_N_timer_35 : decode qc_N_timer 35 = .ok (.bipush 20, 2) := by decide +kernel
theorem qd_N_timer_37 : decode qc_N_timer 37 = .ok (.irem, 1) := by decide +kernel
theorem qd_N_timer_38 : decode qc_N_timer 38 = .ok (.ifCond .ne 7, 3) := by decide +kernel
theorem qd_N_timer_41 : decode qc_N_timer 41 = .ok (.aload_n 0, 1) := by decide +kernel
theorem qd_N_timer_42 : decode qc_N_timer 42 = .ok (.invokevirtual 214, 3) := by decide +kernel
theorem qd_N_timer_45 : decode qc_N_timer 45 = .ok (.return_, 1) := by decide +kernel
theorem qd_N_ageRelays_0 : decode qc_N_ageRelays 0 = .ok (.aload_n 0, 1) := by decide +kernel
theorem qd_N_ageRelays_1 : decode qc_N_ageRelays 1 = .ok (.getfield 53, 3) := by decide +kernel
theorem qd_N_ageRelays_4 : decode qc_N_ageRelays 4 = .ok (.istore_n 1, 1) := by decide +kernel
theorem qd_N_ageRelays_5 : decode qc_N_ageRelays 5 = .ok (.iconst 0, 1) := by decide +kernel
theorem qd_N_ageRelays_6 : decode qc_N_ageRelays 6 = .ok (.istore_n 2, 1) := by decide +kernel
theorem qd_N_ageRelays_7 : decode qc_N_ageRelays 7 = .ok (.iconst 0, 1) := by decide +kernel
theorem qd_N_ageRelays_8 : decode qc_N_ageRelays 8 = .ok (.istore_n 3, 1) := by decide +kernel
theorem qd_N_ageRelays_9 : decode qc_N_ageRelays 9 = .ok (.iload_n 3, 1) := by decide +kernel
theorem qd_N_ageRelays_10 : decode qc_N_ageRelays 10 = .ok (.iload_n 1, 1) := by decide +kernel
theorem qd_N_ageRelays_11 : decode qc_N_ageRelays 11 = .ok (.if_icmp .ge 74, 3) := by decide +kernel
theorem qd_N_ageRelays_14 : decode qc_N_ageRelays 14 = .ok (.aload_n 0, 1) := by decide +kernel
theorem qd_N_ageRelays_15 : decode qc_N_ageRelays 15 = .ok (.getfield 13, 3) := by decide +kernel
theorem qd_N_ageRelays_18 : decode qc_N_ageRelays 18 = .ok (.iload_n 3, 1) := by decide +kernel
theorem qd_N_ageRelays_19 : decode qc_N_ageRelays 19 = .ok (.iload_n 2, 1) := by decide +kernel
theorem qd_N_ageRelays_20 : decode qc_N_ageRelays 20 = .ok (.isub, 1) := by decide +kernel
theorem qd_N_ageRelays_21 : decode qc_N_ageRelays 21 = .ok (.aaload, 1) := by decide +kernel
theorem qd_N_ageRelays_22 : decode qc_N_ageRelays 22 = .ok (.astore 4, 2) := by decide +kernel
theorem qd_N_ageRelays_24 : decode qc_N_ageRelays 24 = .ok (.aload 4, 2) := by decide +kernel
theorem qd_N_ageRelays_26 : decode qc_N_ageRelays 26 = .ok (.dup, 1) := by decide +kernel
theorem qd_N_ageRelays_27 : decode qc_N_ageRelays 27 = .ok (.getfield 199, 3) := by decide +kernel
theorem qd_N_ageRelays_30 : decode qc_N_ageRelays 30 = .ok (.iconst 1, 1) := by decide +kernel
theorem qd_N_ageRelays_31 : decode qc_N_ageRelays 31 = .ok (.iadd, 1) := by decide +kernel
theorem qd_N_ageRelays_32 : decode qc_N_ageRelays 32 = .ok (.putfield 199, 3) := by decide +kernel
theorem qd_N_ageRelays_35 : decode qc_N_ageRelays 35 = .ok (.aload 4, 2) := by decide +kernel
theorem qd_N_ageRelays_37 : decode qc_N_ageRelays 37 = .ok (.getfield 199, 3) := by decide +kernel
theorem qd_N_ageRelays_40 : decode qc_N_ageRelays 40 = .ok (.iconst 3, 1) := by decide +kernel
theorem qd_N_ageRelays_41 : decode qc_N_ageRelays 41 = .ok (.if_icmp .lt 38, 3) := by decide +kernel
theorem qd_N_ageRelays_44 : decode qc_N_ageRelays 44 = .ok (.aload_n 0, 1) := by decide +kernel
theorem qd_N_ageRelays_45 : decode qc_N_ageRelays 45 = .ok (.iload_n 3, 1) := by decide +kernel
theorem qd_N_ageRelays_46 : decode qc_N_ageRelays 46 = .ok (.iload_n 2, 1) := by decide +kernel
theorem qd_N_ageRelays_47 : decode qc_N_ageRelays 47 = .ok (.isub, 1) := by decide +kernel
theorem qd_N_ageRelays_48 : decode qc_N_ageRelays 48 = .ok (.invokevirtual 193, 3) := by decide +kernel
theorem qd_N_ageRelays_51 : decode qc_N_ageRelays 51 = .ok (.iinc 2 1, 3) := by decide +kernel
theorem qd_N_ageRelays_54 : decode qc_N_ageRelays 54 = .ok (.aload_n 0, 1) := by decide +kernel
theorem qd_N_ageRelays_55 : decode qc_N_ageRelays 55 = .ok (.iconst 4, 1) := by decide +kernel
theorem qd_N_ageRelays_56 : decode qc_N_ageRelays 56 = .ok (.aload 4, 2) := by decide +kernel
theorem qd_N_ageRelays_58 : decode qc_N_ageRelays 58 = .ok (.getfield 197, 3) := by decide +kernel
theorem qd_N_ageRelays_61 : decode qc_N_ageRelays 61 = .ok (.aload 4, 2) := by decide +kernel
theorem qd_N_ageRelays_63 : decode qc_N_ageRelays 63 = .ok (.getfield 196, 3) := by decide +kernel
theorem qd_N_ageRelays_66 : decode qc_N_ageRelays 66 = .ok (.aload 4, 2) := by decide +kernel
theorem qd_N_ageRelays_68 : decode qc_N_ageRelays 68 = .ok (.getfield 197, 3) := by decide +kernel
theorem qd_N_ageRelays_71 : decode qc_N_ageRelays 71 = .ok (.aload 4, 2) := by decide +kernel
theorem qd_N_ageRelays_73 : decode qc_N_ageRelays 73 = .ok (.getfield 198, 3) := by decide +kernel
theorem qd_N_ageRelays_76 : decode qc_N_ageRelays 76 = .ok (.invokevirtual 89, 3) := by decide +kernel
theorem qd_N_ageRelays_79 : decode qc_N_ageRelays 79 = .ok (.iinc 3 1, 3) := by decide +kernel
theorem qd_N_ageRelays_82 : decode qc_N_ageRelays 82 = .ok (.goto (-73), 3) := by decide +kernel
theorem qd_N_ageRelays_85 : decode qc_N_ageRelays 85 = .ok (.return_, 1) := by decide +kernel
theorem qd_N_buryOverdue_0 : decode qc_N_buryOverdue 0 = .ok (.iconst 0, 1) := by decide +kernel
theorem qd_N_buryOverdue_1 : decode qc_N_buryOverdue 1 = .ok (.istore_n 2, 1) := by decide +kernel
theorem qd_N_buryOverdue_2 : decode qc_N_buryOverdue 2 = .ok (.iload_n 2, 1) := by decide +kernel
theorem qd_N_buryOverdue_3 : decode qc_N_buryOverdue 3 = .ok (.aload_n 0, 1) := by decide +kernel
theorem qd_N_buryOverdue_4 : decode qc_N_buryOverdue 4 = .ok (.getfield 21, 3) := by decide +kernel
theorem qd_N_buryOverdue_7 : decode qc_N_buryOverdue 7 = .ok (.if_icmp .ge 72, 3) := by decide +kernel
theorem qd_N_buryOverdue_10 : decode qc_N_buryOverdue 10 = .ok (.aload_n 0, 1) := by decide +kernel
theorem qd_N_buryOverdue_11 : decode qc_N_buryOverdue 11 = .ok (.getfield 30, 3) := by decide +kernel
theorem qd_N_buryOverdue_14 : decode qc_N_buryOverdue 14 = .ok (.iload_n 2, 1) := by decide +kernel
theorem qd_N_buryOverdue_15 : decode qc_N_buryOverdue 15 = .ok (.aaload, 1) := by decide +kernel
theorem qd_N_buryOverdue_16 : decode qc_N_buryOverdue 16 = .ok (.astore_n 3, 1) := by decide +kernel
theorem qd_N_buryOverdue_17 : decode qc_N_buryOverdue 17 = .ok (.iload_n 2, 1) := by decide +kernel
theorem qd_N_buryOverdue_18 : decode qc_N_buryOverdue 18 = .ok (.aload_n 0, 1) := by decide +kernel
theorem qd_N_buryOverdue_19 : decode qc_N_buryOverdue 19 = .ok (.getfield 17, 3) := by decide +kernel
theorem qd_N_buryOverdue_22 : decode qc_N_buryOverdue 22 = .ok (.if_icmp .eq 51, 3) := by decide +kernel
theorem qd_N_buryOverdue_25 : decode qc_N_buryOverdue 25 = .ok (.aload_n 3, 1) := by decide +kernel
theorem qd_N_buryOverdue_26 : decode qc_N_buryOverdue 26 = .ok (.getfield 86, 3) := by decide +kernel
theorem qd_N_buryOverdue_29 : decode qc_N_buryOverdue 29 = .ok (.iconst 2, 1) := by decide +kernel
theorem qd_N_buryOverdue_30 : decode qc_N_buryOverdue 30 = .ok (.if_icmp .ne 43, 3) := by decide +kernel
theorem qd_N_buryOverdue_33 : decode qc_N_buryOverdue 33 = .ok (.iconst 3, 1) := by decide +kernel
theorem qd_N_buryOverdue_34 : decode qc_N_buryOverdue 34 = .ok (.aload_n 3, 1) := by decide +kernel
theorem qd_N_buryOverdue_35 : decode qc_N_buryOverdue 35 = .ok (.getfield 174, 3) := by decide +kernel
theorem qd_N_buryOverdue_38 : decode qc_N_buryOverdue 38 = .ok (.invokestatic 217, 3) := by decide +kernel
theorem qd_N_buryOverdue_41 : decode qc_N_buryOverdue 41 = .ok (.invokestatic 184, 3) := by decide +kernel
theorem qd_N_buryOverdue_44 : decode qc_N_buryOverdue 44 = .ok (.istore 4, 2) := by decide +kernel
theorem qd_N_buryOverdue_46 : decode qc_N_buryOverdue 46 = .ok (.iload_n 1, 1) := by decide +kernel
theorem qd_N_buryOverdue_47 : decode qc_N_buryOverdue 47 = .ok (.aload_n 3, 1) := by decide +kernel
theorem qd_N_buryOverdue_48 : decode qc_N_buryOverdue 48 = .ok (.getfield 222, 3) := by decide +kernel
theorem qd_N_buryOverdue_51 : decode qc_N_buryOverdue 51 = .ok (.isub, 1) := by decide +kernel
theorem qd_N_buryOverdue_52 : decode qc_N_buryOverdue 52 = .ok (.bipush 24, 2) := by decide +kernel
theorem qd_N_buryOverdue_54 : decode qc_N_buryOverdue 54 = .ok (.bipush 6, 2) := by decide +kernel
theorem qd_N_buryOverdue_56 : decode qc_N_buryOverdue 56 = .ok (.iload 4, 2) := by decide +kernel
theorem qd_N_buryOverdue_58 : decode qc_N_buryOverdue 58 = .ok (.imul, 1) := by decide +kernel
theorem qd_N_buryOverdue_59 : decode qc_N_buryOverdue 59 = .ok (.isub, 1) := by decide +kernel
theorem qd_N_buryOverdue_60 : decode qc_N_buryOverdue 60 = .ok (.if_icmp .lt 13, 3) := by decide +kernel
theorem qd_N_buryOverdue_63 : decode qc_N_buryOverdue 63 = .ok (.aload_n 3, 1) := by decide +kernel
theorem qd_N_buryOverdue_64 : decode qc_N_buryOverdue 64 = .ok (.iconst 3, 1) := by decide +kernel
theorem qd_N_buryOverdue_65 : decode qc_N_buryOverdue 65 = .ok (.aload_n 3, 1) := by decide +kernel
theorem qd_N_buryOverdue_66 : decode qc_N_buryOverdue 66 = .ok (.getfield 83, 3) := by decide +kernel
theorem qd_N_buryOverdue_69 : decode qc_N_buryOverdue 69 = .ok (.iload_n 1, 1) := by decide +kernel
theorem qd_N_buryOverdue_70 : decode qc_N_buryOverdue 70 = .ok (.invokevirtual 39, 3) := by decide +kernel
theorem qd_N_buryOverdue_73 : decode qc_N_buryOverdue 73 = .ok (.iinc 2 1, 3) := by decide +kernel
theorem qd_N_buryOverdue_76 : decode qc_N_buryOverdue 76 = .ok (.goto (-74), 3) := by decide +kernel
theorem qd_N_buryOverdue_79 : decode qc_N_buryOverdue 79 = .ok (.return_, 1) := by decide +kernel
theorem qd_N_restOrProbe_0 : decode qc_N_restOrProbe 0 = .ok (.aload_n 0, 1) := by decide +kernel
theorem qd_N_restOrProbe_1 : decode qc_N_restOrProbe 1 = .ok (.dup, 1) := by decide +kernel
theorem qd_N_restOrProbe_2 : decode qc_N_restOrProbe 2 = .ok (.getfield 56, 3) := by decide +kernel
theorem qd_N_restOrProbe_5 : decode qc_N_restOrProbe 5 = .ok (.iconst 1, 1) := by decide +kernel
theorem qd_N_restOrProbe_6 : decode qc_N_restOrProbe 6 = .ok (.isub, 1) := by decide +kernel
theorem qd_N_restOrProbe_7 : decode qc_N_restOrProbe 7 = .ok (.putfield 56, 3) := by decide +kernel
theorem qd_N_restOrProbe_10 : decode qc_N_restOrProbe 10 = .ok (.aload_n 0, 1) := by decide +kernel
theorem qd_N_restOrProbe_11 : decode qc_N_restOrProbe 11 = .ok (.getfield 56, 3) := by decide +kernel
theorem qd_N_restOrProbe_14 : decode qc_N_restOrProbe 14 = .ok (.ifCond .le 4, 3) := by decide +kernel
theorem qd_N_restOrProbe_17 : decode qc_N_restOrProbe 17 = .ok (.return_, 1) := by decide +kernel
theorem qd_N_restOrProbe_18 : decode qc_N_restOrProbe 18 = .ok (.aload_n 0, 1) := by decide +kernel
theorem qd_N_restOrProbe_19 : decode qc_N_restOrProbe 19 = .ok (.aload_n 0, 1) := by decide +kernel
theorem qd_N_restOrProbe_20 : decode qc_N_restOrProbe 20 = .ok (.getfield 65, 3) := by decide +kernel
theorem qd_N_restOrProbe_23 : decode qc_N_restOrProbe 23 = .ok (.iconst 2, 1) := by decide +kernel
theorem qd_N_restOrProbe_24 : decode qc_N_restOrProbe 24 = .ok (.invokevirtual 225, 3) := by decide +kernel
theorem qd_N_restOrProbe_27 : decode qc_N_restOrProbe 27 = .ok (.istore_n 1, 1) := by decide +kernel
theorem qd_N_restOrProbe_28 : decode qc_N_restOrProbe 28 = .ok (.iload_n 1, 1) := by decide +kernel
theorem qd_N_restOrProbe_29 : decode qc_N_restOrProbe 29 = .ok (.iconst (-1), 1) := by decide +kernel
theorem qd_N_restOrProbe_30 : decode qc_N_restOrProbe 30 = .ok (.if_icmp .ne 9, 3) := by decide +kernel
theorem qd_N_restOrProbe_33 : decode qc_N_restOrProbe 33 = .ok (.aload_n 0, 1) := by decide +kernel
theorem qd_N_restOrProbe_34 : decode qc_N_restOrProbe 34 = .ok (.iconst 3, 1) := by decide +kernel
theorem qd_N_restOrProbe_35 : decode qc_N_restOrProbe 35 = .ok (.putfield 56, 3) := by decide +kernel
theorem qd_N_restOrProbe_38 : decode qc_N_restOrProbe 38 = .ok (.return_, 1) := by decide +kernel
theorem qd_N_restOrProbe_39 : decode qc_N_restOrProbe 39 = .ok (.aload_n 0, 1) := by decide +kernel
theorem qd_N_restOrProbe_40 : decode qc_N_restOrProbe 40 = .ok (.iload_n 1, 1) := by decide +kernel
theorem qd_N_restOrProbe_41 : decode qc_N_restOrProbe 41 = .ok (.putfield 62, 3) := by decide +kernel
theorem qd_N_restOrProbe_44 : decode qc_N_restOrProbe 44 = .ok (.aload_n 0, 1) := by decide +kernel
theorem qd_N_restOrProbe_45 : decode qc_N_restOrProbe 45 = .ok (.iload_n 1, 1) := by decide +kernel
theorem qd_N_restOrProbe_46 : decode qc_N_restOrProbe 46 = .ok (.putfield 65, 3) := by decide +kernel
theorem qd_N_restOrProbe_49 : decode qc_N_restOrProbe 49 = .ok (.aload_n 0, 1) := by decide +kernel
theorem qd_N_restOrProbe_50 : decode qc_N_restOrProbe 50 = .ok (.dup, 1) := by decide +kernel
theorem qd_N_restOrProbe_51 : decode qc_N_restOrProbe 51 = .ok (.getfield 59, 3) := by decide +kernel
theorem qd_N_restOrProbe_54 : decode qc_N_restOrProbe 54 = .ok (.iconst 1, 1) := by decide +kernel
theorem qd_N_restOrProbe_55 : decode qc_N_restOrProbe 55 = .ok (.iadd, 1) := by decide +kernel
theorem qd_N_restOrProbe_56 : decode qc_N_restOrProbe 56 = .ok (.putfield 59, 3) := by decide +kernel
theorem qd_N_restOrProbe_59 : decode qc_N_restOrProbe 59 = .ok (.aload_n 0, 1) := by decide +kernel
theorem qd_N_restOrProbe_60 : decode qc_N_restOrProbe 60 = .ok (.iconst 0, 1) := by decide +kernel
theorem qd_N_restOrProbe_61 : decode qc_N_restOrProbe 61 = .ok (.putfield 68, 3) := by decide +kernel
theorem qd_N_restOrProbe_64 : decode qc_N_restOrProbe 64 = .ok (.aload_n 0, 1) := by decide +kernel
theorem qd_N_restOrProbe_65 : decode qc_N_restOrProbe 65 = .ok (.iconst 0, 1) := by decide +kernel
theorem qd_N_restOrProbe_66 : decode qc_N_restOrProbe 66 = .ok (.putfield 71, 3) := by decide +kernel
theorem qd_N_restOrProbe_69 : decode qc_N_restOrProbe 69 = .ok (.aload_n 0, 1) := by decide +kernel
theorem qd_N_restOrProbe_70 : decode qc_N_restOrProbe 70 = .ok (.iconst 0, 1) := by decide +kernel
theorem qd_N_restOrProbe_71 : decode qc_N_restOrProbe 71 = .ok (.putfield 74, 3) := by decide +kernel
theorem qd_N_restOrProbe_74 : decode qc_N_restOrProbe 74 = .ok (.aload_n 0, 1) := by decide +kernel
theorem qd_N_restOrProbe_75 : decode qc_N_restOrProbe 75 = .ok (.iconst 0, 1) := by decide +kernel
theorem qd_N_restOrProbe_76 : decode qc_N_restOrProbe 76 = .ok (.putfield 77, 3) := by decide +kernel
theorem qd_N_restOrProbe_79 : decode qc_N_restOrProbe 79 = .ok (.aload_n 0, 1) := by decide +kernel
theorem qd_N_restOrProbe_80 : decode qc_N_restOrProbe 80 = .ok (.iconst 1, 1) := by decide +kernel
theorem qd_N_restOrProbe_81 : decode qc_N_restOrProbe 81 = .ok (.iload_n 1, 1) := by decide +kernel
theorem qd_N_restOrProbe_82 : decode qc_N_restOrProbe 82 = .ok (.aload_n 0, 1) := by decide +kernel
theorem qd_N_restOrProbe_83 : decode qc_N_restOrProbe 83 = .ok (.getfield 59, 3) := by decide +kernel
theorem qd_N_restOrProbe_86 : decode qc_N_restOrProbe 86 = .ok (.aload_n 0, 1) := by decide +kernel
theorem qd_N_restOrProbe_87 : decode qc_N_restOrProbe 87 = .ok (.getfield 17, 3) := by decide +kernel
theorem qd_N_restOrProbe_90 : decode qc_N_restOrProbe 90 = .ok (.iload_n 1, 1) := by decide +kernel
theorem qd_N_restOrProbe_91 : decode qc_N_restOrProbe 91 = .ok (.invokevirtual 89, 3) := by decide +kernel
theorem qd_N_restOrProbe_94 : decode qc_N_restOrProbe 94 = .ok (.return_, 1) := by decide +kernel
theorem qd_N_nextBehind_0 : decode qc_N_nextBehind 0 = .ok (.iconst 1, 1) := by decide +kernel
theorem qd_N_nextBehind_1 : decode qc_N_nextBehind 1 = .ok (.istore_n 3, 1) := by decide +kernel
theorem qd_N_nextBehind_2 : decode qc_N_nextBehind 2 = .ok (.iload_n 3, 1) := by decide +kernel
theorem qd_N_nextBehind_3 : decode qc_N_nextBehind 3 = .ok (.aload_n 0, 1) := by decide +kernel
theorem qd_N_nextBehind_4 : decode qc_N_nextBehind 4 = .ok (.getfield 21, 3) := by decide +kernel
theorem qd_N_nextBehind_7 : decode qc_N_nextBehind 7 = .ok (.if_icmp .gt 58, 3) := by decide +kernel
theorem qd_N_nextBehind_10 : decode qc_N_nextBehind 10 = .ok (.iload_n 1, 1) := by decide +kernel
theorem qd_N_nextBehind_11 : decode qc_N_nextBehind 11 = .ok (.iload_n 3, 1) := by decide +kernel
theorem qd_N_nextBehind_12 : decode qc_N_nextBehind 12 = .ok (.iadd, 1) := by decide +kernel
theorem qd_N_nextBehind_13 : decode qc_N_nextBehind 13 = .ok (.aload_n 0, 1) := by decide +kernel
theorem qd_N_nextBehind_14 : decode qc_N_nextBehind 14 = .ok (.getfield 21, 3) := by decide +kernel
theorem qd_N_nextBehind_17 : decode qc_N_nextBehind 17 = .ok (.irem, 1) := by decide +kernel
theorem qd_N_nextBehind_18 : decode qc_N_nextBehind 18 = .ok (.istore 4, 2) := by decide +kernel
theorem qd_N_nextBehind_20 : decode qc_N_nextBehind 20 = .ok (.iload 4, 2) := by decide +kernel
theorem qd_N_nextBehind_22 : decode qc_N_nextBehind 22 = .ok (.aload_n 0, 1) := by decide +kernel
theorem qd_N_nextBehind_23 : decode qc_N_nextBehind 23 = .ok (.getfield 17, 3) := by decide +kernel
theorem qd_N_nextBehind_26 : decode qc_N_nextBehind 26 = .ok (.if_icmp .eq 33, 3) := by decide +kernel
theorem qd_N_nextBehind_29 : decode qc_N_nextBehind 29 = .ok (.aload_n 0, 1) := by decide +kernel
theorem qd_N_nextBehind_30 : decode qc_N_nextBehind 30 = .ok (.getfield 30, 3) := by decide +kernel
theorem qd_N_nextBehind_33 : decode qc_N_nextBehind 33 = .ok (.iload 4, 2) := by decide +kernel
theorem qd_N_nextBehind_35 : decode qc_N_nextBehind 35 = .ok (.aaload, 1) := by decide +kernel
theorem qd_N_nextBehind_36 : decode qc_N_nextBehind 36 = .ok (.getfield 86, 3) := by decide +kernel
theorem qd_N_nextBehind_39 : decode qc_N_nextBehind 39 = .ok (.ifCond .eq 20, 3) := by decide +kernel
theorem qd_N_nextBehind_42 : decode qc_N_nextBehind 42 = .ok (.aload_n 0, 1) := by decide +kernel
theorem qd_N_nextBehind_43 : decode qc_N_nextBehind 43 = .ok (.getfield 30, 3) := by decide +kernel
theorem qd_N_nextBehind_46 : decode qc_N_nextBehind 46 = .ok (.iload 4, 2) := by decide +kernel
theorem qd_N_nextBehind_48 : decode qc_N_nextBehind 48 = .ok (.aaload, 1) := by decide +kernel
theorem qd_N_nextBehind_49 : decode qc_N_nextBehind 49 = .ok (.getfield 86, 3) := by decide +kernel
theorem qd_N_nextBehind_52 : decode qc_N_nextBehind 52 = .ok (.iload_n 2, 1) := by decide +kernel
theorem qd_N_nextBehind_53 : decode qc_N_nextBehind 53 = .ok (.if_icmp .gt 6, 3) := by decide +kernel
theorem qd_N_nextBehind_56 : decode qc_N_nextBehind 56 = .ok (.iload 4, 2) := by decide +kernel
theorem qd_N_nextBehind_58 : decode qc_N_nextBehind 58 = .ok (.ireturn, 1) := by decide +kernel
theorem qd_N_nextBehind_59 : decode qc_N_nextBehind 59 = .ok (.iinc 3 1, 3) := by decide +kernel
theorem qd_N_nextBehind_62 : decode qc_N_nextBehind 62 = .ok (.goto (-60), 3) := by decide +kernel
theorem qd_N_nextBehind_65 : decode qc_N_nextBehind 65 = .ok (.iconst (-1), 1) := by decide +kernel
theorem qd_N_nextBehind_66 : decode qc_N_nextBehind 66 = .ok (.ireturn, 1) := by decide +kernel
theorem qd_N_goOnProbing_0 : decode qc_N_goOnProbing 0 = .ok (.aload_n 0, 1) := by decide +kernel
theorem qd_N_goOnProbing_1 : decode qc_N_goOnProbing 1 = .ok (.dup, 1) := by decide +kernel
theorem qd_N_goOnProbing_2 : decode qc_N_goOnProbing 2 = .ok (.getfield 68, 3) := by decide +kernel
theorem qd_N_goOnProbing_5 : decode qc_N_goOnProbing 5 = .ok (.iconst 1, 1) := by decide +kernel
theorem qd_N_goOnProbing_6 : decode qc_N_goOnProbing 6 = .ok (.iadd, 1) := by decide +kernel
theorem qd_N_goOnProbing_7 : decode qc_N_goOnProbing 7 = .ok (.putfield 68, 3) := by decide +kernel
theorem qd_N_goOnProbing_10 : decode qc_N_goOnProbing 10 = .ok (.aload_n 0, 1) := by decide +kernel
theorem qd_N_goOnProbing_11 : decode qc_N_goOnProbing 11 = .ok (.getfield 68, 3) := by decide +kernel
theorem qd_N_goOnProbing_14 : decode qc_N_goOnProbing 14 = .ok (.iconst 3, 1) := by decide +kernel
theorem qd_N_goOnProbing_15 : decode qc_N_goOnProbing 15 = .ok (.if_icmp .ne 14, 3) := by decide +kernel
theorem qd_N_goOnProbing_18 : decode qc_N_goOnProbing 18 = .ok (.aload_n 0, 1) := by decide +kernel
theorem qd_N_goOnProbing_19 : decode qc_N_goOnProbing 19 = .ok (.getfield 71, 3) := by decide +kernel
theorem qd_N_goOnProbing_22 : decode qc_N_goOnProbing 22 = .ok (.ifCond .ne 7, 3) := by decide +kernel
theorem qd_N_goOnProbing_25 : decode qc_N_goOnProbing 25 = .ok (.aload_n 0, 1) := by decide +kernel
theorem qd_N_goOnProbing_26 : decode qc_N_goOnProbing 26 = .ok (.invokevirtual 228, 3) := by decide +kernel
theorem qd_N_goOnProbing_29 : decode qc_N_goOnProbing 29 = .ok (.aload_n 0, 1) := by decide +kernel
theorem qd_N_goOnProbing_30 : decode qc_N_goOnProbing 30 = .ok (.getfield 68, 3) := by decide +kernel
theorem qd_N_goOnProbing_33 : decode qc_N_goOnProbing 33 = .ok (.bipush 8, 2) := by decide +kernel
theorem qd_N_goOnProbing_35 : decode qc_N_goOnProbing 35 = .ok (.if_icmp .lt 8, 3) := by decide +kernel
theorem qd_N_goOnProbing_38 : decode qc_N_goOnProbing 38 = .ok (.aload_n 0, 1) := by decide +kernel
theorem qd_N_goOnProbing_39 : decode qc_N_goOnProbing 39 = .ok (.iload_n 1, 1) := by decide +kernel
theorem qd_N_goOnProbing_40 : decode qc_N_goOnProbing 40 = .ok (.invokevirtual 231, 3) := by decide +kernel
theorem qd_N_goOnProbing_43 : decode qc_N_goOnProbing 43 = .ok (.return_, 1) := by decide +kernel
theorem qd_N_askOthers_0 : decode qc_N_askOthers 0 = .ok (.iconst 1, 1) := by decide +kernel
theorem qd_N_askOthers_1 : decode qc_N_askOthers 1 = .ok (.istore_n 1, 1) := by decide +kernel
theorem qd_N_askOthers_2 : decode qc_N_askOthers 2 = .ok (.iload_n 1, 1) := by decide +kernel
theorem qd_N_askOthers_3 : decode qc_N_askOthers 3 = .ok (.aload_n 0, 1) := by decide +kernel
theorem qd_N_askOthers_4 : decode qc_N_askOthers 4 = .ok (.getfield 21, 3) := by decide +kernel
theorem qd_N_askOthers_7 : decode qc_N_askOthers 7 = .ok (.if_icmp .ge 78, 3) := by decide +kernel
theorem qd_N_askOthers_10 : decode qc_N_askOthers 10 = .ok (.aload_n 0, 1) := by decide +kernel
theorem qd_N_askOthers_11 : decode qc_N_askOthers 11 = .ok (.getfield 74, 3) := by decide +kernel
theorem qd_N_askOthers_14 : decode qc_N_askOthers 14 = .ok (.iconst 2, 1) := by decide +kernel
theorem qd_N_askOthers_15 : decode qc_N_askOthers 15 = .ok (.if_icmp .ge 70, 3) := by decide +kernel
theorem qd_N_askOthers_18 : decode qc_N_askOthers 18 = .ok (.aload_n 0, 1) := by decide +kernel
theorem qd_N_askOthers_19 : decode qc_N_askOthers 19 = .ok (.getfield 62, 3) := by decide +kernel
theorem qd_N_askOthers_22 : decode qc_N_askOthers 22 = .ok (.iload_n 1, 1) := by decide +kernel
theorem qd_N_askOthers_23 : decode qc_N_askOthers 23 = .ok (.iadd, 1) := by decide +kernel
theorem qd_N_askOthers_24 : decode qc_N_askOthers 24 = .ok (.aload_n 0, 1) := by decide +kernel
theorem qd_N_askOthers_25 : decode qc_N_askOthers 25 = .ok (.getfield 21, 3) := by decide +kernel
theorem qd_N_askOthers_28 : decode qc_N_askOthers 28 = .ok (.irem, 1) := by decide +kernel
theorem qd_N_askOthers_29 : decode qc_N_askOthers 29 = .ok (.istore_n 2, 1) := by decide +kernel
theorem qd_N_askOthers_30 : decode qc_N_askOthers 30 = .ok (.iload_n 2, 1) := by decide +kernel
theorem qd_N_askOthers_31 : decode qc_N_askOthers 31 = .ok (.aload_n 0, 1) := by decide +kernel
theorem qd_N_askOthers_32 : decode qc_N_askOthers 32 = .ok (.getfield 17, 3) := by decide +kernel
theorem qd_N_askOthers_35 : decode qc_N_askOthers 35 = .ok (.if_icmp .eq 44, 3) := by decide +kernel
theorem qd_N_askOthers_38 : decode qc_N_askOthers 38 = .ok (.aload_n 0, 1) := by decide +kernel
theorem qd_N_askOthers_39 : decode qc_N_askOthers 39 = .ok (.getfield 30, 3) := by decide +kernel
theorem qd_N_askOthers_42 : decode qc_N_askOthers 42 = .ok (.iload_n 2, 1) := by decide +kernel
theorem qd_N_askOthers_43 : decode qc_N_askOthers 43 = .ok (.aaload, 1) := by decide +kernel
theorem qd_N_askOthers_44 : decode qc_N_askOthers 44 = .ok (.getfield 86, 3) := by decide +kernel
theorem qd_N_askOthers_47 : decode qc_N_askOthers 47 = .ok (.iconst 1, 1) := by decide +kernel
theorem qd_N_askOthers_48 : decode qc_N_askOthers 48 = .ok (.if_icmp .ne 31, 3) := by decide +kernel
theorem qd_N_askOthers_51 : decode qc_N_askOthers 51 = .ok (.aload_n 0, 1) := by decide +kernel
theorem qd_N_askOthers_52 : decode qc_N_askOthers 52 = .ok (.iconst 3, 1) := by decide +kernel
theorem qd_N_askOthers_53 : decode qc_N_askOthers 53 = .ok (.iload_n 2, 1) := by decide +kernel
theorem qd_N_askOthers_54 : decode qc_N_askOthers 54 = .ok (.aload_n 0, 1) := by decide +kernel
theorem qd_N_askOthers_55 : decode qc_N_askOthers 55 = .ok (.getfield 59, 3) := by decide +kernel
theorem qd_N_askOthers_58 : decode qc_N_askOthers 58 = .ok (.aload_n 0, 1) := by decide +kernel
theorem qd_N_askOthers_59 : decode qc_N_askOthers 59 = .ok (.getfield 17, 3) := by decide +kernel
theorem qd_N_askOthers_62 : decode qc_N_askOthers 62 = .ok (.aload_n 0, 1) := by decide +kernel
theorem qd_N_askOthers_63 : decode qc_N_askOthers 63 = .ok (.getfield 62, 3) := by decide +kernel
theorem qd_N_askOthers_66 : decode qc_N_askOthers 66 = .ok (.invokevirtual 89, 3) := by decide +kernel
theorem qd_N_askOthers_69 : decode qc_N_askOthers 69 = .ok (.aload_n 0, 1) := by decide +kernel
theorem qd_N_askOthers_70 : decode qc_N_askOthers 70 = .ok (.dup, 1) := by decide +kernel
theorem qd_N_askOthers_71 : decode qc_N_askOthers 71 = .ok (.getfield 74, 3) := by decide +kernel
theorem qd_N_askOthers_74 : decode qc_N_askOthers 74 = .ok (.iconst 1, 1) := by decide +kernel
theorem qd_N_askOthers_75 : decode qc_N_askOthers 75 = .ok (.iadd, 1) := by decide +kernel
theorem qd_N_askOthers_76 : decode qc_N_askOthers 76 = .ok (.putfield 74, 3) := by decide +kernel
theorem qd_N_askOthers_79 : decode qc_N_askOthers 79 = .ok (.iinc 1 1, 3) := by decide +kernel
theorem qd_N_askOthers_82 : decode qc_N_askOthers 82 = .ok (.goto (-80), 3) := by decide +kernel
theorem qd_N_askOthers_85 : decode qc_N_askOthers 85 = .ok (.return_, 1) := by decide +kernel
theorem qd_N_endProbe_0 : decode qc_N_endProbe 0 = .ok (.aload_n 0, 1) := by decide +kernel
theorem qd_N_endProbe_1 : decode qc_N_endProbe 1 = .ok (.getfield 71, 3) := by decide +kernel
theorem qd_N_endProbe_4 : decode qc_N_endProbe 4 = .ok (.ifCond .eq 20, 3) := by decide +kernel
theorem qd_N_endProbe_7 : decode qc_N_endProbe 7 = .ok (.aload_n 0, 1) := by decide +kernel
theorem qd_N_endProbe_8 : decode qc_N_endProbe 8 = .ok (.iconst 0, 1) := by decide +kernel
theorem qd_N_endProbe_9 : decode qc_N_endProbe 9 = .ok (.aload_n 0, 1) := by decide +kernel
theorem qd_N_endProbe_10 : decode qc_N_endProbe 10 = .ok (.getfield 50, 3) := by decide +kernel
theorem qd_N_endProbe_13 : decode qc_N_endProbe 13 = .ok (.iconst 1, 1) := by decide +kernel
theorem qd_N_endProbe_14 : decode qc_N_endProbe 14 = .ok (.isub, 1) := by decide +kernel
theorem qd_N_endProbe_15 : decode qc_N_endProbe 15 = .ok (.invokestatic 234, 3) := by decide +kernel
theorem qd_N_endProbe_18 : decode qc_N_endProbe 18 = .ok (.putfield 50, 3) := by decide +kernel
theorem qd_N_endProbe_21 : decode qc_N_endProbe 21 = .ok (.goto 62, 3) := by decide +kernel
theorem qd_N_endProbe_24 : decode qc_N_endProbe 24 = .ok (.aload_n 0, 1) := by decide +kernel
theorem qd_N_endProbe_25 : decode qc_N_endProbe 25 = .ok (.aload_n 0, 1) := by decide +kernel
theorem qd_N_endProbe_26 : decode qc_N_endProbe 26 = .ok (.getfield 74, 3) := by decide +kernel
theorem qd_N_endProbe_29 : decode qc_N_endProbe 29 = .ok (.ifCond .ne 7, 3) := by decide +kernel
theorem qd_N_endProbe_32 : decode qc_N_endProbe 32 = .ok (.iconst 1, 1) := by decide +kernel
theorem qd_N_endProbe_33 : decode qc_N_endProbe 33 = .ok (.goto 16, 3) := by decide +kernel
theorem qd_N_endProbe_36 : decode qc_N_endProbe 36 = .ok (.iconst 0, 1) := by decide +kernel
theorem qd_N_endProbe_37 : decode qc_N_endProbe 37 = .ok (.aload_n 0, 1) := by decide +kernel
theorem qd_N_endProbe_38 : decode qc_N_endProbe 38 = .ok (.getfield 74, 3) := by decide +kernel
theorem qd_N_endProbe_41 : decode qc_N_endProbe 41 = .ok (.aload_n 0, 1) := by decide +kernel
theorem qd_N_endProbe_42 : decode qc_N_endProbe 42 = .ok (.getfield 77, 3) := by decide +kernel
theorem qd_N_endProbe_45 : decode qc_N_endProbe 45 = .ok (.isub, 1) := by decide +kernel
theorem qd_N_endProbe_46 : decode qc_N_endProbe 46 = .ok (.invokestatic 234, 3) := by decide +kernel
theorem qd_N_endProbe_49 : decode qc_N_endProbe 49 = .ok (.invokevirtual 177, 3) := by decide +kernel
theorem qd_N_endProbe_52 : decode qc_N_endProbe 52 = .ok (.aload_n 0, 1) := by decide +kernel
theorem qd_N_endProbe_53 : decode qc_N_endProbe 53 = .ok (.getfield 30, 3) := by decide +kernel
theorem qd_N_endProbe_56 : decode qc_N_endProbe 56 = .ok (.aload_n 0, 1) := by decide +kernel
theorem qd_N_endProbe_57 : decode qc_N_endProbe 57 = .ok (.getfield 62, 3) := by decide +kernel
theorem qd_N_endProbe_60 : decode qc_N_endProbe 60 = .ok (.aaload, 1) := by decide +kernel
theorem qd_N_endProbe_61 : decode qc_N_endProbe 61 = .ok (.astore_n 2, 1) := by decide +kernel
theorem qd_N_endProbe_62 : decode qc_N_endProbe 62 = .ok (.aload_n 2, 1) := by decide +kernel
theorem qd_N_endProbe_63 : decode qc_N_endProbe 63 = .ok (.getfield 86, 3) := by decide +kernel
theorem qd_N_endProbe_66 : decode qc_N_endProbe 66 = .ok (.iconst 1, 1) := by decide +kernel
theorem qd_N_endProbe_67 : decode qc_N_endProbe 67 = .ok (.if_icmp .ne 16, 3) := by decide +kernel
theorem qd_N_endProbe_70 : decode qc_N_endProbe 70 = .ok (.aload_n 2, 1) := by decide +kernel
theorem qd_N_endProbe_71 : decode qc_N_endProbe 71 = .ok (.aload_n 2, 1) := by decide +kernel
theorem qd_N_endProbe_72 : decode qc_N_endProbe 72 = .ok (.getfield 83, 3) := by decide +kernel
theorem qd_N_endProbe_75 : decode qc_N_endProbe 75 = .ok (.iload_n 1, 1) := by decide +kernel
theorem qd_N_endProbe_76 : decode qc_N_endProbe 76 = .ok (.aload_n 0, 1) := by decide +kernel
theorem qd_N_endProbe_77 : decode qc_N_endProbe 77 = .ok (.getfield 17, 3) := by decide +kernel
theorem qd_N_endProbe_80 : decode qc_N_endProbe 80 = .ok (.invokevirtual 168, 3) := by decide +kernel
theorem qd_N_endProbe_83 : decode qc_N_endProbe 83 = .ok (.aload_n 0, 1) := by decide +kernel
theorem qd_N_endProbe_84 : decode qc_N_endProbe 84 = .ok (.iconst (-1), 1) := by decide +kernel
theorem qd_N_endProbe_85 : decode qc_N_endProbe 85 = .ok (.putfield 62, 3) := by decide +kernel
theorem qd_N_endProbe_88 : decode qc_N_endProbe 88 = .ok (.aload_n 0, 1) := by decide +kernel
theorem qd_N_endProbe_89 : decode qc_N_endProbe 89 = .ok (.iconst 0, 1) := by decide +kernel
theorem qd_N_endProbe_90 : decode qc_N_endProbe 90 = .ok (.putfield 68, 3) := by decide +kernel
theorem qd_N_endProbe_93 : decode qc_N_endProbe 93 = .ok (.aload_n 0, 1) := by decide +kernel
theorem qd_N_endProbe_94 : decode qc_N_endProbe 94 = .ok (.iconst 0, 1) := by decide +kernel
theorem qd_N_endProbe_95 : decode qc_N_endProbe 95 = .ok (.putfield 71, 3) := by decide +kernel
theorem qd_N_endProbe_98 : decode qc_N_endProbe 98 = .ok (.aload_n 0, 1) := by decide +kernel
theorem qd_N_endProbe_99 : decode qc_N_endProbe 99 = .ok (.iconst 1, 1) := by decide +kernel
theorem qd_N_endProbe_100 : decode qc_N_endProbe 100 = .ok (.aload_n 0, 1) := by decide +kernel
theorem qd_N_endProbe_101 : decode qc_N_endProbe 101 = .ok (.getfield 50, 3) := by decide +kernel
theorem qd_N_endProbe_104 : decode qc_N_endProbe 104 = .ok (.iadd, 1) := by decide +kernel
theorem qd_N_endProbe_105 : decode qc_N_endProbe 105 = .ok (.putfield 56, 3) := by decide +kernel
theorem qd_N_endProbe_108 : decode qc_N_endProbe 108 = .ok (.return_, 1) := by decide +kernel
theorem qd_N_syncWithNext_0 : decode qc_N_syncWithNext 0 = .ok (.aload_n 0, 1) := by decide +kernel
theorem qd_N_syncWithNext_1 : decode qc_N_syncWithNext 1 = .ok (.aload_n 0, 1) := by decide +kernel
theorem qd_N_syncWithNext_2 : decode qc_N_syncWithNext 2 = .ok (.getfield 80, 3) := by decide +kernel
theorem qd_N_syncWithNext_5 : decode qc_N_syncWithNext 5 = .ok (.iconst 1, 1) := by decide +kernel
theorem qd_N_syncWithNext_6 : decode qc_N_syncWithNext 6 = .ok (.invokevirtual 225, 3) := by decide +kernel
theorem qd_N_syncWithNext_9 : decode qc_N_syncWithNext 9 = .ok (.istore_n 1, 1) := by decide +kernel
theorem qd_N_syncWithNext_10 : decode qc_N_syncWithNext 10 = .ok (.iload_n 1, 1) := by decide +kernel
theorem qd_N_syncWithNext_11 : decode qc_N_syncWithNext 11 = .ok (.iconst (-1), 1) := by decide +kernel
theorem qd_N_syncWithNext_12 : decode qc_N_syncWithNext 12 = .ok (.if_icmp .eq 18, 3) := by decide +kernel
theorem qd_N_syncWithNext_15 : decode qc_N_syncWithNext 15 = .ok (.aload_n 0, 1) := by decide +kernel
theorem qd_N_syncWithNext_16 : decode qc_N_syncWithNext 16 = .ok (.iload_n 1, 1) := by decide +kernel
theorem qd_N_syncWithNext_17 : decode qc_N_syncWithNext 17 = .ok (.putfield 80, 3) := by decide +kernel
theorem qd_N_syncWithNext_20 : decode qc_N_syncWithNext 20 = .ok (.aload_n 0, 1) := by decide +kernel
theorem qd_N_syncWithNext_21 : decode qc_N_syncWithNext 21 = .ok (.bipush 6, 2) := by decide +kernel
theorem qd_N_syncWithNext_23 : decode qc_N_syncWithNext 23 = .ok (.iload_n 1, 1) := by decide +kernel
theorem qd_N_syncWithNext_24 : decode qc_N_syncWithNext 24 = .ok (.iconst 0, 1) := by decide +kernel
theorem qd_N_syncWithNext_25 : decode qc_N_syncWithNext 25 = .ok (.iconst 0, 1) := by decide +kernel
theorem qd_N_syncWithNext_26 : decode qc_N_syncWithNext 26 = .ok (.iconst 0, 1) := by decide +kernel
theorem qd_N_syncWithNext_27 : decode qc_N_syncWithNext 27 = .ok (.invokevirtual 89, 3) := by decide +kernel
theorem qd_N_syncWithNext_30 : decode qc_N_syncWithNext 30 = .ok (.return_, 1) := by decide +kernel
theorem qd_N_tell_0 : decode qc_N_tell 0 = .ok (.iload_n 1, 1) := by decide +kernel
theorem qd_N_tell_1 : decode qc_N_tell 1 = .ok (.tableswitch 129 0 9 #[55, 68, 81, 86, 91, 96, 109, 114, 119, 124], 55) := by decide +kernel
theorem qd_N_tell_56 : decode qc_N_tell 56 = .ok (.aload_n 0, 1) := by decide +kernel
theorem qd_N_tell_57 : decode qc_N_tell 57 = .ok (.getfield 43, 3) := by decide +kernel
theorem qd_N_tell_60 : decode qc_N_tell 60 = .ok (.ifCond .eq 7, 3) := by decide +kernel
theorem qd_N_tell_63 : decode qc_N_tell 63 = .ok (.iconst 1, 1) := by decide +kernel
theorem qd_N_tell_64 : decode qc_N_tell 64 = .ok (.goto 4, 3) := by decide +kernel
theorem qd_N_tell_67 : decode qc_N_tell 67 = .ok (.iconst 0, 1) := by decide +kernel
theorem qd_N_tell_68 : decode qc_N_tell 68 = .ok (.ireturn, 1) := by decide +kernel
theorem qd_N_tell_69 : decode qc_N_tell 69 = .ok (.aload_n 0, 1) := by decide +kernel
theorem qd_N_tell_70 : decode qc_N_tell 70 = .ok (.getfield 30, 3) := by decide +kernel
theorem qd_N_tell_73 : decode qc_N_tell 73 = .ok (.aload_n 0, 1) := by decide +kernel
theorem qd_N_tell_74 : decode qc_N_tell 74 = .ok (.getfield 17, 3) := by decide +kernel
theorem qd_N_tell_77 : decode qc_N_tell 77 = .ok (.aaload, 1) := by decide +kernel
theorem qd_N_tell_78 : decode qc_N_tell 78 = .ok (.getfield 83, 3) := by decide +kernel
theorem qd_N_tell_81 : decode qc_N_tell 81 = .ok (.ireturn, 1) := by decide +kernel
theorem qd_N_tell_82 : decode qc_N_tell 82 = .ok (.aload_n 0, 1) := by decide +kernel
theorem qd_N_tell_83 : decode qc_N_tell 83 = .ok (.getfield 50, 3) := by decide +kernel
theorem qd_N_tell_86 : decode qc_N_tell 86 = .ok (.ireturn, 1) := by decide +kernel
theorem qd_N_tell_87 : decode qc_N_tell 87 = .ok (.aload_n 0, 1) := by decide +kernel
theorem qd_N_tell_88 : decode qc_N_tell 88 = .ok (.getfield 62, 3) := by decide +kernel
theorem qd_N_tell_91 : decode qc_N_tell 91 = .ok (.ireturn, 1) := by decide +kernel
theorem qd_N_tell_92 : decode qc_N_tell 92 = .ok (.aload_n 0, 1) := by decide +kernel
theorem qd_N_tell_93 : decode qc_N_tell 93 = .ok (.getfield 68, 3) := by decide +kernel
theorem qd_N_tell_96 : decode qc_N_tell 96 = .ok (.ireturn, 1) := by decide +kernel
theorem qd_N_tell_97 : decode qc_N_tell 97 = .ok (.aload_n 0, 1) := by decide +kernel
theorem qd_N_tell_98 : decode qc_N_tell 98 = .ok (.getfield 71, 3) := by decide +kernel
theorem qd_N_tell_101 : decode qc_N_tell 101 = .ok (.ifCond .eq 7, 3) := by decide +kernel
theorem qd_N_tell_104 : decode qc_N_tell 104 = .ok (.iconst 1, 1) := by decide +kernel
theorem qd_N_tell_105 : decode qc_N_tell 105 = .ok (.goto 4, 3) := by decide +kernel
theorem qd_N_tell_108 : decode qc_N_tell 108 = .ok (.iconst 0, 1) := by decide +kernel
theorem qd_N_tell_109 : decode qc_N_tell 109 = .ok (.ireturn, 1) := by decide +kernel
theorem qd_N_tell_110 : decode qc_N_tell 110 = .ok (.aload_n 0, 1) := by decide +kernel
theorem qd_N_tell_111 : decode qc_N_tell 111 = .ok (.getfield 59, 3) := by decide +kernel
theorem qd_N_tell_114 : decode qc_N_tell 114 = .ok (.ireturn, 1) := by decide +kernel
theorem qd_N_tell_115 : decode qc_N_tell 115 = .ok (.aload_n 0, 1) := by decide +kernel
theorem qd_N_tell_116 : decode qc_N_tell 116 = .ok (.getfield 56, 3) := by decide +kernel
theorem qd_N_tell_119 : decode qc_N_tell 119 = .ok (.ireturn, 1) := by decide +kernel
theorem qd_N_tell_120 : decode qc_N_tell 120 = .ok (.aload_n 0, 1) := by decide +kernel
theorem qd_N_tell_121 : decode qc_N_tell 121 = .ok (.invokevirtual 237, 3) := by decide +kernel
theorem qd_N_tell_124 : decode qc_N_tell 124 = .ok (.ireturn, 1) := by decide +kernel
theorem qd_N_tell_125 : decode qc_N_tell 125 = .ok (.aload_n 0, 1) := by decide +kernel
theorem qd_N_tell_126 : decode qc_N_tell 126 = .ok (.getfield 53, 3) := by decide +kernel
theorem qd_N_tell_129 : decode qc_N_tell 129 = .ok (.ireturn, 1) := by decide +kernel
theorem qd_N_tell_130 : decode qc_N_tell 130 = .ok (.iconst 0, 1) := by decide +kernel
theorem qd_N_tell_131 : decode qc_N_tell 131 = .ok (.ireturn, 1) := by decide +kernel
theorem qd_N_countQueued_0 : decode qc_N_countQueued 0 = .ok (.iconst 0, 1) := by decide +kernel
theorem qd_N_countQueued_1 : decode qc_N_countQueued 1 = .ok (.istore_n 1, 1) := by decide +kernel
theorem qd_N_countQueued_2 : decode qc_N_countQueued 2 = .ok (.iconst 0, 1) := by decide +kernel
theorem qd_N_countQueued_3 : decode qc_N_countQueued 3 = .ok (.istore_n 2, 1) := by decide +kernel
theorem qd_N_countQueued_4 : decode qc_N_countQueued 4 = .ok (.iload_n 2, 1) := by decide +kernel
theorem qd_N_countQueued_5 : decode qc_N_countQueued 5 = .ok (.aload_n 0, 1) := by decide +kernel
theorem qd_N_countQueued_6 : decode qc_N_countQueued 6 = .ok (.getfield 21, 3) := by decide +kernel
theorem qd_N_countQueued_9 : decode qc_N_countQueued 9 = .ok (.if_icmp .ge 24, 3) := by decide +kernel
theorem qd_N_countQueued_12 : decode qc_N_countQueued 12 = .ok (.aload_n 0, 1) := by decide +kernel
theorem qd_N_countQueued_13 : decode qc_N_countQueued 13 = .ok (.getfield 30, 3) := by decide +kernel
theorem qd_N_countQueued_16 : decode qc_N_countQueued 16 = .ok (.iload_n 2, 1) := by decide +kernel
theorem qd_N_countQueued_17 : decode qc_N_countQueued 17 = .ok (.aaload, 1) := by decide +kernel
theorem qd_N_countQueued_18 : decode qc_N_countQueued 18 = .ok (.getfield 122, 3) := by decide +kernel
theorem qd_N_countQueued_21 : decode qc_N_countQueued 21 = .ok (.ifCond .le 6, 3) := by decide +kernel
theorem qd_N_countQueued_24 : decode qc_N_countQueued 24 = .ok (.iinc 1 1, 3) := by decide +kernel
theorem qd_N_countQueued_27 : decode qc_N_countQueued 27 = .ok (.iinc 2 1, 3) := by decide +kernel
theorem qd_N_countQueued_30 : decode qc_N_countQueued 30 = .ok (.goto (-26), 3) := by decide +kernel
theorem qd_N_countQueued_33 : decode qc_N_countQueued 33 = .ok (.iload_n 1, 1) := by decide +kernel
theorem qd_N_countQueued_34 : decode qc_N_countQueued 34 = .ok (.ireturn, 1) := by decide +kernel
theorem qd_G_init_0 : decode qc_G_init 0 = .ok (.aload_n 0, 1) := by decide +kernel
theorem qd_G_init_1 : decode qc_G_init 1 = .ok (.invokespecial 1, 3) := by decide +kernel
theorem qd_G_init_4 : decode qc_G_init 4 = .ok (.aload_n 0, 1) := by decide +kernel
theorem qd_G_init_5 : decode qc_G_init 5 = .ok (.bipush 8, 2) := by decide +kernel
theorem qd_G_init_7 : decode qc_G_init 7 = .ok (.iconst 2, 1) := by decide +kernel
theorem qd_G_init_8 : decode qc_G_init 8 = .ok (.iload_n 1, 1) := by decide +kernel
theorem qd_G_init_9 : decode qc_G_init 9 = .ok (.invokestatic 9, 3) := by decide +kernel
theorem qd_G_init_12 : decode qc_G_init 12 = .ok (.invokestatic 15, 3) := by decide +kernel
theorem qd_G_init_15 : decode qc_G_init 15 = .ok (.putfield 18, 3) := by decide +kernel
theorem qd_G_init_18 : decode qc_G_init 18 = .ok (.aload_n 0, 1) := by decide +kernel
theorem qd_G_init_19 : decode qc_G_init 19 = .ok (.new 22, 3) := by decide +kernel
theorem qd_G_init_22 : decode qc_G_init 22 = .ok (.dup, 1) := by decide +kernel
theorem qd_G_init_23 : decode qc_G_init 23 = .ok (.invokespecial 24, 3) := by decide +kernel
theorem qd_G_init_26 : decode qc_G_init 26 = .ok (.putfield 25, 3) := by decide +kernel
theorem qd_G_init_29 : decode qc_G_init 29 = .ok (.aload_n 0, 1) := by decide +kernel
theorem qd_G_init_30 : decode qc_G_init 30 = .ok (.aload_n 0, 1) := by decide +kernel
theorem qd_G_init_31 : decode qc_G_init 31 = .ok (.getfield 18, 3) := by decide +kernel
theorem qd_G_init_34 : decode qc_G_init 34 = .ok (.newarray .int, 2) := by decide +kernel
theorem qd_G_init_36 : decode qc_G_init 36 = .ok (.putfield 29, 3) := by decide +kernel
theorem qd_G_init_39 : decode qc_G_init 39 = .ok (.aload_n 0, 1) := by decide +kernel
theorem qd_G_init_40 : decode qc_G_init 40 = .ok (.aload_n 0, 1) := by decide +kernel
theorem qd_G_init_41 : decode qc_G_init 41 = .ok (.getfield 18, 3) := by decide +kernel
theorem qd_G_init_44 : decode qc_G_init 44 = .ok (.anewarray 33, 3) := by decide +kernel
theorem qd_G_init_47 : decode qc_G_init 47 = .ok (.putfield 35, 3) := by decide +kernel
theorem qd_G_init_50 : decode qc_G_init 50 = .ok (.iconst 0, 1) := by decide +kernel
theorem qd_G_init_51 : decode qc_G_init 51 = .ok (.istore_n 2, 1) := by decide +kernel
theorem qd_G_init_52 : decode qc_G_init 52 = .ok (.iload_n 2, 1) := by decide +kernel
theorem qd_G_init_53 : decode qc_G_init 53 = .ok (.aload_n 0, 1) := by decide +kernel
theorem qd_G_init_54 : decode qc_G_init 54 = .ok (.getfield 18, 3) := by decide +kernel
theorem qd_G_init_57 : decode qc_G_init 57 = .ok (.if_icmp .ge 31, 3) := by decide +kernel
theorem qd_G_init_60 : decode qc_G_init 60 = .ok (.aload_n 0, 1) := by decide +kernel
theorem qd_G_init_61 : decode qc_G_init 61 = .ok (.getfield 35, 3) := by decide +kernel
theorem qd_G_init_64 : decode qc_G_init 64 = .ok (.iload_n 2, 1) := by decide +kernel
theorem qd_G_init_65 : decode qc_G_init 65 = .ok (.new 33, 3) := by decide +kernel
theorem qd_G_init_68 : decode qc_G_init 68 = .ok (.dup, 1) := by decide +kernel
theorem qd_G_init_69 : decode qc_G_init 69 = .ok (.iload_n 2, 1) := by decide +kernel
theorem qd_G_init_70 : decode qc_G_init 70 = .ok (.aload_n 0, 1) := by decide +kernel
theorem qd_G_init_71 : decode qc_G_init 71 = .ok (.getfield 18, 3) := by decide +kernel
theorem qd_G_init_74 : decode qc_G_init 74 = .ok (.aload_n 0, 1) := by decide +kernel
theorem qd_G_init_75 : decode qc_G_init 75 = .ok (.getfield 25, 3) := by decide +kernel
theorem qd_G_init_78 : decode qc_G_init 78 = .ok (.invokespecial 39, 3) := by decide +kernel
theorem qd_G_init_81 : decode qc_G_init 81 = .ok (.aastore, 1) := by decide +kernel
theorem qd_G_init_82 : decode qc_G_init 82 = .ok (.iinc 2 1, 3) := by decide +kernel
theorem qd_G_init_85 : decode qc_G_init 85 = .ok (.goto (-33), 3) := by decide +kernel
theorem qd_G_init_88 : decode qc_G_init 88 = .ok (.aload_n 0, 1) := by decide +kernel
theorem qd_G_init_89 : decode qc_G_init 89 = .ok (.iconst 0, 1) := by decide +kernel
theorem qd_G_init_90 : decode qc_G_init 90 = .ok (.putfield 42, 3) := by decide +kernel
theorem qd_G_init_93 : decode qc_G_init 93 = .ok (.return_, 1) := by decide +kernel
theorem qd_G_start_0 : decode qc_G_start 0 = .ok (.aload_n 0, 1) := by decide +kernel
theorem qd_G_start_1 : decode qc_G_start 1 = .ok (.iload_n 1, 1) := by decide +kernel
theorem qd_G_start_2 : decode qc_G_start 2 = .ok (.invokevirtual 45, 3) := by decide +kernel
theorem qd_G_start_5 : decode qc_G_start 5 = .ok (.ifCond .eq 23, 3) := by decide +kernel
theorem qd_G_start_8 : decode qc_G_start 8 = .ok (.aload_n 0, 1) := by decide +kernel
theorem qd_G_start_9 : decode qc_G_start 9 = .ok (.iload_n 2, 1) := by decide +kernel
theorem qd_G_start_10 : decode qc_G_start 10 = .ok (.invokevirtual 45, 3) := by decide +kernel
theorem qd_G_start_13 : decode qc_G_start 13 = .ok (.ifCond .eq 15, 3) := by decide +kernel
theorem qd_G_start_16 : decode qc_G_start 16 = .ok (.aload_n 0, 1) := by decide +kernel
theorem qd_G_start_17 : decode qc_G_start 17 = .ok (.getfield 35, 3) := by decide +kernel
theorem qd_G_start_20 : decode qc_G_start 20 = .ok (.iload_n 1, 1) := by decide +kernel
theorem qd_G_start_21 : decode qc_G_start 21 = .ok (.aaload, 1) := by decide +kernel
theorem qd_G_start_22 : decode qc_G_start 22 = .ok (.getfield 49, 3) := by decide +kernel
theorem qd_G_start_25 : decode qc_G_start 25 = .ok (.ifCond .eq 5, 3) := by decide +kernel
theorem qd_G_start_28 : decode qc_G_start 28 = .ok (.iconst 0, 1) := by decide +kernel
theorem qd_G_start_29 : decode qc_G_start 29 = .ok (.ireturn, 1) := by decide +kernel
theorem qd_G_start_30 : decode qc_G_start 30 = .ok (.aload_n 0, 1) := by decide +kernel
theorem qd_G_start_31 : decode qc_G_start 31 = .ok (.getfield 35, 3) := by decide +kernel
theorem qd_G_start_34 : decode qc_G_start 34 = .ok (.iload_n 1, 1) := by decide +kernel
theorem qd_G_start_35 : decode qc_G_start 35 = .ok (.aaload, 1) := by decide +kernel
theorem qd_G_start_36 : decode qc_G_start 36 = .ok (.aload_n 0, 1) := by decide +kernel
theorem qd_G_start_37 : decode qc_G_start 37 = .ok (.getfield 42, 3) := by decide +kernel
theorem qd_G_start_40 : decode qc_G_start 40 = .ok (.invokevirtual 53, 3) := by decide +kernel
theorem qd_G_start_43 : decode qc_G_start 43 = .ok (.iload_n 2, 1) := by decide +kernel
theorem qd_G_start_44 : decode qc_G_start 44 = .ok (.iload_n 1, 1) := by decide +kernel
theorem qd_G_start_45 : decode qc_G_start 45 = .ok (.if_icmp .eq 18, 3) := by decide +kernel
theorem qd_G_start_48 : decode qc_G_start 48 = .ok (.aload_n 0, 1) := by decide +kernel
theorem qd_G_start_49 : decode qc_G_start 49 = .ok (.getfield 35, 3) := by decide +kernel
theorem qd_G_start_52 : decode qc_G_start 52 = .ok (.iload_n 1, 1) := by decide +kernel
theorem qd_G_start_53 : decode qc_G_start 53 = .ok (.aaload, 1) := by decide +kernel
theorem qd_G_start_54 : decode qc_G_start 54 = .ok (.bipush 6, 2) := by decide +kernel
theorem qd_G_start_56 : decode qc_G_start 56 = .ok (.iload_n 2, 1) := by decide +kernel
theorem qd_G_start_57 : decode qc_G_start 57 = .ok (.iconst 0, 1) := by decide +kernel
theorem qd_G_start_58 : decode qc_G_start 58 = .ok (.iconst 0, 1) := by decide +kernel
theorem qd_G_start_59 : decode qc_G_start 59 = .ok (.iconst 0, 1) := by decide +kernel
theorem qd_G_start_60 : decode qc_G_start 60 = .ok (.invokevirtual 57, 3) := by decide +kernel
theorem qd_G_start_63 : decode qc_G_start 63 = .ok (.iconst 1, 1) := by decide +kernel
theorem qd_G_start_64 : decode qc_G_start 64 = .ok (.ireturn, 1) := by decide +kernel
theorem qd_G_isNode_0 : decode qc_G_isNode 0 = .ok (.iload_n 1, 1) := by decide +kernel
theorem qd_G_isNode_1 : decode qc_G_isNode 1 = .ok (.ifCond .lt 15, 3) := by decide +kernel
theorem qd_G_isNode_4 : decode qc_G_isNode 4 = .ok (.iload_n 1, 1) := by decide +kernel
theorem qd_G_isNode_5 : decode qc_G_isNode 5 = .ok (.aload_n 0, 1) := by decide +kernel
theorem qd_G_isNode_6 : decode qc_G_isNode 6 = .ok (.getfield 18, 3) := by decide +kernel
theorem qd_G_isNode_9 : decode qc_G_isNode 9 = .ok (.if_icmp .ge 7, 3) := by decide +kernel
theorem qd_G_isNode_12 : decode qc_G_isNode 12 = .ok (.iconst 1, 1) := by decide +kernel
theorem qd_G_isNode_13 : decode qc_G_isNode 13 = .ok (.goto 4, 3) := by decide +kernel
theorem qd_G_isNode_16 : decode qc_G_isNode 16 = .ok (.iconst 0, 1) := by decide +kernel
theorem qd_G_isNode_17 : decode qc_G_isNode 17 = .ok (.ireturn, 1) := by decide +kernel
theorem qd_G_crash_0 : decode qc_G_crash 0 = .ok (.aload_n 0, 1) := by decide +kernel
theorem qd_G_crash_1 : decode qc_G_crash 1 = .ok (.iload_n 1, 1) := by decide +kernel
theorem qd_G_crash_2 : decode qc_G_crash 2 = .ok (.invokevirtual 61, 3) := by decide +kernel
theorem qd_G_crash_5 : decode qc_G_crash 5 = .ok (.ifCond .ne 5, 3) := by decide +kernel
theorem qd_G_crash_8 : decode qc_G_crash 8 = .ok (.iconst 0, 1) := by decide +kernel
theorem qd_G_crash_9 : decode qc_G_crash 9 = .ok (.ireturn, 1) := by decide +kernel
theorem qd_G_crash_10 : decode qc_G_crash 10 = .ok (.aload_n 0, 1) := by decide +kernel
theorem qd_G_crash_11 : decode qc_G_crash 11 = .ok (.getfield 35, 3) := by decide +kernel
theorem qd_G_crash_14 : decode qc_G_crash 14 = .ok (.iload_n 1, 1) := by decide +kernel
theorem qd_G_crash_15 : decode qc_G_crash 15 = .ok (.aaload, 1) := by decide +kernel
theorem qd_G_crash_16 : decode qc_G_crash 16 = .ok (.iconst 0, 1) := by decide +kernel
theorem qd_G_crash_17 : decode qc_G_crash 17 = .ok (.putfield 49, 3) := by decide +kernel
theorem qd_G_crash_20 : decode qc_G_crash 20 = .ok (.iconst 1, 1) := by decide +kernel
theorem qd_G_crash_21 : decode qc_G_crash 21 = .ok (.ireturn, 1) := by decide +kernel
theorem qd_G_isRunning_0 : decode qc_G_isRunning 0 = .ok (.aload_n 0, 1) := by decide +kernel
theorem qd_G_isRunning_1 : decode qc_G_isRunning 1 = .ok (.iload_n 1, 1) := by decide +kernel
theorem qd_G_isRunning_2 : decode qc_G_isRunning 2 = .ok (.invokevirtual 45, 3) := by decide +kernel
theorem qd_G_isRunning_5 : decode qc_G_isRunning 5 = .ok (.ifCond .eq 19, 3) := by decide +kernel
theorem qd_G_isRunning_8 : decode qc_G_isRunning 8 = .ok (.aload_n 0, 1) := by decide +kernel
theorem qd_G_isRunning_9 : decode qc_G_isRunning 9 = .ok (.getfield 35, 3) := by decide +kernel
theorem qd_G_isRunning_12 : decode qc_G_isRunning 12 = .ok (.iload_n 1, 1) := by decide +kernel
theorem qd_G_isRunning_13 : decode qc_G_isRunning 13 = .ok (.aaload, 1) := by decide +kernel
theorem qd_G_isRunning_14 : decode qc_G_isRunning 14 = .ok (.getfield 49, 3) := by decide +kernel
theorem qd_G_isRunning_17 : decode qc_G_isRunning 17 = .ok (.ifCond .eq 7, 3) := by decide +kernel
theorem qd_G_isRunning_20 : decode qc_G_isRunning 20 = .ok (.iconst 1, 1) := by decide +kernel
theorem qd_G_isRunning_21 : decode qc_G_isRunning 21 = .ok (.goto 4, 3) := by decide +kernel
theorem qd_G_isRunning_24 : decode qc_G_isRunning 24 = .ok (.iconst 0, 1) := by decide +kernel
theorem qd_G_isRunning_25 : decode qc_G_isRunning 25 = .ok (.ireturn, 1) := by decide +kernel
theorem qd_G_leave_0 : decode qc_G_leave 0 = .ok (.aload_n 0, 1) := by decide +kernel
theorem qd_G_leave_1 : decode qc_G_leave 1 = .ok (.iload_n 1, 1) := by decide +kernel
theorem qd_G_leave_2 : decode qc_G_leave 2 = .ok (.invokevirtual 61, 3) := by decide +kernel
theorem qd_G_leave_5 : decode qc_G_leave 5 = .ok (.ifCond .ne 5, 3) := by decide +kernel
theorem qd_G_leave_8 : decode qc_G_leave 8 = .ok (.iconst 0, 1) := by decide +kernel
theorem qd_G_leave_9 : decode qc_G_leave 9 = .ok (.ireturn, 1) := by decide +kernel
theorem qd_G_leave_10 : decode qc_G_leave 10 = .ok (.aload_n 0, 1) := by decide +kernel
theorem qd_G_leave_11 : decode qc_G_leave 11 = .ok (.getfield 35, 3) := by decide +kernel
theorem qd_G_leave_14 : decode qc_G_leave 14 = .ok (.iload_n 1, 1) := by decide +kernel
theorem qd_G_leave_15 : decode qc_G_leave 15 = .ok (.aaload, 1) := by decide +kernel
theorem qd_G_leave_16 : decode qc_G_leave 16 = .ok (.aload_n 0, 1) := by decide +kernel
theorem qd_G_leave_17 : decode qc_G_leave 17 = .ok (.getfield 42, 3) := by decide +kernel
theorem qd_G_leave_20 : decode qc_G_leave 20 = .ok (.invokevirtual 64, 3) := by decide +kernel
theorem qd_G_leave_23 : decode qc_G_leave 23 = .ok (.aload_n 0, 1) := by decide +kernel
theorem qd_G_leave_24 : decode qc_G_leave 24 = .ok (.getfield 35, 3) := by decide +kernel
theorem qd_G_leave_27 : decode qc_G_leave 27 = .ok (.iload_n 1, 1) := by decide +kernel
theorem qd_G_leave_28 : decode qc_G_leave 28 = .ok (.aaload, 1) := by decide +kernel
theorem qd_G_leave_29 : decode qc_G_leave 29 = .ok (.iconst 0, 1) := by decide +kernel
theorem qd_G_leave_30 : decode qc_G_leave 30 = .ok (.putfield 49, 3) := by decide +kernel
theorem qd_G_leave_33 : decode qc_G_leave 33 = .ok (.iconst 1, 1) := by decide +kernel
theorem qd_G_leave_34 : decode qc_G_leave 34 = .ok (.ireturn, 1) := by decide +kernel
theorem qd_G_cut_0 : decode qc_G_cut 0 = .ok (.aload_n 0, 1) := by decide +kernel
theorem qd_G_cut_1 : decode qc_G_cut 1 = .ok (.iload_n 1, 1) := by decide +kernel
theorem qd_G_cut_2 : decode qc_G_cut 2 = .ok (.invokevirtual 45, 3) := by decide +kernel
theorem qd_G_cut_5 : decode qc_G_cut 5 = .ok (.ifCond .eq 26, 3) := by decide +kernel
theorem qd_G_cut_8 : decode qc_G_cut 8 = .ok (.aload_n 0, 1) := by decide +kernel
theorem qd_G_cut_9 : decode qc_G_cut 9 = .ok (.iload_n 2, 1) := by decide +kernel
theorem qd_G_cut_10 : decode qc_G_cut 10 = .ok (.invokevirtual 45, 3) := by decide +kernel
theorem qd_G_cut_13 : decode qc_G_cut 13 = .ok (.ifCond .eq 18, 3) := by decide +kernel
theorem qd_G_cut_16 : decode qc_G_cut 16 = .ok (.iload_n 1, 1) := by decide +kernel
theorem qd_G_cut_17 : decode qc_G_cut 17 = .ok (.iload_n 2, 1) := by decide +kernel
theorem qd_G_cut_18 : decode qc_G_cut 18 = .ok (.if_icmp .eq 13, 3) := by decide +kernel
theorem qd_G_cut_21 : decode qc_G_cut 21 = .ok (.aload_n 0, 1) := by decide +kernel
theorem qd_G_cut_22 : decode qc_G_cut 22 = .ok (.iload_n 1, 1) := by decide +kernel
theorem qd_G_cut_23 : decode qc_G_cut 23 = .ok (.iload_n 2, 1) := by decide +kernel
theorem qd_G_cut_24 : decode qc_G_cut 24 = .ok (.invokevirtual 67, 3) := by decide +kernel
theorem qd_G_cut_27 : decode qc_G_cut 27 = .ok (.iload_n 3, 1) := by decide +kernel
theorem qd_G_cut_28 : decode qc_G_cut 28 = .ok (.if_icmp .ne 5, 3) := by decide +kernel
theorem qd_G_cut_31 : decode qc_G_cut 31 = .ok (.iconst 0, 1) := by decide +kernel
theorem qd_G_cut_32 : decode qc_G_cut 32 = .ok (.ireturn, 1) := by decide +kernel
theorem qd_G_cut_33 : decode qc_G_cut 33 = .ok (.aload_n 0, 1) := by decide +kernel
theorem qd_G_cut_34 : decode qc_G_cut 34 = .ok (.getfield 29, 3) := by decide +kernel
theorem qd_G_cut_37 : decode qc_G_cut 37 = .ok (.iload_n 1, 1) := by decide +kernel
theorem qd_G_cut_38 : decode qc_G_cut 38 = .ok (.dup2, 1) := by decide +kernel
theorem qd_G_cut_39 : decode qc_G_cut 39 = .ok (.iaload, 1) := by decide +kernel
theorem qd_G_cut_40 : decode qc_G_cut 40 = .ok (.iconst 1, 1) := by decide +kernel
theorem qd_G_cut_41 : decode qc_G_cut 41 = .ok (.iload_n 2, 1) := by decide +kernel
theorem qd_G_cut_42 : decode qc_G_cut 42 = .ok (.ishl, 1) := by decide +kernel
theorem qd_G_cut_43 : decode qc_G_cut 43 = .ok (.ixor, 1) := by decide +kernel
theorem qd_G_cut_44 : decode qc_G_cut 44 = .ok (.iastore, 1) := by decide +kernel
theorem qd_G_cut_45 : decode qc_G_cut 45 = .ok (.aload_n 0, 1) := by decide +kernel
theorem qd_G_cut_46 : decode qc_G_cut 46 = .ok (.getfield 29, 3) := by decide +kernel
theorem qd_G_cut_49 : decode qc_G_cut 49 = .ok (.iload_n 2, 1) := by decide +kernel
theorem qd_G_cut_50 : decode qc_G_cut 50 = .ok (.dup2, 1) := by decide +kernel
theorem qd_G_cut_51 : decode qc_G_cut 51 = .ok (.iaload, 1) := by decide +kernel
theorem qd_G_cut_52 : decode qc_G_cut 52 = .ok (.iconst 1, 1) := by decide +kernel
theorem qd_G_cut_53 : decode qc_G_cut 53 = .ok (.iload_n 1, 1) := by decide +kernel
theorem qd_G_cut_54 : decode qc_G_cut 54 = .ok (.ishl, 1) := by decide +kernel
theorem qd_G_cut_55 : decode qc_G_cut 55 = .ok (.ixor, 1) := by decide +kernel
theorem qd_G_cut_56 : decode qc_G_cut 56 = .ok (.iastore, 1) := by decide +kernel
theorem qd_G_cut_57 : decode qc_G_cut 57 = .ok (.iconst 1, 1) := by decide +kernel
theorem qd_G_cut_58 : decode qc_G_cut 58 = .ok (.ireturn, 1) := by decide +kernel
theorem qd_G_areCut_0 : decode qc_G_areCut 0 = .ok (.aload_n 0, 1) := by decide +kernel
theorem qd_G_areCut_1 : decode qc_G_areCut 1 = .ok (.getfield 29, 3) := by decide +kernel
theorem qd_G_areCut_4 : decode qc_G_areCut 4 = .ok (.iload_n 1, 1) := by decide +kernel
theorem qd_G_areCut_5 : decode qc_G_areCut 5 = .ok (.iaload, 1) := by decide +kernel
theorem qd_G_areCut_6 : decode qc_G_areCut 6 = .ok (.iload_n 2, 1) := by decide +kernel
theorem qd_G_areCut_7 : decode qc_G_areCut 7 = .ok (.ishr, 1) := by decide +kernel
theorem qd_G_areCut_8 : decode qc_G_areCut 8 = .ok (.iconst 1, 1) := by decide +kernel
theorem qd_G_areCut_9 : decode qc_G_areCut 9 = .ok (.iand, 1) := by decide +kernel
theorem qd_G_areCut_10 : decode qc_G_areCut 10 = .ok (.iconst 1, 1) := by decide +kernel
theorem qd_G_areCut_11 : decode qc_G_areCut 11 = .ok (.if_icmp .ne 7, 3) := by decide +kernel
theorem qd_G_areCut_14 : decode qc_G_areCut 14 = .ok (.iconst 1, 1) := by decide +kernel
theorem qd_G_areCut_15 : decode qc_G_areCut 15 = .ok (.goto 4, 3) := by decide +kernel
theorem qd_G_areCut_18 : decode qc_G_areCut 18 = .ok (.iconst 0, 1) := by decide +kernel
theorem qd_G_areCut_19 : decode qc_G_areCut 19 = .ok (.ireturn, 1) := by decide +kernel
theorem qd_G_drop_0 : decode qc_G_drop 0 = .ok (.aload_n 0, 1) := by decide +kernel
theorem qd_G_drop_1 : decode qc_G_drop 1 = .ok (.getfield 25, 3) := by decide +kernel
theorem qd_G_drop_4 : decode qc_G_drop 4 = .ok (.iload_n 1, 1) := by decide +kernel
theorem qd_G_drop_5 : decode qc_G_drop 5 = .ok (.invokevirtual 71, 3) := by decide +kernel
theorem qd_G_drop_8 : decode qc_G_drop 8 = .ok (.ireturn, 1) := by decide +kernel
theorem qd_G_swap_0 : decode qc_G_swap 0 = .ok (.aload_n 0, 1) := by decide +kernel
theorem qd_G_swap_1 : decode qc_G_swap 1 = .ok (.getfield 25, 3) := by decide +kernel
theorem qd_G_swap_4 : decode qc_G_swap 4 = .ok (.iload_n 1, 1) := by decide +kernel
theorem qd_G_swap_5 : decode qc_G_swap 5 = .ok (.invokevirtual 74, 3) := by decide +kernel
theorem qd_G_swap_8 : decode qc_G_swap 8 = .ok (.ireturn, 1) := by decide +kernel
theorem qd_G_ticks_0 : decode qc_G_ticks 0 = .ok (.iload_n 1, 1) := by decide +kernel
theorem qd_G_ticks_1 : decode qc_G_ticks 1 = .ok (.ifCond .lt 9, 3) := by decide +kernel
theorem qd_G_ticks_4 : decode qc_G_ticks 4 = .ok (.iload_n 1, 1) := by decide +kernel
theorem qd_G_ticks_5 : decode qc_G_ticks 5 = .ok (.bipush 100, 2) := by decide +kernel
theorem qd_G_ticks_7 : decode qc_G_ticks 7 = .ok (.if_icmp .le 5, 3) := by decide +kernel
theorem qd_G_ticks_10 : decode qc_G_ticks 10 = .ok (.iconst (-1), 1) := by decide +kernel
theorem qd_G_ticks_11 : decode qc_G_ticks 11 = .ok (.ireturn, 1) := by decide +kernel
theorem qd_G_ticks_12 : decode qc_G_ticks 12 = .ok (.iconst 0, 1) := by decide +kernel
theorem qd_G_ticks_13 : decode qc_G_ticks 13 = .ok (.istore_n 2, 1) := by decide +kernel
theorem qd_G_ticks_14 : decode qc_G_ticks 14 = .ok (.iconst 0, 1) := by decide +kernel
theorem qd_G_ticks_15 : decode qc_G_ticks 15 = .ok (.istore_n 3, 1) := by decide +kernel
theorem qd_G_ticks_16 : decode qc_G_ticks 16 = .ok (.iload_n 3, 1) := by decide +kernel
theorem qd_G_ticks_17 : decode qc_G_ticks 17 = .ok (.iload_n 1, 1) := by decide +kernel
theorem qd_G_ticks_18 : decode qc_G_ticks 18 = .ok (.if_icmp .ge 71, 3) := by decide +kernel
theorem qd_G_ticks_21 : decode qc_G_ticks 21 = .ok (.aload_n 0, 1) := by decide +kernel
theorem qd_G_ticks_22 : decode qc_G_ticks 22 = .ok (.dup, 1) := by decide +kernel
theorem qd_G_ticks_23 : decode qc_G_ticks 23 = .ok (.getfield 42, 3) := by decide +kernel
theorem qd_G_ticks_26 : decode qc_G_ticks 26 = .ok (.iconst 1, 1) := by decide +kernel
theorem qd_G_ticks_27 : decode qc_G_ticks 27 = .ok (.iadd, 1) := by decide +kernel
theorem qd_G_ticks_28 : decode qc_G_ticks 28 = .ok (.putfield 42, 3) := by decide +kernel
theorem qd_G_ticks_31 : decode qc_G_ticks 31 = .ok (.iload_n 2, 1) := by decide +kernel
theorem qd_G_ticks_32 : decode qc_G_ticks 32 = .ok (.aload_n 0, 1) := by decide +kernel
theorem qd_G_ticks_33 : decode qc_G_ticks 33 = .ok (.invokevirtual 77, 3) := by decide +kernel
theorem qd_G_ticks_36 : decode qc_G_ticks 36 = .ok (.iadd, 1) := by decide +kernel
theorem qd_G_ticks_37 : decode qc_G_ticks 37 = .ok (.istore_n 2, 1) := by decide +kernel
theorem qd_G_ticks_38 : decode qc_G_ticks 38 = .ok (.iconst 0, 1) := by decide +kernel
theorem qd_G_ticks_39 : decode qc_G_ticks 39 = .ok (.istore 4, 2) := by decide +kernel
theorem qd_G_ticks_41 : decode qc_G_ticks 41 = .ok (.iload 4, 2) := by decide +kernel
theorem qd_G_ticks_43 : decode qc_G_ticks 43 = .ok (.aload_n 0, 1) := by decide +kernel
theorem qd_G_ticks_44 : decode qc_G_ticks 44 = .ok (.getfield 18, 3) := by decide +kernel
theorem qd_G_ticks_47 : decode qc_G_ticks 47 = .ok (.if_icmp .ge 36, 3) := by decide +kernel
theorem qd_G_ticks_50 : decode qc_G_ticks 50 = .ok (.aload_n 0, 1) := by decide +kernel
theorem qd_G_ticks_51 : decode qc_G_ticks 51 = .ok (.getfield 35, 3) := by decide +kernel
theorem qd_G_ticks_54 : decode qc_G_ticks 54 = .ok (.iload 4, 2) := by decide +kernel
theorem qd_G_ticks_56 : decode qc_G_ticks 56 = .ok (.aaload, 1) := by decide +kernel
theorem qd_G_ticks_57 : decode qc_G_ticks 57 = .ok (.getfield 49, 3) := by decide +kernel
theorem qd_G_ticks_60 : decode qc_G_ticks 60 = .ok (.ifCond .eq 17, 3) := by decide +kernel
theorem qd_G_ticks_63 : decode qc_G_ticks 63 = .ok (.aload_n 0, 1) := by decide +kernel
theorem qd_G_ticks_64 : decode qc_G_ticks 64 = .ok (.getfield 35, 3) := by decide +kernel
theorem qd_G_ticks_67 : decode qc_G_ticks 67 = .ok (.iload 4, 2) := by decide +kernel
theorem qd_G_ticks_69 : decode qc_G_ticks 69 = .ok (.aaload, 1) := by decide +kernel
theorem qd_G_ticks_70 : decode qc_G_ticks 70 = .ok (.aload_n 0, 1) := by decide +kernel
theorem qd_G_ticks_71 : decode qc_G_ticks 71 = .ok (.getfield 42, 3) := by decide +kernel
theorem qd_G_ticks_74 : decode qc_G_ticks 74 = .ok (.invokevirtual 81, 3) := by decide +kernel
theorem qd_G_ticks_77 : decode qc_G_ticks 77 = .ok (.iinc 4 1, 3) := by decide +kernel
theorem qd_G_ticks_80 : decode qc_G_ticks 80 = .ok (.goto (-39), 3) := by decide +kernel
theorem qd_G_ticks_83 : decode qc_G_ticks 83 = .ok (.iinc 3 1, 3) := by decide +kernel
theorem qd_G_ticks_86 : decode qc_G_ticks 86 = .ok (.goto (-70), 3) := by decide +kernel
theorem qd_G_ticks_89 : decode qc_G_ticks 89 = .ok (.iload_n 2, 1) := by decide +kernel
theorem qd_G_ticks_90 : decode qc_G_ticks 90 = .ok (.ireturn, 1) := by decide +kernel
theorem qd_G_deliverAll_0 : decode qc_G_deliverAll 0 = .ok (.aload_n 0, 1) := by decide +kernel
theorem qd_G_deliverAll_1 : decode qc_G_deliverAll 1 = .ok (.getfield 25, 3) := by decide +kernel
theorem qd_G_deliverAll_4 : decode qc_G_deliverAll 4 = .ok (.invokevirtual 112, 3) := by decide +kernel
theorem qd_G_deliverAll_7 : decode qc_G_deliverAll 7 = .ok (.istore_n 1, 1) := by decide +kernel
theorem qd_G_deliverAll_8 : decode qc_G_deliverAll 8 = .ok (.iconst 0, 1) := by decide +kernel
theorem qd_G_deliverAll_9 : decode qc_G_deliverAll 9 = .ok (.istore_n 2, 1) := by decide +kernel
theorem qd_G_deliverAll_10 : decode qc_G_deliverAll 10 = .ok (.iconst 0, 1) := by decide +kernel
theorem qd_G_deliverAll_11 : decode qc_G_deliverAll 11 = .ok (.istore_n 3, 1) := by decide +kernel
theorem qd_G_deliverAll_12 : decode qc_G_deliverAll 12 = .ok (.iload_n 3, 1) := by decide +kernel
theorem qd_G_deliverAll_13 : decode qc_G_deliverAll 13 = .ok (.iload_n 1, 1) := by decide +kernel
theorem qd_G_deliverAll_14 : decode qc_G_deliverAll 14 = .ok (.if_icmp .ge 71, 3) := by decide +kernel
theorem qd_G_deliverAll_17 : decode qc_G_deliverAll 17 = .ok (.aload_n 0, 1) := by decide +kernel
theorem qd_G_deliverAll_18 : decode qc_G_deliverAll 18 = .ok (.getfield 25, 3) := by decide +kernel
theorem qd_G_deliverAll_21 : decode qc_G_deliverAll 21 = .ok (.getfield 115, 3) := by decide +kernel
theorem qd_G_deliverAll_24 : decode qc_G_deliverAll 24 = .ok (.iload_n 3, 1) := by decide +kernel
theorem qd_G_deliverAll_25 : decode qc_G_deliverAll 25 = .ok (.aaload, 1) := by decide +kernel
theorem qd_G_deliverAll_26 : decode qc_G_deliverAll 26 = .ok (.astore 4, 2) := by decide +kernel
theorem qd_G_deliverAll_28 : decode qc_G_deliverAll 28 = .ok (.aload_n 0, 1) := by decide +kernel
theorem qd_G_deliverAll_29 : decode qc_G_deliverAll 29 = .ok (.getfield 35, 3) := by decide +kernel
theorem qd_G_deliverAll_32 : decode qc_G_deliverAll 32 = .ok (.aload 4, 2) := by decide +kernel
theorem qd_G_deliverAll_34 : decode qc_G_deliverAll 34 = .ok (.getfield 118, 3) := by decide +kernel
theorem qd_G_deliverAll_37 : decode qc_G_deliverAll 37 = .ok (.aaload, 1) := by decide +kernel
theorem qd_G_deliverAll_38 : decode qc_G_deliverAll 38 = .ok (.astore 5, 2) := by decide +kernel
theorem qd_G_deliverAll_40 : decode qc_G_deliverAll 40 = .ok (.aload 5, 2) := by decide +kernel
theorem qd_G_deliverAll_42 : decode qc_G_deliverAll 42 = .ok (.getfield 49, 3) := by decide +kernel
theorem qd_G_deliverAll_45 : decode qc_G_deliverAll 45 = .ok (.ifCond .eq 34, 3) := by decide +kernel
theorem qd_G_deliverAll_48 : decode qc_G_deliverAll 48 = .ok (.aload_n 0, 1) := by decide +kernel
theorem qd_G_deliverAll_49 : decode qc_G_deliverAll 49 = .ok (.aload 4, 2) := by decide +kernel
theorem qd_G_deliverAll_51 : decode qc_G_deliverAll 51 = .ok (.getfield 121, 3) := by decide +kernel
theorem qd_G_deliverAll_54 : decode qc_G_deliverAll 54 = .ok (.aload 4, 2) := by decide +kernel
theorem qd_G_deliverAll_56 : decode qc_G_deliverAll 56 = .ok (.getfield 118, 3) := by decide +kernel
theorem qd_G_deliverAll_59 : decode qc_G_deliverAll 59 = .ok (.invokevirtual 67, 3) := by decide +kernel
theorem qd_G_deliverAll_62 : decode qc_G_deliverAll 62 = .ok (.ifCond .ne 17, 3) := by decide +kernel
theorem qd_G_deliverAll_65 : decode qc_G_deliverAll 65 = .ok (.iinc 2 1, 3) := by decide +kernel
theorem qd_G_deliverAll_68 : decode qc_G_deliverAll 68 = .ok (.aload 5, 2) := by decide +kernel
theorem qd_G_deliverAll_70 : decode qc_G_deliverAll 70 = .ok (.aload 4, 2) := by decide +kernel
theorem qd_G_deliverAll_72 : decode qc_G_deliverAll 72 = .ok (.aload_n 0, 1) := by decide +kernel
theorem qd_G_deliverAll_73 : decode qc_G_deliverAll 73 = .ok (.getfield 42, 3) := by decide +kernel
theorem qd_G_deliverAll_76 : decode qc_G_deliverAll 76 = .ok (.invokevirtual 124, 3) := by decide +kernel
theorem qd_G_deliverAll_79 : decode qc_G_deliverAll 79 = .ok (.iinc 3 1, 3) := by decide +kernel
theorem qd_G_deliverAll_82 : decode qc_G_deliverAll 82 = .ok (.goto (-70), 3) := by decide +kernel
theorem qd_G_deliverAll_85 : decode qc_G_deliverAll 85 = .ok (.iload_n 2, 1) := by decide +kernel
theorem qd_G_deliverAll_86 : decode qc_G_deliverAll 86 = .ok (.ireturn, 1) := by decide +kernel
theorem qd_G_now_0 : decode qc_G_now 0 = .ok (.aload_n 0, 1) := by decide +kernel
theorem qd_G_now_1 : decode qc_G_now 1 = .ok (.getfield 42, 3) := by decide +kernel
theorem qd_G_now_4 : decode qc_G_now 4 = .ok (.ireturn, 1) := by decide +kernel
theorem qd_G_flight_0 : decode qc_G_flight 0 = .ok (.aload_n 0, 1) := by decide +kernel
theorem qd_G_flight_1 : decode qc_G_flight 1 = .ok (.getfield 25, 3) := by decide +kernel
theorem qd_G_flight_4 : decode qc_G_flight 4 = .ok (.getfield 84, 3) := by decide +kernel
theorem qd_G_flight_7 : decode qc_G_flight 7 = .ok (.ireturn, 1) := by decide +kernel
theorem qd_G_message_0 : decode qc_G_message 0 = .ok (.iload_n 1, 1) := by decide +kernel
theorem qd_G_message_1 : decode qc_G_message 1 = .ok (.ifCond .lt 14, 3) := by decide +kernel
theorem qd_G_message_4 : decode qc_G_message 4 = .ok (.iload_n 1, 1) := by decide +kernel
theorem qd_G_message_5 : decode qc_G_message 5 = .ok (.aload_n 0, 1) := by decide +kernel
theorem qd_G_message_6 : decode qc_G_message 6 = .ok (.getfield 25, 3) := by decide +kernel
theorem qd_G_message_9 : decode qc_G_message 9 = .ok (.getfield 84, 3) := by decide +kernel
theorem qd_G_message_12 : decode qc_G_message 12 = .ok (.if_icmp .lt 5, 3) := by decide +kernel
theorem qd_G_message_15 : decode qc_G_message 15 = .ok (.iconst 0, 1) := by decide +kernel
theorem qd_G_message_16 : decode qc_G_message 16 = .ok (.ireturn, 1) := by decide +kernel
theorem qd_G_message_17 : decode qc_G_message 17 = .ok (.aload_n 0, 1) := by decide +kernel
theorem qd_G_message_18 : decode qc_G_message 18 = .ok (.getfield 25, 3) := by decide +kernel
theorem qd_G_message_21 : decode qc_G_message 21 = .ok (.getfield 87, 3) := by decide +kernel
theorem qd_G_message_24 : decode qc_G_message 24 = .ok (.iload_n 1, 1) := by decide +kernel
theorem qd_G_message_25 : decode qc_G_message 25 = .ok (.aaload, 1) := by decide +kernel
theorem qd_G_message_26 : decode qc_G_message 26 = .ok (.iload_n 2, 1) := by decide +kernel
theorem qd_G_message_27 : decode qc_G_message 27 = .ok (.invokevirtual 91, 3) := by decide +kernel
theorem qd_G_message_30 : decode qc_G_message 30 = .ok (.ireturn, 1) := by decide +kernel
theorem qd_G_view_0 : decode qc_G_view 0 = .ok (.aload_n 0, 1) := by decide +kernel
theorem qd_G_view_1 : decode qc_G_view 1 = .ok (.iload_n 1, 1) := by decide +kernel
theorem qd_G_view_2 : decode qc_G_view 2 = .ok (.invokevirtual 61, 3) := by decide +kernel
theorem qd_G_view_5 : decode qc_G_view 5 = .ok (.ifCond .ne 5, 3) := by decide +kernel
theorem qd_G_view_8 : decode qc_G_view 8 = .ok (.iconst (-1), 1) := by decide +kernel
theorem qd_G_view_9 : decode qc_G_view 9 = .ok (.ireturn, 1) := by decide +kernel
theorem qd_G_view_10 : decode qc_G_view 10 = .ok (.aload_n 0, 1) := by decide +kernel
theorem qd_G_view_11 : decode qc_G_view 11 = .ok (.iload_n 2, 1) := by decide +kernel
theorem qd_G_view_12 : decode qc_G_view 12 = .ok (.invokevirtual 45, 3) := by decide +kernel
theorem qd_G_view_15 : decode qc_G_view 15 = .ok (.ifCond .eq 21, 3) := by decide +kernel
theorem qd_G_view_18 : decode qc_G_view 18 = .ok (.aload_n 0, 1) := by decide +kernel
theorem qd_G_view_19 : decode qc_G_view 19 = .ok (.getfield 35, 3) := by decide +kernel
theorem qd_G_view_22 : decode qc_G_view 22 = .ok (.iload_n 1, 1) := by decide +kernel
theorem qd_G_view_23 : decode qc_G_view 23 = .ok (.aaload, 1) := by decide +kernel
theorem qd_G_view_24 : decode qc_G_view 24 = .ok (.getfield 97, 3) := by decide +kernel
theorem qd_G_view_27 : decode qc_G_view 27 = .ok (.iload_n 2, 1) := by decide +kernel
theorem qd_G_view_28 : decode qc_G_view 28 = .ok (.aaload, 1) := by decide +kernel
theorem qd_G_view_29 : decode qc_G_view 29 = .ok (.iload_n 3, 1) := by decide +kernel
theorem qd_G_view_30 : decode qc_G_view 30 = .ok (.invokevirtual 101, 3) := by decide +kernel
theorem qd_G_view_33 : decode qc_G_view 33 = .ok (.goto 4, 3) := by decide +kernel
theorem qd_G_view_36 : decode qc_G_view 36 = .ok (.iconst 0, 1) := by decide +kernel
theorem qd_G_view_37 : decode qc_G_view 37 = .ok (.ireturn, 1) := by decide +kernel
theorem qd_G_node_0 : decode qc_G_node 0 = .ok (.aload_n 0, 1) := by decide +kernel
theorem qd_G_node_1 : decode qc_G_node 1 = .ok (.iload_n 1, 1) := by decide +kernel
theorem qd_G_node_2 : decode qc_G_node 2 = .ok (.invokevirtual 45, 3) := by decide +kernel
theorem qd_G_node_5 : decode qc_G_node 5 = .ok (.ifCond .eq 13, 3) := by decide +kernel
theorem qd_G_node_8 : decode qc_G_node 8 = .ok (.iload_n 2, 1) := by decide +kernel
theorem qd_G_node_9 : decode qc_G_node 9 = .ok (.ifCond .lt 9, 3) := by decide +kernel
theorem qd_G_node_12 : decode qc_G_node 12 = .ok (.iload_n 2, 1) := by decide +kernel
theorem qd_G_node_13 : decode qc_G_node 13 = .ok (.bipush 9, 2) := by decide +kernel
theorem qd_G_node_15 : decode qc_G_node 15 = .ok (.if_icmp .le 5, 3) := by decide +kernel
theorem qd_G_node_18 : decode qc_G_node 18 = .ok (.iconst (-1), 1) := by decide +kernel
theorem qd_G_node_19 : decode qc_G_node 19 = .ok (.ireturn, 1) := by decide +kernel
theorem qd_G_node_20 : decode qc_G_node 20 = .ok (.aload_n 0, 1) := by decide +kernel
theorem qd_G_node_21 : decode qc_G_node 21 = .ok (.getfield 35, 3) := by decide +kernel
theorem qd_G_node_24 : decode qc_G_node 24 = .ok (.iload_n 1, 1) := by decide +kernel
theorem qd_G_node_25 : decode qc_G_node 25 = .ok (.aaload, 1) := by decide +kernel
theorem qd_G_node_26 : decode qc_G_node 26 = .ok (.getfield 49, 3) := by decide +kernel
theorem qd_G_node_29 : decode qc_G_node 29 = .ok (.ifCond .eq 16, 3) := by decide +kernel
theorem qd_G_node_32 : decode qc_G_node 32 = .ok (.aload_n 0, 1) := by decide +kernel
theorem qd_G_node_33 : decode qc_G_node 33 = .ok (.getfield 35, 3) := by decide +kernel
theorem qd_G_node_36 : decode qc_G_node 36 = .ok (.iload_n 1, 1) := by decide +kernel
theorem qd_G_node_37 : decode qc_G_node 37 = .ok (.aaload, 1) := by decide +kernel
theorem qd_G_node_38 : decode qc_G_node 38 = .ok (.iload_n 2, 1) := by decide +kernel
theorem qd_G_node_39 : decode qc_G_node 39 = .ok (.invokevirtual 104, 3) := by decide +kernel
theorem qd_G_node_42 : decode qc_G_node 42 = .ok (.goto 4, 3) := by decide +kernel
theorem qd_G_node_45 : decode qc_G_node 45 = .ok (.iconst 0, 1) := by decide +kernel
theorem qd_G_node_46 : decode qc_G_node 46 = .ok (.ireturn, 1) := by decide +kernel
theorem qd_G_queued_0 : decode qc_G_queued 0 = .ok (.aload_n 0, 1) := by decide +kernel
theorem qd_G_queued_1 : decode qc_G_queued 1 = .ok (.iload_n 1, 1) := by decide +kernel
theorem qd_G_queued_2 : decode qc_G_queued 2 = .ok (.invokevirtual 61, 3) := by decide +kernel
theorem qd_G_queued_5 : decode qc_G_queued 5 = .ok (.ifCond .eq 28, 3) := by decide +kernel
theorem qd_G_queued_8 : decode qc_G_queued 8 = .ok (.aload_n 0, 1) := by decide +kernel
theorem qd_G_queued_9 : decode qc_G_queued 9 = .ok (.iload_n 2, 1) := by decide +kernel
theorem qd_G_queued_10 : decode qc_G_queued 10 = .ok (.invokevirtual 45, 3) := by decide +kernel
theorem qd_G_queued_13 : decode qc_G_queued 13 = .ok (.ifCond .eq 20, 3) := by decide +kernel
theorem qd_G_queued_16 : decode qc_G_queued 16 = .ok (.aload_n 0, 1) := by decide +kernel
theorem qd_G_queued_17 : decode qc_G_queued 17 = .ok (.getfield 35, 3) := by decide +kernel
theorem qd_G_queued_20 : decode qc_G_queued 20 = .ok (.iload_n 1, 1) := by decide +kernel
theorem qd_G_queued_21 : decode qc_G_queued 21 = .ok (.aaload, 1) := by decide +kernel
theorem qd_G_queued_22 : decode qc_G_queued 22 = .ok (.getfield 97, 3) := by decide +kernel
theorem qd_G_queued_25 : decode qc_G_queued 25 = .ok (.iload_n 2, 1) := by decide +kernel
theorem qd_G_queued_26 : decode qc_G_queued 26 = .ok (.aaload, 1) := by decide +kernel
theorem qd_G_queued_27 : decode qc_G_queued 27 = .ok (.getfield 105, 3) := by decide +kernel
theorem qd_G_queued_30 : decode qc_G_queued 30 = .ok (.goto 4, 3) := by decide +kernel
theorem qd_G_queued_33 : decode qc_G_queued 33 = .ok (.iconst 0, 1) := by decide +kernel
theorem qd_G_queued_34 : decode qc_G_queued 34 = .ok (.ireturn, 1) := by decide +kernel
theorem qd_G_agreed_0 : decode qc_G_agreed 0 = .ok (.iconst 0, 1) := by decide +kernel
theorem qd_G_agreed_1 : decode qc_G_agreed 1 = .ok (.istore_n 1, 1) := by decide +kernel
theorem qd_G_agreed_2 : decode qc_G_agreed 2 = .ok (.iload_n 1, 1) := by decide +kernel
theorem qd_G_agreed_3 : decode qc_G_agreed 3 = .ok (.aload_n 0, 1) := by decide +kernel
theorem qd_G_agreed_4 : decode qc_G_agreed 4 = .ok (.getfield 18, 3) := by decide +kernel
theorem qd_G_agreed_7 : decode qc_G_agreed 7 = .ok (.if_icmp .ge 36, 3) := by decide +kernel
theorem qd_G_agreed_10 : decode qc_G_agreed 10 = .ok (.aload_n 0, 1) := by decide +kernel
theorem qd_G_agreed_11 : decode qc_G_agreed 11 = .ok (.getfield 35, 3) := by decide +kernel
theorem qd_G_agreed_14 : decode qc_G_agreed 14 = .ok (.iload_n 1, 1) := by decide +kernel
theorem qd_G_agreed_15 : decode qc_G_agreed 15 = .ok (.aaload, 1) := by decide +kernel
theorem qd_G_agreed_16 : decode qc_G_agreed 16 = .ok (.getfield 49, 3) := by decide +kernel
theorem qd_G_agreed_19 : decode qc_G_agreed 19 = .ok (.ifCond .eq 18, 3) := by decide +kernel
theorem qd_G_agreed_22 : decode qc_G_agreed 22 = .ok (.aload_n 0, 1) := by decide +kernel
theorem qd_G_agreed_23 : decode qc_G_agreed 23 = .ok (.aload_n 0, 1) := by decide +kernel
theorem qd_G_agreed_24 : decode qc_G_agreed 24 = .ok (.getfield 35, 3) := by decide +kernel
theorem qd_G_agreed_27 : decode qc_G_agreed 27 = .ok (.iload_n 1, 1) := by decide +kernel
theorem qd_G_agreed_28 : decode qc_G_agreed 28 = .ok (.aaload, 1) := by decide +kernel
theorem qd_G_agreed_29 : decode qc_G_agreed 29 = .ok (.invokevirtual 108, 3) := by decide +kernel
theorem qd_G_agreed_32 : decode qc_G_agreed 32 = .ok (.ifCond .ne 5, 3) := by decide +kernel
theorem qd_G_agreed_35 : decode qc_G_agreed 35 = .ok (.iconst 0, 1) := by decide +kernel
theorem qd_G_agreed_36 : decode qc_G_agreed 36 = .ok (.ireturn, 1) := by decide +kernel
theorem qd_G_agreed_37 : decode qc_G_agreed 37 = .ok (.iinc 1 1, 3) := by decide +kernel
theorem qd_G_agreed_40 : decode qc_G_agreed 40 = .ok (.goto (-38), 3) := by decide +kernel
theorem qd_G_agreed_43 : decode qc_G_agreed 43 = .ok (.iconst 1, 1) := by decide +kernel
theorem qd_G_agreed_44 : decode qc_G_agreed 44 = .ok (.ireturn, 1) := by decide +kernel
theorem qd_G_seesJustTheRunning_0 : decode qc_G_seesJustTheRunning 0 = .ok (.iconst 0, 1) := by decide +kernel
theorem qd_G_seesJustTheRunning_1 : decode qc_G_seesJustTheRunning 1 = .ok (.istore_n 2, 1) := by decide +kernel
theorem qd_G_seesJustTheRunning_2 : decode qc_G_seesJustTheRunning 2 = .ok (.iload_n 2, 1) := by decide +kernel
theorem qd_G_seesJustTheRunning_3 : decode qc_G_seesJustTheRunning 3 = .ok (.aload_n 0, 1) := by decide +kernel
theorem qd_G_seesJustTheRunning_4 : decode qc_G_seesJustTheRunning 4 = .ok (.getfield 18, 3) := by decide +kernel
theorem qd_G_seesJustTheRunning_7 : decode qc_G_seesJustTheRunning 7 = .ok (.if_icmp .ge 76, 3) := by decide +kernel
theorem qd_G_seesJustTheRunning_10 : decode qc_G_seesJustTheRunning 10 = .ok (.aload_n 1, 1) := by decide +kernel
theorem qd_G_seesJustTheRunning_11 : decode qc_G_seesJustTheRunning 11 = .ok (.getfield 97, 3) := by decide +kernel
theorem qd_G_seesJustTheRunning_14 : decode qc_G_seesJustTheRunning 14 = .ok (.iload_n 2, 1) := by decide +kernel
theorem qd_G_seesJustTheRunning_15 : decode qc_G_seesJustTheRunning 15 = .ok (.aaload, 1) := by decide +kernel
theorem qd_G_seesJustTheRunning_16 : decode qc_G_seesJustTheRunning 16 = .ok (.astore_n 3, 1) := by decide +kernel
theorem qd_G_seesJustTheRunning_17 : decode qc_G_seesJustTheRunning 17 = .ok (.aload_n 0, 1) := by decide +kernel
theorem qd_G_seesJustTheRunning_18 : decode qc_G_seesJustTheRunning 18 = .ok (.getfield 35, 3) := by decide +kernel
theorem qd_G_seesJustTheRunning_21 : decode qc_G_seesJustTheRunning 21 = .ok (.iload_n 2, 1) := by decide +kernel
theorem qd_G_seesJustTheRunning_22 : decode qc_G_seesJustTheRunning 22 = .ok (.aaload, 1) := by decide +kernel
theorem qd_G_seesJustTheRunning_23 : decode qc_G_seesJustTheRunning 23 = .ok (.getfield 49, 3) := by decide +kernel
theorem qd_G_seesJustTheRunning_26 : decode qc_G_seesJustTheRunning 26 = .ok (.ifCond .eq 34, 3) := by decide +kernel
theorem qd_G_seesJustTheRunning_29 : decode qc_G_seesJustTheRunning 29 = .ok (.aload_n 3, 1) := by decide +kernel
theorem qd_G_seesJustTheRunning_30 : decode qc_G_seesJustTheRunning 30 = .ok (.getfield 128, 3) := by decide +kernel
theorem qd_G_seesJustTheRunning_33 : decode qc_G_seesJustTheRunning 33 = .ok (.iconst 1, 1) := by decide +kernel
theorem qd_G_seesJustTheRunning_34 : decode qc_G_seesJustTheRunning 34 = .ok (.if_icmp .ne 24, 3) := by decide +kernel
theorem qd_G_seesJustTheRunning_37 : decode qc_G_seesJustTheRunning 37 = .ok (.aload_n 3, 1) := by decide +kernel
theorem qd_G_seesJustTheRunning_38 : decode qc_G_seesJustTheRunning 38 = .ok (.getfield 131, 3) := by decide +kernel
theorem qd_G_seesJustTheRunning_41 : decode qc_G_seesJustTheRunning 41 = .ok (.aload_n 0, 1) := by decide +kernel
theorem qd_G_seesJustTheRunning_42 : decode qc_G_seesJustTheRunning 42 = .ok (.getfield 35, 3) := by decide +kernel
theorem qd_G_seesJustTheRunning_45 : decode qc_G_seesJustTheRunning 45 = .ok (.iload_n 2, 1) := by decide +kernel
theorem qd_G_seesJustTheRunning_46 : decode qc_G_seesJustTheRunning 46 = .ok (.aaload, 1) := by decide +kernel
theorem qd_G_seesJustTheRunning_47 : decode qc_G_seesJustTheRunning 47 = .ok (.getfield 97, 3) := by decide +kernel
theorem qd_G_seesJustTheRunning_50 : decode qc_G_seesJustTheRunning 50 = .ok (.iload_n 2, 1) := by decide +kernel
theorem qd_G_seesJustTheRunning_51 : decode qc_G_seesJustTheRunning 51 = .ok (.aaload, 1) := by decide +kernel
theorem qd_G_seesJustTheRunning_52 : decode qc_G_seesJustTheRunning 52 = .ok (.getfield 131, 3) := by decide +kernel
theorem qd_G_seesJustTheRunning_55 : decode qc_G_seesJustTheRunning 55 = .ok (.if_icmp .eq 22, 3) := by decide +kernel
theorem qd_G_seesJustTheRunning_58 : decode qc_G_seesJustTheRunning 58 = .ok (.iconst 0, 1) := by decide +kernel
theorem qd_G_seesJustTheRunning_59 : decode qc_G_seesJustTheRunning 59 = .ok (.ireturn, 1) := by decide +kernel
theorem qd_G_seesJustTheRunning_60 : decode qc_G_seesJustTheRunning 60 = .ok (.aload_n 3, 1) := by decide +kernel
theorem qd_G_seesJustTheRunning_61 : decode qc_G_seesJustTheRunning 61 = .ok (.getfield 128, 3) := by decide +kernel
theorem qd_G_seesJustTheRunning_64 : decode qc_G_seesJustTheRunning 64 = .ok (.ifCond .eq 13, 3) := by decide +kernel
theorem qd_G_seesJustTheRunning_67 : decode qc_G_seesJustTheRunning 67 = .ok (.aload_n 3, 1) := by decide +kernel
theorem qd_G_seesJustTheRunning_68 : decode qc_G_seesJustTheRunning 68 = .ok (.getfield 128, 3) := by decide +kernel
theorem qd_G_seesJustTheRunning_71 : decode qc_G_seesJustTheRunning 71 = .ok (.iconst 3, 1) := by decide +kernel
theorem qd_G_seesJustTheRunning_72 : decode qc_G_seesJustTheRunning 72 = .ok (.if_icmp .eq 5, 3) := by decide +kernel
theorem qd_G_seesJustTheRunning_75 : decode qc_G_seesJustTheRunning 75 = .ok (.iconst 0, 1) := by decide +kernel
theorem qd_G_seesJustTheRunning_76 : decode qc_G_seesJustTheRunning 76 = .ok (.ireturn, 1) := by decide +kernel
theorem qd_G_seesJustTheRunning_77 : decode qc_G_seesJustTheRunning 77 = .ok (.iinc 2 1, 3) := by decide +kernel
theorem qd_G_seesJustTheRunning_80 : decode qc_G_seesJustTheRunning 80 = .ok (.goto (-78), 3) := by decide +kernel
theorem qd_G_seesJustTheRunning_83 : decode qc_G_seesJustTheRunning 83 = .ok (.iconst 1, 1) := by decide +kernel
theorem qd_G_seesJustTheRunning_84 : decode qc_G_seesJustTheRunning 84 = .ok (.ireturn, 1) := by decide +kernel
