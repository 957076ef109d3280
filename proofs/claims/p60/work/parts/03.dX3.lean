theorem dX3_init_0 : decode cX3_init 0 = .ok (.aload_n 0, 1) := by decide +kernel
theorem dX3_init_1 : decode cX3_init 1 = .ok (.invokespecial 3, 3) := by decide +kernel
theorem dX3_init_4 : decode cX3_init 4 = .ok (.aload_n 0, 1) := by decide +kernel
theorem dX3_init_5 : decode cX3_init 5 = .ok (.iconst (-1), 1) := by decide +kernel
theorem dX3_init_6 : decode cX3_init 6 = .ok (.putfield 9, 3) := by decide +kernel
theorem dX3_init_9 : decode cX3_init 9 = .ok (.aload_n 0, 1) := by decide +kernel
theorem dX3_init_10 : decode cX3_init 10 = .ok (.iconst (-1), 1) := by decide +kernel
theorem dX3_init_11 : decode cX3_init 11 = .ok (.putfield 15, 3) := by decide +kernel
theorem dX3_init_14 : decode cX3_init 14 = .ok (.aload_n 0, 1) := by decide +kernel
theorem dX3_init_15 : decode cX3_init 15 = .ok (.bipush 80, 2) := by decide +kernel
theorem dX3_init_17 : decode cX3_init 17 = .ok (.newarray .int, 2) := by decide +kernel
theorem dX3_init_19 : decode cX3_init 19 = .ok (.putfield 18, 3) := by decide +kernel
theorem dX3_init_22 : decode cX3_init 22 = .ok (.aload_n 0, 1) := by decide +kernel
theorem dX3_init_23 : decode cX3_init 23 = .ok (.bipush 110, 2) := by decide +kernel
theorem dX3_init_25 : decode cX3_init 25 = .ok (.putfield 22, 3) := by decide +kernel
theorem dX3_init_28 : decode cX3_init 28 = .ok (.aload_n 0, 1) := by decide +kernel
theorem dX3_init_29 : decode cX3_init 29 = .ok (.new 26, 3) := by decide +kernel
theorem dX3_init_32 : decode cX3_init 32 = .ok (.dup, 1) := by decide +kernel
theorem dX3_init_33 : decode cX3_init 33 = .ok (.invokespecial 28, 3) := by decide +kernel
theorem dX3_init_36 : decode cX3_init 36 = .ok (.putfield 29, 3) := by decide +kernel
theorem dX3_init_39 : decode cX3_init 39 = .ok (.aload_n 0, 1) := by decide +kernel
theorem dX3_init_40 : decode cX3_init 40 = .ok (.bipush 110, 2) := by decide +kernel
theorem dX3_init_42 : decode cX3_init 42 = .ok (.putfield 33, 3) := by decide +kernel
theorem dX3_init_45 : decode cX3_init 45 = .ok (.aload_n 0, 1) := by decide +kernel
theorem dX3_init_46 : decode cX3_init 46 = .ok (.new 26, 3) := by decide +kernel
theorem dX3_init_49 : decode cX3_init 49 = .ok (.dup, 1) := by decide +kernel
theorem dX3_init_50 : decode cX3_init 50 = .ok (.invokespecial 28, 3) := by decide +kernel
theorem dX3_init_53 : decode cX3_init 53 = .ok (.putfield 36, 3) := by decide +kernel
theorem dX3_init_56 : decode cX3_init 56 = .ok (.return_, 1) := by decide +kernel
theorem dX3_begin_0 : decode cX3_begin 0 = .ok (.aload_n 0, 1) := by decide +kernel
theorem dX3_begin_1 : decode cX3_begin 1 = .ok (.iload_n 1, 1) := by decide +kernel
theorem dX3_begin_2 : decode cX3_begin 2 = .ok (.putfield 39, 3) := by decide +kernel
theorem dX3_begin_5 : decode cX3_begin 5 = .ok (.aload_n 0, 1) := by decide +kernel
theorem dX3_begin_6 : decode cX3_begin 6 = .ok (.iload_n 2, 1) := by decide +kernel
theorem dX3_begin_7 : decode cX3_begin 7 = .ok (.putfield 42, 3) := by decide +kernel
theorem dX3_begin_10 : decode cX3_begin 10 = .ok (.aload_n 0, 1) := by decide +kernel
theorem dX3_begin_11 : decode cX3_begin 11 = .ok (.iload_n 3, 1) := by decide +kernel
theorem dX3_begin_12 : decode cX3_begin 12 = .ok (.putfield 45, 3) := by decide +kernel
theorem dX3_begin_15 : decode cX3_begin 15 = .ok (.aload_n 0, 1) := by decide +kernel
theorem dX3_begin_16 : decode cX3_begin 16 = .ok (.iload_n 3, 1) := by decide +kernel
theorem dX3_begin_17 : decode cX3_begin 17 = .ok (.putfield 48, 3) := by decide +kernel
theorem dX3_begin_20 : decode cX3_begin 20 = .ok (.aload_n 0, 1) := by decide +kernel
theorem dX3_begin_21 : decode cX3_begin 21 = .ok (.iconst (-1), 1) := by decide +kernel
theorem dX3_begin_22 : decode cX3_begin 22 = .ok (.putfield 9, 3) := by decide +kernel
theorem dX3_begin_25 : decode cX3_begin 25 = .ok (.aload_n 0, 1) := by decide +kernel
theorem dX3_begin_26 : decode cX3_begin 26 = .ok (.iconst 0, 1) := by decide +kernel
theorem dX3_begin_27 : decode cX3_begin 27 = .ok (.putfield 51, 3) := by decide +kernel
theorem dX3_begin_30 : decode cX3_begin 30 = .ok (.aload_n 0, 1) := by decide +kernel
theorem dX3_begin_31 : decode cX3_begin 31 = .ok (.iconst (-1), 1) := by decide +kernel
theorem dX3_begin_32 : decode cX3_begin 32 = .ok (.putfield 15, 3) := by decide +kernel
theorem dX3_begin_35 : decode cX3_begin 35 = .ok (.aload_n 0, 1) := by decide +kernel
theorem dX3_begin_36 : decode cX3_begin 36 = .ok (.iconst 0, 1) := by decide +kernel
theorem dX3_begin_37 : decode cX3_begin 37 = .ok (.putfield 54, 3) := by decide +kernel
theorem dX3_begin_40 : decode cX3_begin 40 = .ok (.aload_n 0, 1) := by decide +kernel
theorem dX3_begin_41 : decode cX3_begin 41 = .ok (.iconst 0, 1) := by decide +kernel
theorem dX3_begin_42 : decode cX3_begin 42 = .ok (.putfield 57, 3) := by decide +kernel
theorem dX3_begin_45 : decode cX3_begin 45 = .ok (.aload_n 0, 1) := by decide +kernel
theorem dX3_begin_46 : decode cX3_begin 46 = .ok (.iconst 0, 1) := by decide +kernel
theorem dX3_begin_47 : decode cX3_begin 47 = .ok (.putfield 61, 3) := by decide +kernel
theorem dX3_begin_50 : decode cX3_begin 50 = .ok (.return_, 1) := by decide +kernel
theorem dX3_copyQuestion_0 : decode cX3_copyQuestion 0 = .ok (.aload_n 0, 1) := by decide +kernel
theorem dX3_copyQuestion_1 : decode cX3_copyQuestion 1 = .ok (.aload_n 1, 1) := by decide +kernel
theorem dX3_copyQuestion_2 : decode cX3_copyQuestion 2 = .ok (.getfield 39, 3) := by decide +kernel
theorem dX3_copyQuestion_5 : decode cX3_copyQuestion 5 = .ok (.putfield 39, 3) := by decide +kernel
theorem dX3_copyQuestion_8 : decode cX3_copyQuestion 8 = .ok (.aload_n 0, 1) := by decide +kernel
theorem dX3_copyQuestion_9 : decode cX3_copyQuestion 9 = .ok (.aload_n 1, 1) := by decide +kernel
theorem dX3_copyQuestion_10 : decode cX3_copyQuestion 10 = .ok (.getfield 42, 3) := by decide +kernel
theorem dX3_copyQuestion_13 : decode cX3_copyQuestion 13 = .ok (.putfield 42, 3) := by decide +kernel
theorem dX3_copyQuestion_16 : decode cX3_copyQuestion 16 = .ok (.aload_n 0, 1) := by decide +kernel
theorem dX3_copyQuestion_17 : decode cX3_copyQuestion 17 = .ok (.aload_n 1, 1) := by decide +kernel
theorem dX3_copyQuestion_18 : decode cX3_copyQuestion 18 = .ok (.getfield 45, 3) := by decide +kernel
theorem dX3_copyQuestion_21 : decode cX3_copyQuestion 21 = .ok (.putfield 45, 3) := by decide +kernel
theorem dX3_copyQuestion_24 : decode cX3_copyQuestion 24 = .ok (.aload_n 0, 1) := by decide +kernel
theorem dX3_copyQuestion_25 : decode cX3_copyQuestion 25 = .ok (.aload_n 1, 1) := by decide +kernel
theorem dX3_copyQuestion_26 : decode cX3_copyQuestion 26 = .ok (.getfield 9, 3) := by decide +kernel
theorem dX3_copyQuestion_29 : decode cX3_copyQuestion 29 = .ok (.putfield 9, 3) := by decide +kernel
theorem dX3_copyQuestion_32 : decode cX3_copyQuestion 32 = .ok (.aload_n 0, 1) := by decide +kernel
theorem dX3_copyQuestion_33 : decode cX3_copyQuestion 33 = .ok (.aload_n 1, 1) := by decide +kernel
theorem dX3_copyQuestion_34 : decode cX3_copyQuestion 34 = .ok (.getfield 51, 3) := by decide +kernel
theorem dX3_copyQuestion_37 : decode cX3_copyQuestion 37 = .ok (.putfield 51, 3) := by decide +kernel
theorem dX3_copyQuestion_40 : decode cX3_copyQuestion 40 = .ok (.aload_n 0, 1) := by decide +kernel
theorem dX3_copyQuestion_41 : decode cX3_copyQuestion 41 = .ok (.aload_n 1, 1) := by decide +kernel
theorem dX3_copyQuestion_42 : decode cX3_copyQuestion 42 = .ok (.getfield 15, 3) := by decide +kernel
theorem dX3_copyQuestion_45 : decode cX3_copyQuestion 45 = .ok (.putfield 15, 3) := by decide +kernel
theorem dX3_copyQuestion_48 : decode cX3_copyQuestion 48 = .ok (.aload_n 0, 1) := by decide +kernel
theorem dX3_copyQuestion_49 : decode cX3_copyQuestion 49 = .ok (.aload_n 1, 1) := by decide +kernel
theorem dX3_copyQuestion_50 : decode cX3_copyQuestion 50 = .ok (.getfield 54, 3) := by decide +kernel
theorem dX3_copyQuestion_53 : decode cX3_copyQuestion 53 = .ok (.putfield 54, 3) := by decide +kernel
theorem dX3_copyQuestion_56 : decode cX3_copyQuestion 56 = .ok (.aload_n 1, 1) := by decide +kernel
theorem dX3_copyQuestion_57 : decode cX3_copyQuestion 57 = .ok (.getfield 18, 3) := by decide +kernel
theorem dX3_copyQuestion_60 : decode cX3_copyQuestion 60 = .ok (.iconst 0, 1) := by decide +kernel
theorem dX3_copyQuestion_61 : decode cX3_copyQuestion 61 = .ok (.aload_n 0, 1) := by decide +kernel
theorem dX3_copyQuestion_62 : decode cX3_copyQuestion 62 = .ok (.getfield 18, 3) := by decide +kernel
theorem dX3_copyQuestion_65 : decode cX3_copyQuestion 65 = .ok (.iconst 0, 1) := by decide +kernel
theorem dX3_copyQuestion_66 : decode cX3_copyQuestion 66 = .ok (.bipush 80, 2) := by decide +kernel
theorem dX3_copyQuestion_68 : decode cX3_copyQuestion 68 = .ok (.invokestatic 64, 3) := by decide +kernel
theorem dX3_copyQuestion_71 : decode cX3_copyQuestion 71 = .ok (.return_, 1) := by decide +kernel
theorem dX3_at_0 : decode cX3_at 0 = .ok (.iload_n 1, 1) := by decide +kernel
theorem dX3_at_1 : decode cX3_at 1 = .ok (.iconst 5, 1) := by decide +kernel
theorem dX3_at_2 : decode cX3_at 2 = .ok (.imul, 1) := by decide +kernel
theorem dX3_at_3 : decode cX3_at 3 = .ok (.iload_n 2, 1) := by decide +kernel
theorem dX3_at_4 : decode cX3_at 4 = .ok (.iadd, 1) := by decide +kernel
theorem dX3_at_5 : decode cX3_at 5 = .ok (.istore_n 3, 1) := by decide +kernel
theorem dX3_at_6 : decode cX3_at 6 = .ok (.iload_n 1, 1) := by decide +kernel
theorem dX3_at_7 : decode cX3_at 7 = .ok (.ifCond .lt 26, 3) := by decide +kernel
theorem dX3_at_10 : decode cX3_at 10 = .ok (.iload_n 1, 1) := by decide +kernel
theorem dX3_at_11 : decode cX3_at 11 = .ok (.aload_n 0, 1) := by decide +kernel
theorem dX3_at_12 : decode cX3_at 12 = .ok (.getfield 54, 3) := by decide +kernel
theorem dX3_at_15 : decode cX3_at 15 = .ok (.if_icmp .ge 18, 3) := by decide +kernel
theorem dX3_at_18 : decode cX3_at 18 = .ok (.iload_n 3, 1) := by decide +kernel
theorem dX3_at_19 : decode cX3_at 19 = .ok (.bipush 80, 2) := by decide +kernel
theorem dX3_at_21 : decode cX3_at 21 = .ok (.if_icmp .ge 12, 3) := by decide +kernel
theorem dX3_at_24 : decode cX3_at 24 = .ok (.aload_n 0, 1) := by decide +kernel
theorem dX3_at_25 : decode cX3_at 25 = .ok (.getfield 18, 3) := by decide +kernel
theorem dX3_at_28 : decode cX3_at 28 = .ok (.iload_n 3, 1) := by decide +kernel
theorem dX3_at_29 : decode cX3_at 29 = .ok (.iaload, 1) := by decide +kernel
theorem dX3_at_30 : decode cX3_at 30 = .ok (.goto 4, 3) := by decide +kernel
theorem dX3_at_33 : decode cX3_at 33 = .ok (.iconst 0, 1) := by decide +kernel
theorem dX3_at_34 : decode cX3_at 34 = .ok (.ireturn, 1) := by decide +kernel
theorem dX3_setItem_0 : decode cX3_setItem 0 = .ok (.iload_n 1, 1) := by decide +kernel
theorem dX3_setItem_1 : decode cX3_setItem 1 = .ok (.ifCond .lt 26, 3) := by decide +kernel
theorem dX3_setItem_4 : decode cX3_setItem 4 = .ok (.iload_n 1, 1) := by decide +kernel
theorem dX3_setItem_5 : decode cX3_setItem 5 = .ok (.iconst 1, 1) := by decide +kernel
theorem dX3_setItem_6 : decode cX3_setItem 6 = .ok (.iadd, 1) := by decide +kernel
theorem dX3_setItem_7 : decode cX3_setItem 7 = .ok (.iconst 5, 1) := by decide +kernel
theorem dX3_setItem_8 : decode cX3_setItem 8 = .ok (.imul, 1) := by decide +kernel
theorem dX3_setItem_9 : decode cX3_setItem 9 = .ok (.bipush 80, 2) := by decide +kernel
theorem dX3_setItem_11 : decode cX3_setItem 11 = .ok (.if_icmp .gt 16, 3) := by decide +kernel
theorem dX3_setItem_14 : decode cX3_setItem 14 = .ok (.aload_n 2, 1) := by decide +kernel
theorem dX3_setItem_15 : decode cX3_setItem 15 = .ok (.iconst 0, 1) := by decide +kernel
theorem dX3_setItem_16 : decode cX3_setItem 16 = .ok (.aload_n 0, 1) := by decide +kernel
theorem dX3_setItem_17 : decode cX3_setItem 17 = .ok (.getfield 18, 3) := by decide +kernel
theorem dX3_setItem_20 : decode cX3_setItem 20 = .ok (.iload_n 1, 1) := by decide +kernel
theorem dX3_setItem_21 : decode cX3_setItem 21 = .ok (.iconst 5, 1) := by decide +kernel
theorem dX3_setItem_22 : decode cX3_setItem 22 = .ok (.imul, 1) := by decide +kernel
theorem dX3_setItem_23 : decode cX3_setItem 23 = .ok (.iconst 5, 1) := by decide +kernel
theorem dX3_setItem_24 : decode cX3_setItem 24 = .ok (.invokestatic 64, 3) := by decide +kernel
theorem dX3_setItem_27 : decode cX3_setItem 27 = .ok (.return_, 1) := by decide +kernel
theorem dX3_addItem_0 : decode cX3_addItem 0 = .ok (.aload_n 0, 1) := by decide +kernel
theorem dX3_addItem_1 : decode cX3_addItem 1 = .ok (.getfield 54, 3) := by decide +kernel
theorem dX3_addItem_4 : decode cX3_addItem 4 = .ok (.iconst 5, 1) := by decide +kernel
theorem dX3_addItem_5 : decode cX3_addItem 5 = .ok (.imul, 1) := by decide +kernel
theorem dX3_addItem_6 : decode cX3_addItem 6 = .ok (.istore 4, 2) := by decide +kernel
theorem dX3_addItem_8 : decode cX3_addItem 8 = .ok (.iload 4, 2) := by decide +kernel
theorem dX3_addItem_10 : decode cX3_addItem 10 = .ok (.iconst 5, 1) := by decide +kernel
theorem dX3_addItem_11 : decode cX3_addItem 11 = .ok (.iadd, 1) := by decide +kernel
theorem dX3_addItem_12 : decode cX3_addItem 12 = .ok (.bipush 80, 2) := by decide +kernel
theorem dX3_addItem_14 : decode cX3_addItem 14 = .ok (.if_icmp .gt 61, 3) := by decide +kernel
theorem dX3_addItem_17 : decode cX3_addItem 17 = .ok (.aload_n 0, 1) := by decide +kernel
theorem dX3_addItem_18 : decode cX3_addItem 18 = .ok (.getfield 18, 3) := by decide +kernel
theorem dX3_addItem_21 : decode cX3_addItem 21 = .ok (.iload 4, 2) := by decide +kernel
theorem dX3_addItem_23 : decode cX3_addItem 23 = .ok (.iload_n 1, 1) := by decide +kernel
theorem dX3_addItem_24 : decode cX3_addItem 24 = .ok (.iastore, 1) := by decide +kernel
theorem dX3_addItem_25 : decode cX3_addItem 25 = .ok (.aload_n 0, 1) := by decide +kernel
theorem dX3_addItem_26 : decode cX3_addItem 26 = .ok (.getfield 18, 3) := by decide +kernel
theorem dX3_addItem_29 : decode cX3_addItem 29 = .ok (.iload 4, 2) := by decide +kernel
theorem dX3_addItem_31 : decode cX3_addItem 31 = .ok (.iconst 1, 1) := by decide +kernel
theorem dX3_addItem_32 : decode cX3_addItem 32 = .ok (.iadd, 1) := by decide +kernel
theorem dX3_addItem_33 : decode cX3_addItem 33 = .ok (.iload_n 2, 1) := by decide +kernel
theorem dX3_addItem_34 : decode cX3_addItem 34 = .ok (.iastore, 1) := by decide +kernel
theorem dX3_addItem_35 : decode cX3_addItem 35 = .ok (.aload_n 0, 1) := by decide +kernel
theorem dX3_addItem_36 : decode cX3_addItem 36 = .ok (.getfield 18, 3) := by decide +kernel
theorem dX3_addItem_39 : decode cX3_addItem 39 = .ok (.iload 4, 2) := by decide +kernel
theorem dX3_addItem_41 : decode cX3_addItem 41 = .ok (.iconst 2, 1) := by decide +kernel
theorem dX3_addItem_42 : decode cX3_addItem 42 = .ok (.iadd, 1) := by decide +kernel
theorem dX3_addItem_43 : decode cX3_addItem 43 = .ok (.iload_n 3, 1) := by decide +kernel
theorem dX3_addItem_44 : decode cX3_addItem 44 = .ok (.iastore, 1) := by decide +kernel
theorem dX3_addItem_45 : decode cX3_addItem 45 = .ok (.aload_n 0, 1) := by decide +kernel
theorem dX3_addItem_46 : decode cX3_addItem 46 = .ok (.getfield 18, 3) := by decide +kernel
theorem dX3_addItem_49 : decode cX3_addItem 49 = .ok (.iload 4, 2) := by decide +kernel
theorem dX3_addItem_51 : decode cX3_addItem 51 = .ok (.iconst 3, 1) := by decide +kernel
theorem dX3_addItem_52 : decode cX3_addItem 52 = .ok (.iadd, 1) := by decide +kernel
theorem dX3_addItem_53 : decode cX3_addItem 53 = .ok (.iconst 0, 1) := by decide +kernel
theorem dX3_addItem_54 : decode cX3_addItem 54 = .ok (.iastore, 1) := by decide +kernel
theorem dX3_addItem_55 : decode cX3_addItem 55 = .ok (.aload_n 0, 1) := by decide +kernel
theorem dX3_addItem_56 : decode cX3_addItem 56 = .ok (.getfield 18, 3) := by decide +kernel
theorem dX3_addItem_59 : decode cX3_addItem 59 = .ok (.iload 4, 2) := by decide +kernel
theorem dX3_addItem_61 : decode cX3_addItem 61 = .ok (.iconst 4, 1) := by decide +kernel
theorem dX3_addItem_62 : decode cX3_addItem 62 = .ok (.iadd, 1) := by decide +kernel
theorem dX3_addItem_63 : decode cX3_addItem 63 = .ok (.iconst 0, 1) := by decide +kernel
theorem dX3_addItem_64 : decode cX3_addItem 64 = .ok (.iastore, 1) := by decide +kernel
theorem dX3_addItem_65 : decode cX3_addItem 65 = .ok (.aload_n 0, 1) := by decide +kernel
theorem dX3_addItem_66 : decode cX3_addItem 66 = .ok (.dup, 1) := by decide +kernel
theorem dX3_addItem_67 : decode cX3_addItem 67 = .ok (.getfield 54, 3) := by decide +kernel
theorem dX3_addItem_70 : decode cX3_addItem 70 = .ok (.iconst 1, 1) := by decide +kernel
theorem dX3_addItem_71 : decode cX3_addItem 71 = .ok (.iadd, 1) := by decide +kernel
theorem dX3_addItem_72 : decode cX3_addItem 72 = .ok (.putfield 54, 3) := by decide +kernel
theorem dX3_addItem_75 : decode cX3_addItem 75 = .ok (.return_, 1) := by decide +kernel
theorem dX3_addTo_0 : decode cX3_addTo 0 = .ok (.iload_n 1, 1) := by decide +kernel
theorem dX3_addTo_1 : decode cX3_addTo 1 = .ok (.iconst 5, 1) := by decide +kernel
theorem dX3_addTo_2 : decode cX3_addTo 2 = .ok (.imul, 1) := by decide +kernel
theorem dX3_addTo_3 : decode cX3_addTo 3 = .ok (.iload_n 2, 1) := by decide +kernel
theorem dX3_addTo_4 : decode cX3_addTo 4 = .ok (.iadd, 1) := by decide +kernel
theorem dX3_addTo_5 : decode cX3_addTo 5 = .ok (.istore 4, 2) := by decide +kernel
theorem dX3_addTo_7 : decode cX3_addTo 7 = .ok (.iload 4, 2) := by decide +kernel
theorem dX3_addTo_9 : decode cX3_addTo 9 = .ok (.ifCond .lt 21, 3) := by decide +kernel
theorem dX3_addTo_12 : decode cX3_addTo 12 = .ok (.iload 4, 2) := by decide +kernel
theorem dX3_addTo_14 : decode cX3_addTo 14 = .ok (.bipush 80, 2) := by decide +kernel
theorem dX3_addTo_16 : decode cX3_addTo 16 = .ok (.if_icmp .ge 14, 3) := by decide +kernel
theorem dX3_addTo_19 : decode cX3_addTo 19 = .ok (.aload_n 0, 1) := by decide +kernel
theorem dX3_addTo_20 : decode cX3_addTo 20 = .ok (.getfield 18, 3) := by decide +kernel
theorem dX3_addTo_23 : decode cX3_addTo 23 = .ok (.iload 4, 2) := by decide +kernel
theorem dX3_addTo_25 : decode cX3_addTo 25 = .ok (.dup2, 1) := by decide +kernel
theorem dX3_addTo_26 : decode cX3_addTo 26 = .ok (.iaload, 1) := by decide +kernel
theorem dX3_addTo_27 : decode cX3_addTo 27 = .ok (.iload_n 3, 1) := by decide +kernel
theorem dX3_addTo_28 : decode cX3_addTo 28 = .ok (.iadd, 1) := by decide +kernel
theorem dX3_addTo_29 : decode cX3_addTo 29 = .ok (.iastore, 1) := by decide +kernel
theorem dX3_addTo_30 : decode cX3_addTo 30 = .ok (.return_, 1) := by decide +kernel
theorem dX3_countUnlike_0 : decode cX3_countUnlike 0 = .ok (.iconst 0, 1) := by decide +kernel
theorem dX3_countUnlike_1 : decode cX3_countUnlike 1 = .ok (.istore_n 3, 1) := by decide +kernel
theorem dX3_countUnlike_2 : decode cX3_countUnlike 2 = .ok (.iconst 0, 1) := by decide +kernel
theorem dX3_countUnlike_3 : decode cX3_countUnlike 3 = .ok (.istore 4, 2) := by decide +kernel
theorem dX3_countUnlike_5 : decode cX3_countUnlike 5 = .ok (.iload 4, 2) := by decide +kernel
theorem dX3_countUnlike_7 : decode cX3_countUnlike 7 = .ok (.iconst 5, 1) := by decide +kernel
theorem dX3_countUnlike_8 : decode cX3_countUnlike 8 = .ok (.if_icmp .ge 26, 3) := by decide +kernel
theorem dX3_countUnlike_11 : decode cX3_countUnlike 11 = .ok (.aload_n 0, 1) := by decide +kernel
theorem dX3_countUnlike_12 : decode cX3_countUnlike 12 = .ok (.iload_n 1, 1) := by decide +kernel
theorem dX3_countUnlike_13 : decode cX3_countUnlike 13 = .ok (.iload 4, 2) := by decide +kernel
theorem dX3_countUnlike_15 : decode cX3_countUnlike 15 = .ok (.invokevirtual 70, 3) := by decide +kernel
theorem dX3_countUnlike_18 : decode cX3_countUnlike 18 = .ok (.aload_n 2, 1) := by decide +kernel
theorem dX3_countUnlike_19 : decode cX3_countUnlike 19 = .ok (.iload 4, 2) := by decide +kernel
theorem dX3_countUnlike_21 : decode cX3_countUnlike 21 = .ok (.iaload, 1) := by decide +kernel
theorem dX3_countUnlike_22 : decode cX3_countUnlike 22 = .ok (.if_icmp .eq 6, 3) := by decide +kernel
theorem dX3_countUnlike_25 : decode cX3_countUnlike 25 = .ok (.iinc 3 1, 3) := by decide +kernel
theorem dX3_countUnlike_28 : decode cX3_countUnlike 28 = .ok (.iinc 4 1, 3) := by decide +kernel
theorem dX3_countUnlike_31 : decode cX3_countUnlike 31 = .ok (.goto (-26), 3) := by decide +kernel
theorem dX3_countUnlike_34 : decode cX3_countUnlike 34 = .ok (.iload_n 3, 1) := by decide +kernel
theorem dX3_countUnlike_35 : decode cX3_countUnlike 35 = .ok (.ireturn, 1) := by decide +kernel
theorem dX3_removeItem_0 : decode cX3_removeItem 0 = .ok (.iload_n 1, 1) := by decide +kernel
theorem dX3_removeItem_1 : decode cX3_removeItem 1 = .ok (.iconst 5, 1) := by decide +kernel
theorem dX3_removeItem_2 : decode cX3_removeItem 2 = .ok (.imul, 1) := by decide +kernel
theorem dX3_removeItem_3 : decode cX3_removeItem 3 = .ok (.istore_n 2, 1) := by decide +kernel
theorem dX3_removeItem_4 : decode cX3_removeItem 4 = .ok (.aload_n 0, 1) := by decide +kernel
theorem dX3_removeItem_5 : decode cX3_removeItem 5 = .ok (.getfield 54, 3) := by decide +kernel
theorem dX3_removeItem_8 : decode cX3_removeItem 8 = .ok (.iload_n 1, 1) := by decide +kernel
theorem dX3_removeItem_9 : decode cX3_removeItem 9 = .ok (.isub, 1) := by decide +kernel
theorem dX3_removeItem_10 : decode cX3_removeItem 10 = .ok (.iconst 1, 1) := by decide +kernel
theorem dX3_removeItem_11 : decode cX3_removeItem 11 = .ok (.isub, 1) := by decide +kernel
theorem dX3_removeItem_12 : decode cX3_removeItem 12 = .ok (.iconst 5, 1) := by decide +kernel
theorem dX3_removeItem_13 : decode cX3_removeItem 13 = .ok (.imul, 1) := by decide +kernel
theorem dX3_removeItem_14 : decode cX3_removeItem 14 = .ok (.istore_n 3, 1) := by decide +kernel
theorem dX3_removeItem_15 : decode cX3_removeItem 15 = .ok (.iload_n 1, 1) := by decide +kernel
theorem dX3_removeItem_16 : decode cX3_removeItem 16 = .ok (.ifCond .lt 23, 3) := by decide +kernel
theorem dX3_removeItem_19 : decode cX3_removeItem 19 = .ok (.iload_n 3, 1) := by decide +kernel
theorem dX3_removeItem_20 : decode cX3_removeItem 20 = .ok (.ifCond .le 19, 3) := by decide +kernel
theorem dX3_removeItem_23 : decode cX3_removeItem 23 = .ok (.aload_n 0, 1) := by decide +kernel
theorem dX3_removeItem_24 : decode cX3_removeItem 24 = .ok (.getfield 18, 3) := by decide +kernel
theorem dX3_removeItem_27 : decode cX3_removeItem 27 = .ok (.iload_n 2, 1) := by decide +kernel
theorem dX3_removeItem_28 : decode cX3_removeItem 28 = .ok (.iconst 5, 1) := by decide +kernel
theorem dX3_removeItem_29 : decode cX3_removeItem 29 = .ok (.iadd, 1) := by decide +kernel
theorem dX3_removeItem_30 : decode cX3_removeItem 30 = .ok (.aload_n 0, 1) := by decide +kernel
theorem dX3_removeItem_31 : decode cX3_removeItem 31 = .ok (.getfield 18, 3) := by decide +kernel
theorem dX3_removeItem_34 : decode cX3_removeItem 34 = .ok (.iload_n 2, 1) := by decide +kernel
theorem dX3_removeItem_35 : decode cX3_removeItem 35 = .ok (.iload_n 3, 1) := by decide +kernel
theorem dX3_removeItem_36 : decode cX3_removeItem 36 = .ok (.invokestatic 64, 3) := by decide +kernel
theorem dX3_removeItem_39 : decode cX3_removeItem 39 = .ok (.aload_n 0, 1) := by decide +kernel
theorem dX3_removeItem_40 : decode cX3_removeItem 40 = .ok (.dup, 1) := by decide +kernel
theorem dX3_removeItem_41 : decode cX3_removeItem 41 = .ok (.getfield 54, 3) := by decide +kernel
theorem dX3_removeItem_44 : decode cX3_removeItem 44 = .ok (.iconst 1, 1) := by decide +kernel
theorem dX3_removeItem_45 : decode cX3_removeItem 45 = .ok (.isub, 1) := by decide +kernel
theorem dX3_removeItem_46 : decode cX3_removeItem 46 = .ok (.putfield 54, 3) := by decide +kernel
theorem dX3_removeItem_49 : decode cX3_removeItem 49 = .ok (.return_, 1) := by decide +kernel
theorem dX3_isSameQuestion_0 : decode cX3_isSameQuestion 0 = .ok (.aload_n 0, 1) := by decide +kernel
theorem dX3_isSameQuestion_1 : decode cX3_isSameQuestion 1 = .ok (.getfield 42, 3) := by decide +kernel
theorem dX3_isSameQuestion_4 : decode cX3_isSameQuestion 4 = .ok (.aload_n 1, 1) := by decide +kernel
theorem dX3_isSameQuestion_5 : decode cX3_isSameQuestion 5 = .ok (.getfield 42, 3) := by decide +kernel
theorem dX3_isSameQuestion_8 : decode cX3_isSameQuestion 8 = .ok (.if_icmp .ne 25, 3) := by decide +kernel
theorem dX3_isSameQuestion_11 : decode cX3_isSameQuestion 11 = .ok (.aload_n 0, 1) := by decide +kernel
theorem dX3_isSameQuestion_12 : decode cX3_isSameQuestion 12 = .ok (.getfield 45, 3) := by decide +kernel
theorem dX3_isSameQuestion_15 : decode cX3_isSameQuestion 15 = .ok (.aload_n 1, 1) := by decide +kernel
theorem dX3_isSameQuestion_16 : decode cX3_isSameQuestion 16 = .ok (.getfield 48, 3) := by decide +kernel
theorem dX3_isSameQuestion_19 : decode cX3_isSameQuestion 19 = .ok (.if_icmp .ne 14, 3) := by decide +kernel
theorem dX3_isSameQuestion_22 : decode cX3_isSameQuestion 22 = .ok (.aload_n 0, 1) := by decide +kernel
theorem dX3_isSameQuestion_23 : decode cX3_isSameQuestion 23 = .ok (.getfield 54, 3) := by decide +kernel
theorem dX3_isSameQuestion_26 : decode cX3_isSameQuestion 26 = .ok (.aload_n 1, 1) := by decide +kernel
theorem dX3_isSameQuestion_27 : decode cX3_isSameQuestion 27 = .ok (.getfield 54, 3) := by decide +kernel
theorem dX3_isSameQuestion_30 : decode cX3_isSameQuestion 30 = .ok (.if_icmp .eq 5, 3) := by decide +kernel
theorem dX3_isSameQuestion_33 : decode cX3_isSameQuestion 33 = .ok (.iconst 0, 1) := by decide +kernel
theorem dX3_isSameQuestion_34 : decode cX3_isSameQuestion 34 = .ok (.ireturn, 1) := by decide +kernel
theorem dX3_isSameQuestion_35 : decode cX3_isSameQuestion 35 = .ok (.iconst 0, 1) := by decide +kernel
theorem dX3_isSameQuestion_36 : decode cX3_isSameQuestion 36 = .ok (.istore_n 2, 1) := by decide +kernel
theorem dX3_isSameQuestion_37 : decode cX3_isSameQuestion 37 = .ok (.iload_n 2, 1) := by decide +kernel
theorem dX3_isSameQuestion_38 : decode cX3_isSameQuestion 38 = .ok (.aload_n 0, 1) := by decide +kernel
theorem dX3_isSameQuestion_39 : decode cX3_isSameQuestion 39 = .ok (.getfield 54, 3) := by decide +kernel
theorem dX3_isSameQuestion_42 : decode cX3_isSameQuestion 42 = .ok (.iconst 5, 1) := by decide +kernel
theorem dX3_isSameQuestion_43 : decode cX3_isSameQuestion 43 = .ok (.imul, 1) := by decide +kernel
theorem dX3_isSameQuestion_44 : decode cX3_isSameQuestion 44 = .ok (.if_icmp .ge 32, 3) := by decide +kernel
theorem dX3_isSameQuestion_47 : decode cX3_isSameQuestion 47 = .ok (.iload_n 2, 1) := by decide +kernel
theorem dX3_isSameQuestion_48 : decode cX3_isSameQuestion 48 = .ok (.bipush 80, 2) := by decide +kernel
theorem dX3_isSameQuestion_50 : decode cX3_isSameQuestion 50 = .ok (.if_icmp .ge 26, 3) := by decide +kernel
theorem dX3_isSameQuestion_53 : decode cX3_isSameQuestion 53 = .ok (.aload_n 0, 1) := by decide +kernel
theorem dX3_isSameQuestion_54 : decode cX3_isSameQuestion 54 = .ok (.getfield 18, 3) := by decide +kernel
theorem dX3_isSameQuestion_57 : decode cX3_isSameQuestion 57 = .ok (.iload_n 2, 1) := by decide +kernel
theorem dX3_isSameQuestion_58 : decode cX3_isSameQuestion 58 = .ok (.iaload, 1) := by decide +kernel
theorem dX3_isSameQuestion_59 : decode cX3_isSameQuestion 59 = .ok (.aload_n 1, 1) := by decide +kernel
theorem dX3_isSameQuestion_60 : decode cX3_isSameQuestion 60 = .ok (.getfield 18, 3) := by decide +kernel
theorem dX3_isSameQuestion_63 : decode cX3_isSameQuestion 63 = .ok (.iload_n 2, 1) := by decide +kernel
theorem dX3_isSameQuestion_64 : decode cX3_isSameQuestion 64 = .ok (.iaload, 1) := by decide +kernel
theorem dX3_isSameQuestion_65 : decode cX3_isSameQuestion 65 = .ok (.if_icmp .eq 5, 3) := by decide +kernel
theorem dX3_isSameQuestion_68 : decode cX3_isSameQuestion 68 = .ok (.iconst 0, 1) := by decide +kernel
theorem dX3_isSameQuestion_69 : decode cX3_isSameQuestion 69 = .ok (.ireturn, 1) := by decide +kernel
theorem dX3_isSameQuestion_70 : decode cX3_isSameQuestion 70 = .ok (.iinc 2 1, 3) := by decide +kernel
theorem dX3_isSameQuestion_73 : decode cX3_isSameQuestion 73 = .ok (.goto (-36), 3) := by decide +kernel
theorem dX3_isSameQuestion_76 : decode cX3_isSameQuestion 76 = .ok (.iconst 1, 1) := by decide +kernel
theorem dX3_isSameQuestion_77 : decode cX3_isSameQuestion 77 = .ok (.ireturn, 1) := by decide +kernel
theorem dX3_fillNear_0 : decode cX3_fillNear 0 = .ok (.aload_n 1, 1) := by decide +kernel
theorem dX3_fillNear_1 : decode cX3_fillNear 1 = .ok (.iconst 0, 1) := by decide +kernel
theorem dX3_fillNear_2 : decode cX3_fillNear 2 = .ok (.invokestatic 74, 3) := by decide +kernel
theorem dX3_fillNear_5 : decode cX3_fillNear 5 = .ok (.iconst 0, 1) := by decide +kernel
theorem dX3_fillNear_6 : decode cX3_fillNear 6 = .ok (.istore_n 3, 1) := by decide +kernel
theorem dX3_fillNear_7 : decode cX3_fillNear 7 = .ok (.iload_n 3, 1) := by decide +kernel
theorem dX3_fillNear_8 : decode cX3_fillNear 8 = .ok (.aload_n 0, 1) := by decide +kernel
theorem dX3_fillNear_9 : decode cX3_fillNear 9 = .ok (.getfield 54, 3) := by decide +kernel
theorem dX3_fillNear_12 : decode cX3_fillNear 12 = .ok (.if_icmp .ge 55, 3) := by decide +kernel
theorem dX3_fillNear_15 : decode cX3_fillNear 15 = .ok (.iload_n 2, 1) := by decide +kernel
theorem dX3_fillNear_16 : decode cX3_fillNear 16 = .ok (.iload_n 3, 1) := by decide +kernel
theorem dX3_fillNear_17 : decode cX3_fillNear 17 = .ok (.invokestatic 80, 3) := by decide +kernel
theorem dX3_fillNear_20 : decode cX3_fillNear 20 = .ok (.ifCond .eq 41, 3) := by decide +kernel
theorem dX3_fillNear_23 : decode cX3_fillNear 23 = .ok (.aload_n 1, 1) := by decide +kernel
theorem dX3_fillNear_24 : decode cX3_fillNear 24 = .ok (.aload_n 0, 1) := by decide +kernel
theorem dX3_fillNear_25 : decode cX3_fillNear 25 = .ok (.iload_n 3, 1) := by decide +kernel
theorem dX3_fillNear_26 : decode cX3_fillNear 26 = .ok (.iconst 0, 1) := by decide +kernel
theorem dX3_fillNear_27 : decode cX3_fillNear 27 = .ok (.invokevirtual 70, 3) := by decide +kernel
theorem dX3_fillNear_30 : decode cX3_fillNear 30 = .ok (.dup2, 1) := by decide +kernel
theorem dX3_fillNear_31 : decode cX3_fillNear 31 = .ok (.iaload, 1) := by decide +kernel
theorem dX3_fillNear_32 : decode cX3_fillNear 32 = .ok (.iconst 1, 1) := by decide +kernel
theorem dX3_fillNear_33 : decode cX3_fillNear 33 = .ok (.aload_n 0, 1) := by decide +kernel
theorem dX3_fillNear_34 : decode cX3_fillNear 34 = .ok (.iload_n 3, 1) := by decide +kernel
theorem dX3_fillNear_35 : decode cX3_fillNear 35 = .ok (.iconst 1, 1) := by decide +kernel
theorem dX3_fillNear_36 : decode cX3_fillNear 36 = .ok (.invokevirtual 70, 3) := by decide +kernel
theorem dX3_fillNear_39 : decode cX3_fillNear 39 = .ok (.ishl, 1) := by decide +kernel
theorem dX3_fillNear_40 : decode cX3_fillNear 40 = .ok (.ior, 1) := by decide +kernel
theorem dX3_fillNear_41 : decode cX3_fillNear 41 = .ok (.iastore, 1) := by decide +kernel
theorem dX3_fillNear_42 : decode cX3_fillNear 42 = .ok (.aload_n 1, 1) := by decide +kernel
theorem dX3_fillNear_43 : decode cX3_fillNear 43 = .ok (.aload_n 0, 1) := by decide +kernel
theorem dX3_fillNear_44 : decode cX3_fillNear 44 = .ok (.iload_n 3, 1) := by decide +kernel
theorem dX3_fillNear_45 : decode cX3_fillNear 45 = .ok (.iconst 1, 1) := by decide +kernel
theorem dX3_fillNear_46 : decode cX3_fillNear 46 = .ok (.invokevirtual 70, 3) := by decide +kernel
theorem dX3_fillNear_49 : decode cX3_fillNear 49 = .ok (.dup2, 1) := by decide +kernel
theorem dX3_fillNear_50 : decode cX3_fillNear 50 = .ok (.iaload, 1) := by decide +kernel
theorem dX3_fillNear_51 : decode cX3_fillNear 51 = .ok (.iconst 1, 1) := by decide +kernel
theorem dX3_fillNear_52 : decode cX3_fillNear 52 = .ok (.aload_n 0, 1) := by decide +kernel
theorem dX3_fillNear_53 : decode cX3_fillNear 53 = .ok (.iload_n 3, 1) := by decide +kernel
theorem dX3_fillNear_54 : decode cX3_fillNear 54 = .ok (.iconst 0, 1) := by decide +kernel
theorem dX3_fillNear_55 : decode cX3_fillNear 55 = .ok (.invokevirtual 70, 3) := by decide +kernel
theorem dX3_fillNear_58 : decode cX3_fillNear 58 = .ok (.ishl, 1) := by decide +kernel
theorem dX3_fillNear_59 : decode cX3_fillNear 59 = .ok (.ior, 1) := by decide +kernel
theorem dX3_fillNear_60 : decode cX3_fillNear 60 = .ok (.iastore, 1) := by decide +kernel
theorem dX3_fillNear_61 : decode cX3_fillNear 61 = .ok (.iinc 3 1, 3) := by decide +kernel
theorem dX3_fillNear_64 : decode cX3_fillNear 64 = .ok (.goto (-57), 3) := by decide +kernel
theorem dX3_fillNear_67 : decode cX3_fillNear 67 = .ok (.return_, 1) := by decide +kernel
theorem dX3_tell_0 : decode cX3_tell 0 = .ok (.aload_n 0, 1) := by decide +kernel
theorem dX3_tell_1 : decode cX3_tell 1 = .ok (.iload_n 1, 1) := by decide +kernel
theorem dX3_tell_2 : decode cX3_tell 2 = .ok (.ifCond .eq 8, 3) := by decide +kernel
theorem dX3_tell_5 : decode cX3_tell 5 = .ok (.bipush 121, 2) := by decide +kernel
theorem dX3_tell_7 : decode cX3_tell 7 = .ok (.goto 5, 3) := by decide +kernel
theorem dX3_tell_10 : decode cX3_tell 10 = .ok (.bipush 110, 2) := by decide +kernel
theorem dX3_tell_12 : decode cX3_tell 12 = .ok (.putfield 22, 3) := by decide +kernel
theorem dX3_tell_15 : decode cX3_tell 15 = .ok (.aload_n 0, 1) := by decide +kernel
theorem dX3_tell_16 : decode cX3_tell 16 = .ok (.iload_n 2, 1) := by decide +kernel
theorem dX3_tell_17 : decode cX3_tell 17 = .ok (.putfield 84, 3) := by decide +kernel
theorem dX3_tell_20 : decode cX3_tell 20 = .ok (.return_, 1) := by decide +kernel
theorem dX3_nodeAsked_0 : decode cX3_nodeAsked 0 = .ok (.aload_n 0, 1) := by decide +kernel
theorem dX3_nodeAsked_1 : decode cX3_nodeAsked 1 = .ok (.getfield 48, 3) := by decide +kernel
theorem dX3_nodeAsked_4 : decode cX3_nodeAsked 4 = .ok (.aload_n 0, 1) := by decide +kernel
theorem dX3_nodeAsked_5 : decode cX3_nodeAsked 5 = .ok (.getfield 42, 3) := by decide +kernel
theorem dX3_nodeAsked_8 : decode cX3_nodeAsked 8 = .ok (.if_icmp .ge 10, 3) := by decide +kernel
theorem dX3_nodeAsked_11 : decode cX3_nodeAsked 11 = .ok (.aload_n 0, 1) := by decide +kernel
theorem dX3_nodeAsked_12 : decode cX3_nodeAsked 12 = .ok (.getfield 48, 3) := by decide +kernel
theorem dX3_nodeAsked_15 : decode cX3_nodeAsked 15 = .ok (.goto 9, 3) := by decide +kernel
theorem dX3_nodeAsked_18 : decode cX3_nodeAsked 18 = .ok (.aload_n 0, 1) := by decide +kernel
theorem dX3_nodeAsked_19 : decode cX3_nodeAsked 19 = .ok (.getfield 42, 3) := by decide +kernel
theorem dX3_nodeAsked_22 : decode cX3_nodeAsked 22 = .ok (.iconst 1, 1) := by decide +kernel
theorem dX3_nodeAsked_23 : decode cX3_nodeAsked 23 = .ok (.isub, 1) := by decide +kernel
theorem dX3_nodeAsked_24 : decode cX3_nodeAsked 24 = .ok (.ireturn, 1) := by decide +kernel
