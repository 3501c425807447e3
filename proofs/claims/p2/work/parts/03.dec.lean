theorem dX11_carries_0 : decode cX11_carries 0 = .ok (.iload_n 1, 1) := by decide +kernel
theorem dX11_carries_1 : decode cX11_carries 1 = .ok (.iconst 1, 1) := by decide +kernel
theorem dX11_carries_2 : decode cX11_carries 2 = .ok (.if_icmp .ne 16, 3) := by decide +kernel
theorem dX11_carries_5 : decode cX11_carries 5 = .ok (.iload_n 2, 1) := by decide +kernel
theorem dX11_carries_6 : decode cX11_carries 6 = .ok (.iload_n 3, 1) := by decide +kernel
theorem dX11_carries_7 : decode cX11_carries 7 = .ok (.if_icmp .le 7, 3) := by decide +kernel
theorem dX11_carries_10 : decode cX11_carries 10 = .ok (.iconst 1, 1) := by decide +kernel
theorem dX11_carries_11 : decode cX11_carries 11 = .ok (.goto 50, 3) := by decide +kernel
theorem dX11_carries_14 : decode cX11_carries 14 = .ok (.iconst 0, 1) := by decide +kernel
theorem dX11_carries_15 : decode cX11_carries 15 = .ok (.goto 46, 3) := by decide +kernel
theorem dX11_carries_18 : decode cX11_carries 18 = .ok (.iload_n 1, 1) := by decide +kernel
theorem dX11_carries_19 : decode cX11_carries 19 = .ok (.iconst 2, 1) := by decide +kernel
theorem dX11_carries_20 : decode cX11_carries 20 = .ok (.if_icmp .ne 26, 3) := by decide +kernel
theorem dX11_carries_23 : decode cX11_carries 23 = .ok (.iload_n 2, 1) := by decide +kernel
theorem dX11_carries_24 : decode cX11_carries 24 = .ok (.ifCond .le 18, 3) := by decide +kernel
theorem dX11_carries_27 : decode cX11_carries 27 = .ok (.iconst 3, 1) := by decide +kernel
theorem dX11_carries_28 : decode cX11_carries 28 = .ok (.iload_n 2, 1) := by decide +kernel
theorem dX11_carries_29 : decode cX11_carries 29 = .ok (.imul, 1) := by decide +kernel
theorem dX11_carries_30 : decode cX11_carries 30 = .ok (.iconst 2, 1) := by decide +kernel
theorem dX11_carries_31 : decode cX11_carries 31 = .ok (.iload_n 2, 1) := by decide +kernel
theorem dX11_carries_32 : decode cX11_carries 32 = .ok (.iload_n 3, 1) := by decide +kernel
theorem dX11_carries_33 : decode cX11_carries 33 = .ok (.iadd, 1) := by decide +kernel
theorem dX11_carries_34 : decode cX11_carries 34 = .ok (.imul, 1) := by decide +kernel
theorem dX11_carries_35 : decode cX11_carries 35 = .ok (.if_icmp .lt 7, 3) := by decide +kernel
theorem dX11_carries_38 : decode cX11_carries 38 = .ok (.iconst 1, 1) := by decide +kernel
theorem dX11_carries_39 : decode cX11_carries 39 = .ok (.goto 22, 3) := by decide +kernel
theorem dX11_carries_42 : decode cX11_carries 42 = .ok (.iconst 0, 1) := by decide +kernel
theorem dX11_carries_43 : decode cX11_carries 43 = .ok (.goto 18, 3) := by decide +kernel
theorem dX11_carries_46 : decode cX11_carries 46 = .ok (.iconst 2, 1) := by decide +kernel
theorem dX11_carries_47 : decode cX11_carries 47 = .ok (.iload_n 2, 1) := by decide +kernel
theorem dX11_carries_48 : decode cX11_carries 48 = .ok (.imul, 1) := by decide +kernel
theorem dX11_carries_49 : decode cX11_carries 49 = .ok (.aload_n 0, 1) := by decide +kernel
theorem dX11_carries_50 : decode cX11_carries 50 = .ok (.getfield 96, 3) := by decide +kernel
theorem dX11_carries_53 : decode cX11_carries 53 = .ok (.if_icmp .le 7, 3) := by decide +kernel
theorem dX11_carries_56 : decode cX11_carries 56 = .ok (.iconst 1, 1) := by decide +kernel
theorem dX11_carries_57 : decode cX11_carries 57 = .ok (.goto 4, 3) := by decide +kernel
theorem dX11_carries_60 : decode cX11_carries 60 = .ok (.iconst 0, 1) := by decide +kernel
theorem dX11_carries_61 : decode cX11_carries 61 = .ok (.ireturn, 1) := by decide +kernel
theorem dX11_free_0 : decode cX11_free 0 = .ok (.iconst 0, 1) := by decide +kernel
theorem dX11_free_1 : decode cX11_free 1 = .ok (.istore_n 1, 1) := by decide +kernel
theorem dX11_free_2 : decode cX11_free 2 = .ok (.iload_n 1, 1) := by decide +kernel
theorem dX11_free_3 : decode cX11_free 3 = .ok (.bipush 8, 2) := by decide +kernel
theorem dX11_free_5 : decode cX11_free 5 = .ok (.if_icmp .ge 20, 3) := by decide +kernel
theorem dX11_free_8 : decode cX11_free 8 = .ok (.aload_n 0, 1) := by decide +kernel
theorem dX11_free_9 : decode cX11_free 9 = .ok (.getfield 81, 3) := by decide +kernel
theorem dX11_free_12 : decode cX11_free 12 = .ok (.iload_n 1, 1) := by decide +kernel
theorem dX11_free_13 : decode cX11_free 13 = .ok (.iaload, 1) := by decide +kernel
theorem dX11_free_14 : decode cX11_free 14 = .ok (.ifCond .ne 5, 3) := by decide +kernel
theorem dX11_free_17 : decode cX11_free 17 = .ok (.iload_n 1, 1) := by decide +kernel
theorem dX11_free_18 : decode cX11_free 18 = .ok (.ireturn, 1) := by decide +kernel
theorem dX11_free_19 : decode cX11_free 19 = .ok (.iinc 1 1, 3) := by decide +kernel
theorem dX11_free_22 : decode cX11_free 22 = .ok (.goto (-20), 3) := by decide +kernel
theorem dX11_free_25 : decode cX11_free 25 = .ok (.iconst (-1), 1) := by decide +kernel
theorem dX11_free_26 : decode cX11_free 26 = .ok (.ireturn, 1) := by decide +kernel
theorem dX11_freePlaces_0 : decode cX11_freePlaces 0 = .ok (.iconst 0, 1) := by decide +kernel
theorem dX11_freePlaces_1 : decode cX11_freePlaces 1 = .ok (.istore_n 1, 1) := by decide +kernel
theorem dX11_freePlaces_2 : decode cX11_freePlaces 2 = .ok (.iconst 0, 1) := by decide +kernel
theorem dX11_freePlaces_3 : decode cX11_freePlaces 3 = .ok (.istore_n 2, 1) := by decide +kernel
theorem dX11_freePlaces_4 : decode cX11_freePlaces 4 = .ok (.iload_n 2, 1) := by decide +kernel
theorem dX11_freePlaces_5 : decode cX11_freePlaces 5 = .ok (.bipush 8, 2) := by decide +kernel
theorem dX11_freePlaces_7 : decode cX11_freePlaces 7 = .ok (.if_icmp .ge 26, 3) := by decide +kernel
theorem dX11_freePlaces_10 : decode cX11_freePlaces 10 = .ok (.iload_n 1, 1) := by decide +kernel
theorem dX11_freePlaces_11 : decode cX11_freePlaces 11 = .ok (.aload_n 0, 1) := by decide +kernel
theorem dX11_freePlaces_12 : decode cX11_freePlaces 12 = .ok (.getfield 81, 3) := by decide +kernel
theorem dX11_freePlaces_15 : decode cX11_freePlaces 15 = .ok (.iload_n 2, 1) := by decide +kernel
theorem dX11_freePlaces_16 : decode cX11_freePlaces 16 = .ok (.iaload, 1) := by decide +kernel
theorem dX11_freePlaces_17 : decode cX11_freePlaces 17 = .ok (.ifCond .ne 7, 3) := by decide +kernel
theorem dX11_freePlaces_20 : decode cX11_freePlaces 20 = .ok (.iconst 1, 1) := by decide +kernel
theorem dX11_freePlaces_21 : decode cX11_freePlaces 21 = .ok (.goto 4, 3) := by decide +kernel
theorem dX11_freePlaces_24 : decode cX11_freePlaces 24 = .ok (.iconst 0, 1) := by decide +kernel
theorem dX11_freePlaces_25 : decode cX11_freePlaces 25 = .ok (.iadd, 1) := by decide +kernel
theorem dX11_freePlaces_26 : decode cX11_freePlaces 26 = .ok (.istore_n 1, 1) := by decide +kernel
theorem dX11_freePlaces_27 : decode cX11_freePlaces 27 = .ok (.iinc 2 1, 3) := by decide +kernel
theorem dX11_freePlaces_30 : decode cX11_freePlaces 30 = .ok (.goto (-26), 3) := by decide +kernel
theorem dX11_freePlaces_33 : decode cX11_freePlaces 33 = .ok (.iload_n 1, 1) := by decide +kernel
theorem dX11_freePlaces_34 : decode cX11_freePlaces 34 = .ok (.ireturn, 1) := by decide +kernel
theorem dX11_goes_0 : decode cX11_goes 0 = .ok (.aload_n 0, 1) := by decide +kernel
theorem dX11_goes_1 : decode cX11_goes 1 = .ok (.getfield 19, 3) := by decide +kernel
theorem dX11_goes_4 : decode cX11_goes 4 = .ok (.aload_n 0, 1) := by decide +kernel
theorem dX11_goes_5 : decode cX11_goes 5 = .ok (.invokevirtual 155, 3) := by decide +kernel
theorem dX11_goes_8 : decode cX11_goes 8 = .ok (.iconst 0, 1) := by decide +kernel
theorem dX11_goes_9 : decode cX11_goes 9 = .ok (.bastore, 1) := by decide +kernel
theorem dX11_goes_10 : decode cX11_goes 10 = .ok (.aload_n 0, 1) := by decide +kernel
theorem dX11_goes_11 : decode cX11_goes 11 = .ok (.dup, 1) := by decide +kernel
theorem dX11_goes_12 : decode cX11_goes 12 = .ok (.getfield 115, 3) := by decide +kernel
theorem dX11_goes_15 : decode cX11_goes 15 = .ok (.iconst 1, 1) := by decide +kernel
theorem dX11_goes_16 : decode cX11_goes 16 = .ok (.isub, 1) := by decide +kernel
theorem dX11_goes_17 : decode cX11_goes 17 = .ok (.putfield 115, 3) := by decide +kernel
theorem dX11_goes_20 : decode cX11_goes 20 = .ok (.return_, 1) := by decide +kernel
theorem dX11_hasDraft_0 : decode cX11_hasDraft 0 = .ok (.aload_n 0, 1) := by decide +kernel
theorem dX11_hasDraft_1 : decode cX11_hasDraft 1 = .ok (.getfield 130, 3) := by decide +kernel
theorem dX11_hasDraft_4 : decode cX11_hasDraft 4 = .ok (.ifCond .le 33, 3) := by decide +kernel
theorem dX11_hasDraft_7 : decode cX11_hasDraft 7 = .ok (.aload_n 0, 1) := by decide +kernel
theorem dX11_hasDraft_8 : decode cX11_hasDraft 8 = .ok (.getfield 151, 3) := by decide +kernel
theorem dX11_hasDraft_11 : decode cX11_hasDraft 11 = .ok (.ifCond .ne 26, 3) := by decide +kernel
theorem dX11_hasDraft_14 : decode cX11_hasDraft 14 = .ok (.aload_n 0, 1) := by decide +kernel
theorem dX11_hasDraft_15 : decode cX11_hasDraft 15 = .ok (.getfield 22, 3) := by decide +kernel
theorem dX11_hasDraft_18 : decode cX11_hasDraft 18 = .ok (.aload_n 0, 1) := by decide +kernel
theorem dX11_hasDraft_19 : decode cX11_hasDraft 19 = .ok (.getfield 75, 3) := by decide +kernel
theorem dX11_hasDraft_22 : decode cX11_hasDraft 22 = .ok (.iconst 0, 1) := by decide +kernel
theorem dX11_hasDraft_23 : decode cX11_hasDraft 23 = .ok (.iaload, 1) := by decide +kernel
theorem dX11_hasDraft_24 : decode cX11_hasDraft 24 = .ok (.iaload, 1) := by decide +kernel
theorem dX11_hasDraft_25 : decode cX11_hasDraft 25 = .ok (.iload_n 1, 1) := by decide +kernel
theorem dX11_hasDraft_26 : decode cX11_hasDraft 26 = .ok (.iload_n 2, 1) := by decide +kernel
theorem dX11_hasDraft_27 : decode cX11_hasDraft 27 = .ok (.invokestatic 136, 3) := by decide +kernel
theorem dX11_hasDraft_30 : decode cX11_hasDraft 30 = .ok (.ifCond .eq 7, 3) := by decide +kernel
theorem dX11_hasDraft_33 : decode cX11_hasDraft 33 = .ok (.iconst 1, 1) := by decide +kernel
theorem dX11_hasDraft_34 : decode cX11_hasDraft 34 = .ok (.goto 4, 3) := by decide +kernel
theorem dX11_hasDraft_37 : decode cX11_hasDraft 37 = .ok (.iconst 0, 1) := by decide +kernel
theorem dX11_hasDraft_38 : decode cX11_hasDraft 38 = .ok (.ireturn, 1) := by decide +kernel
theorem dX11_hasSeconder_0 : decode cX11_hasSeconder 0 = .ok (.aload_n 0, 1) := by decide +kernel
theorem dX11_hasSeconder_1 : decode cX11_hasSeconder 1 = .ok (.getfield 28, 3) := by decide +kernel
theorem dX11_hasSeconder_4 : decode cX11_hasSeconder 4 = .ok (.aload_n 0, 1) := by decide +kernel
theorem dX11_hasSeconder_5 : decode cX11_hasSeconder 5 = .ok (.invokevirtual 155, 3) := by decide +kernel
theorem dX11_hasSeconder_8 : decode cX11_hasSeconder 8 = .ok (.iaload, 1) := by decide +kernel
theorem dX11_hasSeconder_9 : decode cX11_hasSeconder 9 = .ok (.iconst (-1), 1) := by decide +kernel
theorem dX11_hasSeconder_10 : decode cX11_hasSeconder 10 = .ok (.if_icmp .eq 7, 3) := by decide +kernel
theorem dX11_hasSeconder_13 : decode cX11_hasSeconder 13 = .ok (.iconst 1, 1) := by decide +kernel
theorem dX11_hasSeconder_14 : decode cX11_hasSeconder 14 = .ok (.goto 4, 3) := by decide +kernel
theorem dX11_hasSeconder_17 : decode cX11_hasSeconder 17 = .ok (.iconst 0, 1) := by decide +kernel
theorem dX11_hasSeconder_18 : decode cX11_hasSeconder 18 = .ok (.ireturn, 1) := by decide +kernel
theorem dX11_isAbout_0 : decode cX11_isAbout 0 = .ok (.aload_n 0, 1) := by decide +kernel
theorem dX11_isAbout_1 : decode cX11_isAbout 1 = .ok (.getfield 115, 3) := by decide +kernel
theorem dX11_isAbout_4 : decode cX11_isAbout 4 = .ok (.ifCond .ne 5, 3) := by decide +kernel
theorem dX11_isAbout_7 : decode cX11_isAbout 7 = .ok (.iconst 0, 1) := by decide +kernel
theorem dX11_isAbout_8 : decode cX11_isAbout 8 = .ok (.ireturn, 1) := by decide +kernel
theorem dX11_isAbout_9 : decode cX11_isAbout 9 = .ok (.aload_n 0, 1) := by decide +kernel
theorem dX11_isAbout_10 : decode cX11_isAbout 10 = .ok (.getfield 22, 3) := by decide +kernel
theorem dX11_isAbout_13 : decode cX11_isAbout 13 = .ok (.aload_n 0, 1) := by decide +kernel
theorem dX11_isAbout_14 : decode cX11_isAbout 14 = .ok (.invokevirtual 155, 3) := by decide +kernel
theorem dX11_isAbout_17 : decode cX11_isAbout 17 = .ok (.iaload, 1) := by decide +kernel
theorem dX11_isAbout_18 : decode cX11_isAbout 18 = .ok (.istore_n 2, 1) := by decide +kernel
theorem dX11_isAbout_19 : decode cX11_isAbout 19 = .ok (.iload_n 1, 1) := by decide +kernel
theorem dX11_isAbout_20 : decode cX11_isAbout 20 = .ok (.iconst 2, 1) := by decide +kernel
theorem dX11_isAbout_21 : decode cX11_isAbout 21 = .ok (.if_icmp .ne 26, 3) := by decide +kernel
theorem dX11_isAbout_24 : decode cX11_isAbout 24 = .ok (.iload_n 2, 1) := by decide +kernel
theorem dX11_isAbout_25 : decode cX11_isAbout 25 = .ok (.iconst 1, 1) := by decide +kernel
theorem dX11_isAbout_26 : decode cX11_isAbout 26 = .ok (.if_icmp .eq 13, 3) := by decide +kernel
theorem dX11_isAbout_29 : decode cX11_isAbout 29 = .ok (.iload_n 2, 1) := by decide +kernel
theorem dX11_isAbout_30 : decode cX11_isAbout 30 = .ok (.iconst 4, 1) := by decide +kernel
theorem dX11_isAbout_31 : decode cX11_isAbout 31 = .ok (.if_icmp .eq 8, 3) := by decide +kernel
theorem dX11_isAbout_34 : decode cX11_isAbout 34 = .ok (.iload_n 2, 1) := by decide +kernel
theorem dX11_isAbout_35 : decode cX11_isAbout 35 = .ok (.iconst 5, 1) := by decide +kernel
theorem dX11_isAbout_36 : decode cX11_isAbout 36 = .ok (.if_icmp .ne 7, 3) := by decide +kernel
theorem dX11_isAbout_39 : decode cX11_isAbout 39 = .ok (.iconst 1, 1) := by decide +kernel
theorem dX11_isAbout_40 : decode cX11_isAbout 40 = .ok (.goto 17, 3) := by decide +kernel
theorem dX11_isAbout_43 : decode cX11_isAbout 43 = .ok (.iconst 0, 1) := by decide +kernel
theorem dX11_isAbout_44 : decode cX11_isAbout 44 = .ok (.goto 13, 3) := by decide +kernel
theorem dX11_isAbout_47 : decode cX11_isAbout 47 = .ok (.iload_n 2, 1) := by decide +kernel
theorem dX11_isAbout_48 : decode cX11_isAbout 48 = .ok (.iconst 2, 1) := by decide +kernel
theorem dX11_isAbout_49 : decode cX11_isAbout 49 = .ok (.if_icmp .ne 7, 3) := by decide +kernel
theorem dX11_isAbout_52 : decode cX11_isAbout 52 = .ok (.iconst 1, 1) := by decide +kernel
theorem dX11_isAbout_53 : decode cX11_isAbout 53 = .ok (.goto 4, 3) := by decide +kernel
theorem dX11_isAbout_56 : decode cX11_isAbout 56 = .ok (.iconst 0, 1) := by decide +kernel
theorem dX11_isAbout_57 : decode cX11_isAbout 57 = .ok (.ireturn, 1) := by decide +kernel
theorem dX11_isHere_0 : decode cX11_isHere 0 = .ok (.aload_n 0, 1) := by decide +kernel
theorem dX11_isHere_1 : decode cX11_isHere 1 = .ok (.iload_n 1, 1) := by decide +kernel
theorem dX11_isHere_2 : decode cX11_isHere 2 = .ok (.invokevirtual 140, 3) := by decide +kernel
theorem dX11_isHere_5 : decode cX11_isHere 5 = .ok (.ifCond .eq 16, 3) := by decide +kernel
theorem dX11_isHere_8 : decode cX11_isHere 8 = .ok (.aload_n 0, 1) := by decide +kernel
theorem dX11_isHere_9 : decode cX11_isHere 9 = .ok (.getfield 9, 3) := by decide +kernel
theorem dX11_isHere_12 : decode cX11_isHere 12 = .ok (.iload_n 1, 1) := by decide +kernel
theorem dX11_isHere_13 : decode cX11_isHere 13 = .ok (.baload, 1) := by decide +kernel
theorem dX11_isHere_14 : decode cX11_isHere 14 = .ok (.ifCond .eq 7, 3) := by decide +kernel
theorem dX11_isHere_17 : decode cX11_isHere 17 = .ok (.iconst 1, 1) := by decide +kernel
theorem dX11_isHere_18 : decode cX11_isHere 18 = .ok (.goto 4, 3) := by decide +kernel
theorem dX11_isHere_21 : decode cX11_isHere 21 = .ok (.iconst 0, 1) := by decide +kernel
theorem dX11_isHere_22 : decode cX11_isHere 22 = .ok (.ireturn, 1) := by decide +kernel
theorem dX11_isPending_0 : decode cX11_isPending 0 = .ok (.iconst 0, 1) := by decide +kernel
theorem dX11_isPending_1 : decode cX11_isPending 1 = .ok (.istore_n 2, 1) := by decide +kernel
theorem dX11_isPending_2 : decode cX11_isPending 2 = .ok (.iload_n 2, 1) := by decide +kernel
theorem dX11_isPending_3 : decode cX11_isPending 3 = .ok (.aload_n 0, 1) := by decide +kernel
theorem dX11_isPending_4 : decode cX11_isPending 4 = .ok (.getfield 115, 3) := by decide +kernel
theorem dX11_isPending_7 : decode cX11_isPending 7 = .ok (.if_icmp .ge 21, 3) := by decide +kernel
theorem dX11_isPending_10 : decode cX11_isPending 10 = .ok (.aload_n 0, 1) := by decide +kernel
theorem dX11_isPending_11 : decode cX11_isPending 11 = .ok (.getfield 72, 3) := by decide +kernel
theorem dX11_isPending_14 : decode cX11_isPending 14 = .ok (.iload_n 2, 1) := by decide +kernel
theorem dX11_isPending_15 : decode cX11_isPending 15 = .ok (.iaload, 1) := by decide +kernel
theorem dX11_isPending_16 : decode cX11_isPending 16 = .ok (.iload_n 1, 1) := by decide +kernel
theorem dX11_isPending_17 : decode cX11_isPending 17 = .ok (.if_icmp .ne 5, 3) := by decide +kernel
theorem dX11_isPending_20 : decode cX11_isPending 20 = .ok (.iconst 1, 1) := by decide +kernel
theorem dX11_isPending_21 : decode cX11_isPending 21 = .ok (.ireturn, 1) := by decide +kernel
theorem dX11_isPending_22 : decode cX11_isPending 22 = .ok (.iinc 2 1, 3) := by decide +kernel
theorem dX11_isPending_25 : decode cX11_isPending 25 = .ok (.goto (-23), 3) := by decide +kernel
theorem dX11_isPending_28 : decode cX11_isPending 28 = .ok (.iconst 0, 1) := by decide +kernel
theorem dX11_isPending_29 : decode cX11_isPending 29 = .ok (.ireturn, 1) := by decide +kernel
theorem dX11_isSeat_0 : decode cX11_isSeat 0 = .ok (.iload_n 1, 1) := by decide +kernel
theorem dX11_isSeat_1 : decode cX11_isSeat 1 = .ok (.iconst 0, 1) := by decide +kernel
theorem dX11_isSeat_2 : decode cX11_isSeat 2 = .ok (.aload_n 0, 1) := by decide +kernel
theorem dX11_isSeat_3 : decode cX11_isSeat 3 = .ok (.getfield 96, 3) := by decide +kernel
theorem dX11_isSeat_6 : decode cX11_isSeat 6 = .ok (.iconst 1, 1) := by decide +kernel
theorem dX11_isSeat_7 : decode cX11_isSeat 7 = .ok (.isub, 1) := by decide +kernel
theorem dX11_isSeat_8 : decode cX11_isSeat 8 = .ok (.invokestatic 136, 3) := by decide +kernel
theorem dX11_isSeat_11 : decode cX11_isSeat 11 = .ok (.ireturn, 1) := by decide +kernel
theorem dX11_isWord_0 : decode cX11_isWord 0 = .ok (.iload_n 0, 1) := by decide +kernel
theorem dX11_isWord_1 : decode cX11_isWord 1 = .ok (.iconst 1, 1) := by decide +kernel
theorem dX11_isWord_2 : decode cX11_isWord 2 = .ok (.sipush 30000, 3) := by decide +kernel
theorem dX11_isWord_5 : decode cX11_isWord 5 = .ok (.invokestatic 136, 3) := by decide +kernel
theorem dX11_isWord_8 : decode cX11_isWord 8 = .ok (.ireturn, 1) := by decide +kernel
theorem dX11_reasonOfWord_0 : decode cX11_reasonOfWord 0 = .ok (.aload_n 0, 1) := by decide +kernel
theorem dX11_reasonOfWord_1 : decode cX11_reasonOfWord 1 = .ok (.iconst 1, 1) := by decide +kernel
theorem dX11_reasonOfWord_2 : decode cX11_reasonOfWord 2 = .ok (.iconst 5, 1) := by decide +kernel
theorem dX11_reasonOfWord_3 : decode cX11_reasonOfWord 3 = .ok (.invokevirtual 163, 3) := by decide +kernel
theorem dX11_reasonOfWord_6 : decode cX11_reasonOfWord 6 = .ok (.ifCond .eq 17, 3) := by decide +kernel
theorem dX11_reasonOfWord_9 : decode cX11_reasonOfWord 9 = .ok (.aload_n 0, 1) := by decide +kernel
theorem dX11_reasonOfWord_10 : decode cX11_reasonOfWord 10 = .ok (.getfield 55, 3) := by decide +kernel
theorem dX11_reasonOfWord_13 : decode cX11_reasonOfWord 13 = .ok (.aload_n 0, 1) := by decide +kernel
theorem dX11_reasonOfWord_14 : decode cX11_reasonOfWord 14 = .ok (.getfield 75, 3) := by decide +kernel
theorem dX11_reasonOfWord_17 : decode cX11_reasonOfWord 17 = .ok (.iconst 0, 1) := by decide +kernel
theorem dX11_reasonOfWord_18 : decode cX11_reasonOfWord 18 = .ok (.iaload, 1) := by decide +kernel
theorem dX11_reasonOfWord_19 : decode cX11_reasonOfWord 19 = .ok (.baload, 1) := by decide +kernel
theorem dX11_reasonOfWord_20 : decode cX11_reasonOfWord 20 = .ok (.ifCond .eq 6, 3) := by decide +kernel
theorem dX11_reasonOfWord_23 : decode cX11_reasonOfWord 23 = .ok (.bipush 11, 2) := by decide +kernel
theorem dX11_reasonOfWord_25 : decode cX11_reasonOfWord 25 = .ok (.ireturn, 1) := by decide +kernel
theorem dX11_reasonOfWord_26 : decode cX11_reasonOfWord 26 = .ok (.iload_n 1, 1) := by decide +kernel
theorem dX11_reasonOfWord_27 : decode cX11_reasonOfWord 27 = .ok (.invokestatic 181, 3) := by decide +kernel
theorem dX11_reasonOfWord_30 : decode cX11_reasonOfWord 30 = .ok (.ifCond .eq 38, 3) := by decide +kernel
theorem dX11_reasonOfWord_33 : decode cX11_reasonOfWord 33 = .ok (.iload_n 2, 1) := by decide +kernel
theorem dX11_reasonOfWord_34 : decode cX11_reasonOfWord 34 = .ok (.ifCond .eq 10, 3) := by decide +kernel
theorem dX11_reasonOfWord_37 : decode cX11_reasonOfWord 37 = .ok (.iload_n 2, 1) := by decide +kernel
theorem dX11_reasonOfWord_38 : decode cX11_reasonOfWord 38 = .ok (.invokestatic 181, 3) := by decide +kernel
theorem dX11_reasonOfWord_41 : decode cX11_reasonOfWord 41 = .ok (.ifCond .eq 27, 3) := by decide +kernel
theorem dX11_reasonOfWord_44 : decode cX11_reasonOfWord 44 = .ok (.iload_n 3, 1) := by decide +kernel
theorem dX11_reasonOfWord_45 : decode cX11_reasonOfWord 45 = .ok (.ifCond .eq 10, 3) := by decide +kernel
theorem dX11_reasonOfWord_48 : decode cX11_reasonOfWord 48 = .ok (.iload_n 3, 1) := by decide +kernel
theorem dX11_reasonOfWord_49 : decode cX11_reasonOfWord 49 = .ok (.invokestatic 181, 3) := by decide +kernel
theorem dX11_reasonOfWord_52 : decode cX11_reasonOfWord 52 = .ok (.ifCond .eq 16, 3) := by decide +kernel
theorem dX11_reasonOfWord_55 : decode cX11_reasonOfWord 55 = .ok (.iload 4, 2) := by decide +kernel
theorem dX11_reasonOfWord_57 : decode cX11_reasonOfWord 57 = .ok (.ifCond .eq 14, 3) := by decide +kernel
theorem dX11_reasonOfWord_60 : decode cX11_reasonOfWord 60 = .ok (.iload 4, 2) := by decide +kernel
theorem dX11_reasonOfWord_62 : decode cX11_reasonOfWord 62 = .ok (.invokestatic 181, 3) := by decide +kernel
theorem dX11_reasonOfWord_65 : decode cX11_reasonOfWord 65 = .ok (.ifCond .ne 6, 3) := by decide +kernel
theorem dX11_reasonOfWord_68 : decode cX11_reasonOfWord 68 = .ok (.bipush 9, 2) := by decide +kernel
theorem dX11_reasonOfWord_70 : decode cX11_reasonOfWord 70 = .ok (.ireturn, 1) := by decide +kernel
theorem dX11_reasonOfWord_71 : decode cX11_reasonOfWord 71 = .ok (.iconst 1, 1) := by decide +kernel
theorem dX11_reasonOfWord_72 : decode cX11_reasonOfWord 72 = .ok (.iload_n 2, 1) := by decide +kernel
theorem dX11_reasonOfWord_73 : decode cX11_reasonOfWord 73 = .ok (.ifCond .eq 7, 3) := by decide +kernel
theorem dX11_reasonOfWord_76 : decode cX11_reasonOfWord 76 = .ok (.iconst 1, 1) := by decide +kernel
theorem dX11_reasonOfWord_77 : decode cX11_reasonOfWord 77 = .ok (.goto 4, 3) := by decide +kernel
theorem dX11_reasonOfWord_80 : decode cX11_reasonOfWord 80 = .ok (.iconst 0, 1) := by decide +kernel
theorem dX11_reasonOfWord_81 : decode cX11_reasonOfWord 81 = .ok (.iadd, 1) := by decide +kernel
theorem dX11_reasonOfWord_82 : decode cX11_reasonOfWord 82 = .ok (.iload_n 3, 1) := by decide +kernel
theorem dX11_reasonOfWord_83 : decode cX11_reasonOfWord 83 = .ok (.ifCond .eq 7, 3) := by decide +kernel
theorem dX11_reasonOfWord_86 : decode cX11_reasonOfWord 86 = .ok (.iconst 1, 1) := by decide +kernel
theorem dX11_reasonOfWord_87 : decode cX11_reasonOfWord 87 = .ok (.goto 4, 3) := by decide +kernel
theorem dX11_reasonOfWord_90 : decode cX11_reasonOfWord 90 = .ok (.iconst 0, 1) := by decide +kernel
theorem dX11_reasonOfWord_91 : decode cX11_reasonOfWord 91 = .ok (.iadd, 1) := by decide +kernel
theorem dX11_reasonOfWord_92 : decode cX11_reasonOfWord 92 = .ok (.iload 4, 2) := by decide +kernel
theorem dX11_reasonOfWord_94 : decode cX11_reasonOfWord 94 = .ok (.ifCond .eq 7, 3) := by decide +kernel
theorem dX11_reasonOfWord_97 : decode cX11_reasonOfWord 97 = .ok (.iconst 1, 1) := by decide +kernel
theorem dX11_reasonOfWord_98 : decode cX11_reasonOfWord 98 = .ok (.goto 4, 3) := by decide +kernel
theorem dX11_reasonOfWord_101 : decode cX11_reasonOfWord 101 = .ok (.iconst 0, 1) := by decide +kernel
theorem dX11_reasonOfWord_102 : decode cX11_reasonOfWord 102 = .ok (.iadd, 1) := by decide +kernel
theorem dX11_reasonOfWord_103 : decode cX11_reasonOfWord 103 = .ok (.istore 5, 2) := by decide +kernel
theorem dX11_reasonOfWord_105 : decode cX11_reasonOfWord 105 = .ok (.aload_n 0, 1) := by decide +kernel
theorem dX11_reasonOfWord_106 : decode cX11_reasonOfWord 106 = .ok (.getfield 37, 3) := by decide +kernel
theorem dX11_reasonOfWord_109 : decode cX11_reasonOfWord 109 = .ok (.aload_n 0, 1) := by decide +kernel
theorem dX11_reasonOfWord_110 : decode cX11_reasonOfWord 110 = .ok (.getfield 75, 3) := by decide +kernel
theorem dX11_reasonOfWord_113 : decode cX11_reasonOfWord 113 = .ok (.iconst 0, 1) := by decide +kernel
theorem dX11_reasonOfWord_114 : decode cX11_reasonOfWord 114 = .ok (.iaload, 1) := by decide +kernel
theorem dX11_reasonOfWord_115 : decode cX11_reasonOfWord 115 = .ok (.iaload, 1) := by decide +kernel
theorem dX11_reasonOfWord_116 : decode cX11_reasonOfWord 116 = .ok (.iload 5, 2) := by decide +kernel
theorem dX11_reasonOfWord_118 : decode cX11_reasonOfWord 118 = .ok (.iadd, 1) := by decide +kernel
theorem dX11_reasonOfWord_119 : decode cX11_reasonOfWord 119 = .ok (.sipush 400, 3) := by decide +kernel
theorem dX11_reasonOfWord_122 : decode cX11_reasonOfWord 122 = .ok (.if_icmp .le 8, 3) := by decide +kernel
theorem dX11_reasonOfWord_125 : decode cX11_reasonOfWord 125 = .ok (.bipush 10, 2) := by decide +kernel
theorem dX11_reasonOfWord_127 : decode cX11_reasonOfWord 127 = .ok (.goto 4, 3) := by decide +kernel
theorem dX11_reasonOfWord_130 : decode cX11_reasonOfWord 130 = .ok (.iconst 0, 1) := by decide +kernel
theorem dX11_reasonOfWord_131 : decode cX11_reasonOfWord 131 = .ok (.ireturn, 1) := by decide +kernel
theorem dX11_text_0 : decode cX11_text 0 = .ok (.iload_n 1, 1) := by decide +kernel
theorem dX11_text_1 : decode cX11_text 1 = .ok (.iconst (-1), 1) := by decide +kernel
theorem dX11_text_2 : decode cX11_text 2 = .ok (.if_icmp .ne 28, 3) := by decide +kernel
theorem dX11_text_5 : decode cX11_text 5 = .ok (.iload_n 2, 1) := by decide +kernel
theorem dX11_text_6 : decode cX11_text 6 = .ok (.iconst 0, 1) := by decide +kernel
theorem dX11_text_7 : decode cX11_text 7 = .ok (.aload_n 0, 1) := by decide +kernel
theorem dX11_text_8 : decode cX11_text 8 = .ok (.getfield 133, 3) := by decide +kernel
theorem dX11_text_11 : decode cX11_text 11 = .ok (.iconst 1, 1) := by decide +kernel
theorem dX11_text_12 : decode cX11_text 12 = .ok (.isub, 1) := by decide +kernel
theorem dX11_text_13 : decode cX11_text 13 = .ok (.invokestatic 136, 3) := by decide +kernel
theorem dX11_text_16 : decode cX11_text 16 = .ok (.ifCond .eq 12, 3) := by decide +kernel
theorem dX11_text_19 : decode cX11_text 19 = .ok (.aload_n 0, 1) := by decide +kernel
theorem dX11_text_20 : decode cX11_text 20 = .ok (.getfield 87, 3) := by decide +kernel
theorem dX11_text_23 : decode cX11_text 23 = .ok (.iload_n 2, 1) := by decide +kernel
theorem dX11_text_24 : decode cX11_text 24 = .ok (.iaload, 1) := by decide +kernel
theorem dX11_text_25 : decode cX11_text 25 = .ok (.goto 4, 3) := by decide +kernel
theorem dX11_text_28 : decode cX11_text 28 = .ok (.iconst (-1), 1) := by decide +kernel
theorem dX11_text_29 : decode cX11_text 29 = .ok (.ireturn, 1) := by decide +kernel
theorem dX11_text_30 : decode cX11_text 30 = .ok (.iload_n 1, 1) := by decide +kernel
theorem dX11_text_31 : decode cX11_text 31 = .ok (.bipush 9, 2) := by decide +kernel
theorem dX11_text_33 : decode cX11_text 33 = .ok (.if_icmp .ne 30, 3) := by decide +kernel
theorem dX11_text_36 : decode cX11_text 36 = .ok (.aload_n 0, 1) := by decide +kernel
theorem dX11_text_37 : decode cX11_text 37 = .ok (.getfield 130, 3) := by decide +kernel
theorem dX11_text_40 : decode cX11_text 40 = .ok (.ifCond .le 19, 3) := by decide +kernel
theorem dX11_text_43 : decode cX11_text 43 = .ok (.aload_n 0, 1) := by decide +kernel
theorem dX11_text_44 : decode cX11_text 44 = .ok (.getfield 151, 3) := by decide +kernel
theorem dX11_text_47 : decode cX11_text 47 = .ok (.ifCond .ne 12, 3) := by decide +kernel
theorem dX11_text_50 : decode cX11_text 50 = .ok (.aload_n 0, 1) := by decide +kernel
theorem dX11_text_51 : decode cX11_text 51 = .ok (.getfield 75, 3) := by decide +kernel
theorem dX11_text_54 : decode cX11_text 54 = .ok (.iconst 0, 1) := by decide +kernel
theorem dX11_text_55 : decode cX11_text 55 = .ok (.iaload, 1) := by decide +kernel
theorem dX11_text_56 : decode cX11_text 56 = .ok (.goto 31, 3) := by decide +kernel
theorem dX11_text_59 : decode cX11_text 59 = .ok (.iconst (-1), 1) := by decide +kernel
theorem dX11_text_60 : decode cX11_text 60 = .ok (.goto 27, 3) := by decide +kernel
theorem dX11_text_63 : decode cX11_text 63 = .ok (.iload_n 1, 1) := by decide +kernel
theorem dX11_text_64 : decode cX11_text 64 = .ok (.iconst 0, 1) := by decide +kernel
theorem dX11_text_65 : decode cX11_text 65 = .ok (.aload_n 0, 1) := by decide +kernel
theorem dX11_text_66 : decode cX11_text 66 = .ok (.getfield 115, 3) := by decide +kernel
theorem dX11_text_69 : decode cX11_text 69 = .ok (.iconst 1, 1) := by decide +kernel
theorem dX11_text_70 : decode cX11_text 70 = .ok (.isub, 1) := by decide +kernel
theorem dX11_text_71 : decode cX11_text 71 = .ok (.invokestatic 136, 3) := by decide +kernel
theorem dX11_text_74 : decode cX11_text 74 = .ok (.ifCond .eq 12, 3) := by decide +kernel
theorem dX11_text_77 : decode cX11_text 77 = .ok (.aload_n 0, 1) := by decide +kernel
theorem dX11_text_78 : decode cX11_text 78 = .ok (.getfield 72, 3) := by decide +kernel
theorem dX11_text_81 : decode cX11_text 81 = .ok (.iload_n 1, 1) := by decide +kernel
theorem dX11_text_82 : decode cX11_text 82 = .ok (.iaload, 1) := by decide +kernel
theorem dX11_text_83 : decode cX11_text 83 = .ok (.goto 4, 3) := by decide +kernel
theorem dX11_text_86 : decode cX11_text 86 = .ok (.iconst (-1), 1) := by decide +kernel
theorem dX11_text_87 : decode cX11_text 87 = .ok (.istore_n 3, 1) := by decide +kernel
theorem dX11_text_88 : decode cX11_text 88 = .ok (.iload_n 3, 1) := by decide +kernel
theorem dX11_text_89 : decode cX11_text 89 = .ok (.iconst (-1), 1) := by decide +kernel
theorem dX11_text_90 : decode cX11_text 90 = .ok (.if_icmp .eq 34, 3) := by decide +kernel
theorem dX11_text_93 : decode cX11_text 93 = .ok (.iload_n 2, 1) := by decide +kernel
theorem dX11_text_94 : decode cX11_text 94 = .ok (.iconst 0, 1) := by decide +kernel
theorem dX11_text_95 : decode cX11_text 95 = .ok (.aload_n 0, 1) := by decide +kernel
theorem dX11_text_96 : decode cX11_text 96 = .ok (.getfield 37, 3) := by decide +kernel
theorem dX11_text_99 : decode cX11_text 99 = .ok (.iload_n 3, 1) := by decide +kernel
theorem dX11_text_100 : decode cX11_text 100 = .ok (.iaload, 1) := by decide +kernel
theorem dX11_text_101 : decode cX11_text 101 = .ok (.iconst 1, 1) := by decide +kernel
theorem dX11_text_102 : decode cX11_text 102 = .ok (.isub, 1) := by decide +kernel
theorem dX11_text_103 : decode cX11_text 103 = .ok (.invokestatic 136, 3) := by decide +kernel
theorem dX11_text_106 : decode cX11_text 106 = .ok (.ifCond .eq 18, 3) := by decide +kernel
theorem dX11_text_109 : decode cX11_text 109 = .ok (.aload_n 0, 1) := by decide +kernel
theorem dX11_text_110 : decode cX11_text 110 = .ok (.getfield 65, 3) := by decide +kernel
theorem dX11_text_113 : decode cX11_text 113 = .ok (.sipush 400, 3) := by decide +kernel
theorem dX11_text_116 : decode cX11_text 116 = .ok (.iload_n 3, 1) := by decide +kernel
theorem dX11_text_117 : decode cX11_text 117 = .ok (.imul, 1) := by decide +kernel
theorem dX11_text_118 : decode cX11_text 118 = .ok (.iload_n 2, 1) := by decide +kernel
theorem dX11_text_119 : decode cX11_text 119 = .ok (.iadd, 1) := by decide +kernel
theorem dX11_text_120 : decode cX11_text 120 = .ok (.iaload, 1) := by decide +kernel
theorem dX11_text_121 : decode cX11_text 121 = .ok (.goto 4, 3) := by decide +kernel
theorem dX11_text_124 : decode cX11_text 124 = .ok (.iconst (-1), 1) := by decide +kernel
theorem dX11_text_125 : decode cX11_text 125 = .ok (.ireturn, 1) := by decide +kernel
theorem dX11_top_0 : decode cX11_top 0 = .ok (.aload_n 0, 1) := by decide +kernel
theorem dX11_top_1 : decode cX11_top 1 = .ok (.getfield 72, 3) := by decide +kernel
theorem dX11_top_4 : decode cX11_top 4 = .ok (.aload_n 0, 1) := by decide +kernel
theorem dX11_top_5 : decode cX11_top 5 = .ok (.getfield 115, 3) := by decide +kernel
theorem dX11_top_8 : decode cX11_top 8 = .ok (.iconst 1, 1) := by decide +kernel
theorem dX11_top_9 : decode cX11_top 9 = .ok (.isub, 1) := by decide +kernel
theorem dX11_top_10 : decode cX11_top 10 = .ok (.iaload, 1) := by decide +kernel
theorem dX11_top_11 : decode cX11_top 11 = .ok (.ireturn, 1) := by decide +kernel
theorem dX11_voters_0 : decode cX11_voters 0 = .ok (.iconst 0, 1) := by decide +kernel
theorem dX11_voters_1 : decode cX11_voters 1 = .ok (.istore_n 2, 1) := by decide +kernel
theorem dX11_voters_2 : decode cX11_voters 2 = .ok (.iconst 0, 1) := by decide +kernel
theorem dX11_voters_3 : decode cX11_voters 3 = .ok (.istore_n 3, 1) := by decide +kernel
theorem dX11_voters_4 : decode cX11_voters 4 = .ok (.iload_n 3, 1) := by decide +kernel
theorem dX11_voters_5 : decode cX11_voters 5 = .ok (.aload_n 0, 1) := by decide +kernel
theorem dX11_voters_6 : decode cX11_voters 6 = .ok (.getfield 96, 3) := by decide +kernel
theorem dX11_voters_9 : decode cX11_voters 9 = .ok (.if_icmp .ge 33, 3) := by decide +kernel
theorem dX11_voters_12 : decode cX11_voters 12 = .ok (.iload_n 2, 1) := by decide +kernel
theorem dX11_voters_13 : decode cX11_voters 13 = .ok (.aload_n 0, 1) := by decide +kernel
theorem dX11_voters_14 : decode cX11_voters 14 = .ok (.getfield 68, 3) := by decide +kernel
theorem dX11_voters_17 : decode cX11_voters 17 = .ok (.sipush 200, 3) := by decide +kernel
theorem dX11_voters_20 : decode cX11_voters 20 = .ok (.iload_n 1, 1) := by decide +kernel
theorem dX11_voters_21 : decode cX11_voters 21 = .ok (.imul, 1) := by decide +kernel
theorem dX11_voters_22 : decode cX11_voters 22 = .ok (.iload_n 3, 1) := by decide +kernel
theorem dX11_voters_23 : decode cX11_voters 23 = .ok (.iadd, 1) := by decide +kernel
theorem dX11_voters_24 : decode cX11_voters 24 = .ok (.baload, 1) := by decide +kernel
theorem dX11_voters_25 : decode cX11_voters 25 = .ok (.iconst 2, 1) := by decide +kernel
theorem dX11_voters_26 : decode cX11_voters 26 = .ok (.if_icmp .ge 7, 3) := by decide +kernel
theorem dX11_voters_29 : decode cX11_voters 29 = .ok (.iconst 1, 1) := by decide +kernel
theorem dX11_voters_30 : decode cX11_voters 30 = .ok (.goto 4, 3) := by decide +kernel
theorem dX11_voters_33 : decode cX11_voters 33 = .ok (.iconst 0, 1) := by decide +kernel
theorem dX11_voters_34 : decode cX11_voters 34 = .ok (.iadd, 1) := by decide +kernel
theorem dX11_voters_35 : decode cX11_voters 35 = .ok (.istore_n 2, 1) := by decide +kernel
theorem dX11_voters_36 : decode cX11_voters 36 = .ok (.iinc 3 1, 3) := by decide +kernel
theorem dX11_voters_39 : decode cX11_voters 39 = .ok (.goto (-35), 3) := by decide +kernel
theorem dX11_voters_42 : decode cX11_voters 42 = .ok (.iload_n 2, 1) := by decide +kernel
theorem dX11_voters_43 : decode cX11_voters 43 = .ok (.ireturn, 1) := by decide +kernel
theorem dX11_wantsPlace_0 : decode cX11_wantsPlace 0 = .ok (.iconst 0, 1) := by decide +kernel
theorem dX11_wantsPlace_1 : decode cX11_wantsPlace 1 = .ok (.istore_n 1, 1) := by decide +kernel
theorem dX11_wantsPlace_2 : decode cX11_wantsPlace 2 = .ok (.iload_n 1, 1) := by decide +kernel
theorem dX11_wantsPlace_3 : decode cX11_wantsPlace 3 = .ok (.aload_n 0, 1) := by decide +kernel
theorem dX11_wantsPlace_4 : decode cX11_wantsPlace 4 = .ok (.getfield 115, 3) := by decide +kernel
theorem dX11_wantsPlace_7 : decode cX11_wantsPlace 7 = .ok (.if_icmp .ge 57, 3) := by decide +kernel
theorem dX11_wantsPlace_10 : decode cX11_wantsPlace 10 = .ok (.aload_n 0, 1) := by decide +kernel
theorem dX11_wantsPlace_11 : decode cX11_wantsPlace 11 = .ok (.getfield 22, 3) := by decide +kernel
theorem dX11_wantsPlace_14 : decode cX11_wantsPlace 14 = .ok (.aload_n 0, 1) := by decide +kernel
theorem dX11_wantsPlace_15 : decode cX11_wantsPlace 15 = .ok (.getfield 72, 3) := by decide +kernel
theorem dX11_wantsPlace_18 : decode cX11_wantsPlace 18 = .ok (.iload_n 1, 1) := by decide +kernel
theorem dX11_wantsPlace_19 : decode cX11_wantsPlace 19 = .ok (.iaload, 1) := by decide +kernel
theorem dX11_wantsPlace_20 : decode cX11_wantsPlace 20 = .ok (.iaload, 1) := by decide +kernel
theorem dX11_wantsPlace_21 : decode cX11_wantsPlace 21 = .ok (.iconst 4, 1) := by decide +kernel
theorem dX11_wantsPlace_22 : decode cX11_wantsPlace 22 = .ok (.if_icmp .eq 34, 3) := by decide +kernel
theorem dX11_wantsPlace_25 : decode cX11_wantsPlace 25 = .ok (.aload_n 0, 1) := by decide +kernel
theorem dX11_wantsPlace_26 : decode cX11_wantsPlace 26 = .ok (.getfield 22, 3) := by decide +kernel
theorem dX11_wantsPlace_29 : decode cX11_wantsPlace 29 = .ok (.aload_n 0, 1) := by decide +kernel
theorem dX11_wantsPlace_30 : decode cX11_wantsPlace 30 = .ok (.getfield 72, 3) := by decide +kernel
theorem dX11_wantsPlace_33 : decode cX11_wantsPlace 33 = .ok (.iload_n 1, 1) := by decide +kernel
theorem dX11_wantsPlace_34 : decode cX11_wantsPlace 34 = .ok (.iaload, 1) := by decide +kernel
theorem dX11_wantsPlace_35 : decode cX11_wantsPlace 35 = .ok (.iaload, 1) := by decide +kernel
theorem dX11_wantsPlace_36 : decode cX11_wantsPlace 36 = .ok (.iconst 5, 1) := by decide +kernel
theorem dX11_wantsPlace_37 : decode cX11_wantsPlace 37 = .ok (.if_icmp .eq 19, 3) := by decide +kernel
theorem dX11_wantsPlace_40 : decode cX11_wantsPlace 40 = .ok (.aload_n 0, 1) := by decide +kernel
theorem dX11_wantsPlace_41 : decode cX11_wantsPlace 41 = .ok (.getfield 22, 3) := by decide +kernel
theorem dX11_wantsPlace_44 : decode cX11_wantsPlace 44 = .ok (.aload_n 0, 1) := by decide +kernel
theorem dX11_wantsPlace_45 : decode cX11_wantsPlace 45 = .ok (.getfield 72, 3) := by decide +kernel
theorem dX11_wantsPlace_48 : decode cX11_wantsPlace 48 = .ok (.iload_n 1, 1) := by decide +kernel
theorem dX11_wantsPlace_49 : decode cX11_wantsPlace 49 = .ok (.iaload, 1) := by decide +kernel
theorem dX11_wantsPlace_50 : decode cX11_wantsPlace 50 = .ok (.iaload, 1) := by decide +kernel
theorem dX11_wantsPlace_51 : decode cX11_wantsPlace 51 = .ok (.bipush 7, 2) := by decide +kernel
theorem dX11_wantsPlace_53 : decode cX11_wantsPlace 53 = .ok (.if_icmp .ne 5, 3) := by decide +kernel
theorem dX11_wantsPlace_56 : decode cX11_wantsPlace 56 = .ok (.iconst 1, 1) := by decide +kernel
theorem dX11_wantsPlace_57 : decode cX11_wantsPlace 57 = .ok (.ireturn, 1) := by decide +kernel
theorem dX11_wantsPlace_58 : decode cX11_wantsPlace 58 = .ok (.iinc 1 1, 3) := by decide +kernel
theorem dX11_wantsPlace_61 : decode cX11_wantsPlace 61 = .ok (.goto (-59), 3) := by decide +kernel
theorem dX11_wantsPlace_64 : decode cX11_wantsPlace 64 = .ok (.iconst 0, 1) := by decide +kernel
theorem dX11_wantsPlace_65 : decode cX11_wantsPlace 65 = .ok (.ireturn, 1) := by decide +kernel
theorem dX12_in_0 : decode cX12_in 0 = .ok (.iload_n 0, 1) := by decide +kernel
theorem dX12_in_1 : decode cX12_in 1 = .ok (.iload_n 1, 1) := by decide +kernel
theorem dX12_in_2 : decode cX12_in 2 = .ok (.if_icmp .lt 12, 3) := by decide +kernel
theorem dX12_in_5 : decode cX12_in 5 = .ok (.iload_n 0, 1) := by decide +kernel
theorem dX12_in_6 : decode cX12_in 6 = .ok (.iload_n 2, 1) := by decide +kernel
theorem dX12_in_7 : decode cX12_in 7 = .ok (.if_icmp .gt 7, 3) := by decide +kernel
theorem dX12_in_10 : decode cX12_in 10 = .ok (.iconst 1, 1) := by decide +kernel
theorem dX12_in_11 : decode cX12_in 11 = .ok (.goto 4, 3) := by decide +kernel
theorem dX12_in_14 : decode cX12_in 14 = .ok (.iconst 0, 1) := by decide +kernel
theorem dX12_in_15 : decode cX12_in 15 = .ok (.ireturn, 1) := by decide +kernel
