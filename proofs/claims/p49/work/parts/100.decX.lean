theorem dJxa1e45_init_da8c8_0 : decode cJxa1e45_init_da8c8 0 = .ok (.aload_n 0, 1) := by decide +kernel
theorem dJxa1e45_init_da8c8_1 : decode cJxa1e45_init_da8c8 1 = .ok (.invokespecial 1, 3) := by decide +kernel
theorem dJxa1e45_init_da8c8_4 : decode cJxa1e45_init_da8c8 4 = .ok (.return_, 1) := by decide +kernel
theorem dJxc12de_init_da8c8_0 : decode cJxc12de_init_da8c8 0 = .ok (.aload_n 0, 1) := by decide +kernel
theorem dJxc12de_init_da8c8_1 : decode cJxc12de_init_da8c8 1 = .ok (.invokespecial 1, 3) := by decide +kernel
theorem dJxc12de_init_da8c8_4 : decode cJxc12de_init_da8c8 4 = .ok (.aload_n 0, 1) := by decide +kernel
theorem dJxc12de_init_da8c8_5 : decode cJxc12de_init_da8c8 5 = .ok (.iconst 0, 1) := by decide +kernel
theorem dJxc12de_init_da8c8_6 : decode cJxc12de_init_da8c8 6 = .ok (.putfield 7, 3) := by decide +kernel
theorem dJxc12de_init_da8c8_9 : decode cJxc12de_init_da8c8 9 = .ok (.return_, 1) := by decide +kernel
theorem dJx4a65c_init_da8c8_0 : decode cJx4a65c_init_da8c8 0 = .ok (.aload_n 0, 1) := by decide +kernel
theorem dJx4a65c_init_da8c8_1 : decode cJx4a65c_init_da8c8 1 = .ok (.invokespecial 1, 3) := by decide +kernel
theorem dJx4a65c_init_da8c8_4 : decode cJx4a65c_init_da8c8 4 = .ok (.aload_n 0, 1) := by decide +kernel
theorem dJx4a65c_init_da8c8_5 : decode cJx4a65c_init_da8c8 5 = .ok (.getstatic 39, 3) := by decide +kernel
theorem dJx4a65c_init_da8c8_8 : decode cJx4a65c_init_da8c8 8 = .ok (.putfield 9, 3) := by decide +kernel
theorem dJx4a65c_init_da8c8_11 : decode cJx4a65c_init_da8c8 11 = .ok (.return_, 1) := by decide +kernel
theorem dJx4a65c_add_7a177_0 : decode cJx4a65c_add_7a177 0 = .ok (.aload_n 0, 1) := by decide +kernel
theorem dJx4a65c_add_7a177_1 : decode cJx4a65c_add_7a177 1 = .ok (.iload_n 1, 1) := by decide +kernel
theorem dJx4a65c_add_7a177_2 : decode cJx4a65c_add_7a177 2 = .ok (.invokevirtual 135, 3) := by decide +kernel
theorem dJx4a65c_add_7a177_5 : decode cJx4a65c_add_7a177 5 = .ok (.aload_n 0, 1) := by decide +kernel
theorem dJx4a65c_add_7a177_6 : decode cJx4a65c_add_7a177 6 = .ok (.dup, 1) := by decide +kernel
theorem dJx4a65c_add_7a177_7 : decode cJx4a65c_add_7a177 7 = .ok (.getfield 63, 3) := by decide +kernel
theorem dJx4a65c_add_7a177_10 : decode cJx4a65c_add_7a177 10 = .ok (.iconst 1, 1) := by decide +kernel
theorem dJx4a65c_add_7a177_11 : decode cJx4a65c_add_7a177 11 = .ok (.iadd, 1) := by decide +kernel
theorem dJx4a65c_add_7a177_12 : decode cJx4a65c_add_7a177 12 = .ok (.putfield 63, 3) := by decide +kernel
theorem dJx4a65c_add_7a177_15 : decode cJx4a65c_add_7a177 15 = .ok (.aload_n 0, 1) := by decide +kernel
theorem dJx4a65c_add_7a177_16 : decode cJx4a65c_add_7a177 16 = .ok (.getfield 48, 3) := by decide +kernel
theorem dJx4a65c_add_7a177_19 : decode cJx4a65c_add_7a177 19 = .ok (.dup, 1) := by decide +kernel
theorem dJx4a65c_add_7a177_20 : decode cJx4a65c_add_7a177 20 = .ok (.istore_n 3, 1) := by decide +kernel
theorem dJx4a65c_add_7a177_21 : decode cJx4a65c_add_7a177 21 = .ok (.aload_n 0, 1) := by decide +kernel
theorem dJx4a65c_add_7a177_22 : decode cJx4a65c_add_7a177 22 = .ok (.getfield 9, 3) := by decide +kernel
theorem dJx4a65c_add_7a177_25 : decode cJx4a65c_add_7a177 25 = .ok (.dup, 1) := by decide +kernel
theorem dJx4a65c_add_7a177_26 : decode cJx4a65c_add_7a177 26 = .ok (.astore 4, 2) := by decide +kernel
theorem dJx4a65c_add_7a177_28 : decode cJx4a65c_add_7a177 28 = .ok (.arraylength, 1) := by decide +kernel
theorem dJx4a65c_add_7a177_29 : decode cJx4a65c_add_7a177 29 = .ok (.if_icmp .ne 9, 3) := by decide +kernel
theorem dJx4a65c_add_7a177_32 : decode cJx4a65c_add_7a177 32 = .ok (.aload_n 0, 1) := by decide +kernel
theorem dJx4a65c_add_7a177_33 : decode cJx4a65c_add_7a177 33 = .ok (.invokevirtual 129, 3) := by decide +kernel
theorem dJx4a65c_add_7a177_36 : decode cJx4a65c_add_7a177 36 = .ok (.astore 4, 2) := by decide +kernel
theorem dJx4a65c_add_7a177_38 : decode cJx4a65c_add_7a177 38 = .ok (.aload 4, 2) := by decide +kernel
theorem dJx4a65c_add_7a177_40 : decode cJx4a65c_add_7a177 40 = .ok (.iload_n 1, 1) := by decide +kernel
theorem dJx4a65c_add_7a177_41 : decode cJx4a65c_add_7a177 41 = .ok (.aload 4, 2) := by decide +kernel
theorem dJx4a65c_add_7a177_43 : decode cJx4a65c_add_7a177 43 = .ok (.iload_n 1, 1) := by decide +kernel
theorem dJx4a65c_add_7a177_44 : decode cJx4a65c_add_7a177 44 = .ok (.iconst 1, 1) := by decide +kernel
theorem dJx4a65c_add_7a177_45 : decode cJx4a65c_add_7a177 45 = .ok (.iadd, 1) := by decide +kernel
theorem dJx4a65c_add_7a177_46 : decode cJx4a65c_add_7a177 46 = .ok (.iload_n 3, 1) := by decide +kernel
theorem dJx4a65c_add_7a177_47 : decode cJx4a65c_add_7a177 47 = .ok (.iload_n 1, 1) := by decide +kernel
theorem dJx4a65c_add_7a177_48 : decode cJx4a65c_add_7a177 48 = .ok (.isub, 1) := by decide +kernel
theorem dJx4a65c_add_7a177_49 : decode cJx4a65c_add_7a177 49 = .ok (.invokestatic 112, 3) := by decide +kernel
theorem dJx4a65c_add_7a177_52 : decode cJx4a65c_add_7a177 52 = .ok (.aload 4, 2) := by decide +kernel
theorem dJx4a65c_add_7a177_54 : decode cJx4a65c_add_7a177 54 = .ok (.iload_n 1, 1) := by decide +kernel
theorem dJx4a65c_add_7a177_55 : decode cJx4a65c_add_7a177 55 = .ok (.aload_n 2, 1) := by decide +kernel
theorem dJx4a65c_add_7a177_56 : decode cJx4a65c_add_7a177 56 = .ok (.aastore, 1) := by decide +kernel
theorem dJx4a65c_add_7a177_57 : decode cJx4a65c_add_7a177 57 = .ok (.aload_n 0, 1) := by decide +kernel
theorem dJx4a65c_add_7a177_58 : decode cJx4a65c_add_7a177 58 = .ok (.iload_n 3, 1) := by decide +kernel
theorem dJx4a65c_add_7a177_59 : decode cJx4a65c_add_7a177 59 = .ok (.iconst 1, 1) := by decide +kernel
theorem dJx4a65c_add_7a177_60 : decode cJx4a65c_add_7a177 60 = .ok (.iadd, 1) := by decide +kernel
theorem dJx4a65c_add_7a177_61 : decode cJx4a65c_add_7a177 61 = .ok (.putfield 48, 3) := by decide +kernel
theorem dJx4a65c_add_7a177_64 : decode cJx4a65c_add_7a177 64 = .ok (.return_, 1) := by decide +kernel
theorem dJx4a65c_add_9ea2d_0 : decode cJx4a65c_add_9ea2d 0 = .ok (.aload_n 0, 1) := by decide +kernel
theorem dJx4a65c_add_9ea2d_1 : decode cJx4a65c_add_9ea2d 1 = .ok (.dup, 1) := by decide +kernel
theorem dJx4a65c_add_9ea2d_2 : decode cJx4a65c_add_9ea2d 2 = .ok (.getfield 63, 3) := by decide +kernel
theorem dJx4a65c_add_9ea2d_5 : decode cJx4a65c_add_9ea2d 5 = .ok (.iconst 1, 1) := by decide +kernel
theorem dJx4a65c_add_9ea2d_6 : decode cJx4a65c_add_9ea2d 6 = .ok (.iadd, 1) := by decide +kernel
theorem dJx4a65c_add_9ea2d_7 : decode cJx4a65c_add_9ea2d 7 = .ok (.putfield 63, 3) := by decide +kernel
theorem dJx4a65c_add_9ea2d_10 : decode cJx4a65c_add_9ea2d 10 = .ok (.aload_n 0, 1) := by decide +kernel
theorem dJx4a65c_add_9ea2d_11 : decode cJx4a65c_add_9ea2d 11 = .ok (.aload_n 1, 1) := by decide +kernel
theorem dJx4a65c_add_9ea2d_12 : decode cJx4a65c_add_9ea2d 12 = .ok (.aload_n 0, 1) := by decide +kernel
theorem dJx4a65c_add_9ea2d_13 : decode cJx4a65c_add_9ea2d 13 = .ok (.getfield 9, 3) := by decide +kernel
theorem dJx4a65c_add_9ea2d_16 : decode cJx4a65c_add_9ea2d 16 = .ok (.aload_n 0, 1) := by decide +kernel
theorem dJx4a65c_add_9ea2d_17 : decode cJx4a65c_add_9ea2d 17 = .ok (.getfield 48, 3) := by decide +kernel
theorem dJx4a65c_add_9ea2d_20 : decode cJx4a65c_add_9ea2d 20 = .ok (.invokevirtual 131, 3) := by decide +kernel
theorem dJx4a65c_add_9ea2d_23 : decode cJx4a65c_add_9ea2d 23 = .ok (.iconst 1, 1) := by decide +kernel
theorem dJx4a65c_add_9ea2d_24 : decode cJx4a65c_add_9ea2d 24 = .ok (.ireturn, 1) := by decide +kernel
theorem dJx4a65c_add_72be8_0 : decode cJx4a65c_add_72be8 0 = .ok (.iload_n 3, 1) := by decide +kernel
theorem dJx4a65c_add_72be8_1 : decode cJx4a65c_add_72be8 1 = .ok (.aload_n 2, 1) := by decide +kernel
theorem dJx4a65c_add_72be8_2 : decode cJx4a65c_add_72be8 2 = .ok (.arraylength, 1) := by decide +kernel
theorem dJx4a65c_add_72be8_3 : decode cJx4a65c_add_72be8 3 = .ok (.if_icmp .ne 8, 3) := by decide +kernel
theorem dJx4a65c_add_72be8_6 : decode cJx4a65c_add_72be8 6 = .ok (.aload_n 0, 1) := by decide +kernel
theorem dJx4a65c_add_72be8_7 : decode cJx4a65c_add_72be8 7 = .ok (.invokevirtual 129, 3) := by decide +kernel
theorem dJx4a65c_add_72be8_10 : decode cJx4a65c_add_72be8 10 = .ok (.astore_n 2, 1) := by decide +kernel
theorem dJx4a65c_add_72be8_11 : decode cJx4a65c_add_72be8 11 = .ok (.aload_n 2, 1) := by decide +kernel
theorem dJx4a65c_add_72be8_12 : decode cJx4a65c_add_72be8 12 = .ok (.iload_n 3, 1) := by decide +kernel
theorem dJx4a65c_add_72be8_13 : decode cJx4a65c_add_72be8 13 = .ok (.aload_n 1, 1) := by decide +kernel
theorem dJx4a65c_add_72be8_14 : decode cJx4a65c_add_72be8 14 = .ok (.aastore, 1) := by decide +kernel
theorem dJx4a65c_add_72be8_15 : decode cJx4a65c_add_72be8 15 = .ok (.aload_n 0, 1) := by decide +kernel
theorem dJx4a65c_add_72be8_16 : decode cJx4a65c_add_72be8 16 = .ok (.iload_n 3, 1) := by decide +kernel
theorem dJx4a65c_add_72be8_17 : decode cJx4a65c_add_72be8 17 = .ok (.iconst 1, 1) := by decide +kernel
theorem dJx4a65c_add_72be8_18 : decode cJx4a65c_add_72be8 18 = .ok (.iadd, 1) := by decide +kernel
theorem dJx4a65c_add_72be8_19 : decode cJx4a65c_add_72be8 19 = .ok (.putfield 48, 3) := by decide +kernel
theorem dJx4a65c_add_72be8_22 : decode cJx4a65c_add_72be8 22 = .ok (.return_, 1) := by decide +kernel
theorem dJx4a65c_clear_da8c8_0 : decode cJx4a65c_clear_da8c8 0 = .ok (.aload_n 0, 1) := by decide +kernel
theorem dJx4a65c_clear_da8c8_1 : decode cJx4a65c_clear_da8c8 1 = .ok (.dup, 1) := by decide +kernel
theorem dJx4a65c_clear_da8c8_2 : decode cJx4a65c_clear_da8c8 2 = .ok (.getfield 63, 3) := by decide +kernel
theorem dJx4a65c_clear_da8c8_5 : decode cJx4a65c_clear_da8c8 5 = .ok (.iconst 1, 1) := by decide +kernel
theorem dJx4a65c_clear_da8c8_6 : decode cJx4a65c_clear_da8c8 6 = .ok (.iadd, 1) := by decide +kernel
theorem dJx4a65c_clear_da8c8_7 : decode cJx4a65c_clear_da8c8 7 = .ok (.putfield 63, 3) := by decide +kernel
theorem dJx4a65c_clear_da8c8_10 : decode cJx4a65c_clear_da8c8 10 = .ok (.aload_n 0, 1) := by decide +kernel
theorem dJx4a65c_clear_da8c8_11 : decode cJx4a65c_clear_da8c8 11 = .ok (.getfield 9, 3) := by decide +kernel
theorem dJx4a65c_clear_da8c8_14 : decode cJx4a65c_clear_da8c8 14 = .ok (.astore_n 1, 1) := by decide +kernel
theorem dJx4a65c_clear_da8c8_15 : decode cJx4a65c_clear_da8c8 15 = .ok (.aload_n 0, 1) := by decide +kernel
theorem dJx4a65c_clear_da8c8_16 : decode cJx4a65c_clear_da8c8 16 = .ok (.getfield 48, 3) := by decide +kernel
theorem dJx4a65c_clear_da8c8_19 : decode cJx4a65c_clear_da8c8 19 = .ok (.istore_n 2, 1) := by decide +kernel
theorem dJx4a65c_clear_da8c8_20 : decode cJx4a65c_clear_da8c8 20 = .ok (.aload_n 0, 1) := by decide +kernel
theorem dJx4a65c_clear_da8c8_21 : decode cJx4a65c_clear_da8c8 21 = .ok (.iconst 0, 1) := by decide +kernel
theorem dJx4a65c_clear_da8c8_22 : decode cJx4a65c_clear_da8c8 22 = .ok (.dup_x1, 1) := by decide +kernel
theorem dJx4a65c_clear_da8c8_23 : decode cJx4a65c_clear_da8c8 23 = .ok (.putfield 48, 3) := by decide +kernel
theorem dJx4a65c_clear_da8c8_26 : decode cJx4a65c_clear_da8c8 26 = .ok (.istore_n 3, 1) := by decide +kernel
theorem dJx4a65c_clear_da8c8_27 : decode cJx4a65c_clear_da8c8 27 = .ok (.iload_n 3, 1) := by decide +kernel
theorem dJx4a65c_clear_da8c8_28 : decode cJx4a65c_clear_da8c8 28 = .ok (.iload_n 2, 1) := by decide +kernel
theorem dJx4a65c_clear_da8c8_29 : decode cJx4a65c_clear_da8c8 29 = .ok (.if_icmp .ge 13, 3) := by decide +kernel
theorem dJx4a65c_clear_da8c8_32 : decode cJx4a65c_clear_da8c8 32 = .ok (.aload_n 1, 1) := by decide +kernel
theorem dJx4a65c_clear_da8c8_33 : decode cJx4a65c_clear_da8c8 33 = .ok (.iload_n 3, 1) := by decide +kernel
theorem dJx4a65c_clear_da8c8_34 : decode cJx4a65c_clear_da8c8 34 = .ok (.aconst_null, 1) := by decide +kernel
theorem dJx4a65c_clear_da8c8_35 : decode cJx4a65c_clear_da8c8 35 = .ok (.aastore, 1) := by decide +kernel
theorem dJx4a65c_clear_da8c8_36 : decode cJx4a65c_clear_da8c8 36 = .ok (.iinc 3 1, 3) := by decide +kernel
theorem dJx4a65c_clear_da8c8_39 : decode cJx4a65c_clear_da8c8 39 = .ok (.goto (-12), 3) := by decide +kernel
theorem dJx4a65c_clear_da8c8_42 : decode cJx4a65c_clear_da8c8 42 = .ok (.return_, 1) := by decide +kernel
theorem dJx4a65c_elementData_915e3_0 : decode cJx4a65c_elementData_915e3 0 = .ok (.aload_n 0, 1) := by decide +kernel
theorem dJx4a65c_elementData_915e3_1 : decode cJx4a65c_elementData_915e3 1 = .ok (.getfield 9, 3) := by decide +kernel
theorem dJx4a65c_elementData_915e3_4 : decode cJx4a65c_elementData_915e3 4 = .ok (.iload_n 1, 1) := by decide +kernel
theorem dJx4a65c_elementData_915e3_5 : decode cJx4a65c_elementData_915e3 5 = .ok (.aaload, 1) := by decide +kernel
theorem dJx4a65c_elementData_915e3_6 : decode cJx4a65c_elementData_915e3 6 = .ok (.areturn, 1) := by decide +kernel
theorem dJx4a65c_get_915e3_0 : decode cJx4a65c_get_915e3 0 = .ok (.iload_n 1, 1) := by decide +kernel
theorem dJx4a65c_get_915e3_1 : decode cJx4a65c_get_915e3 1 = .ok (.aload_n 0, 1) := by decide +kernel
theorem dJx4a65c_get_915e3_2 : decode cJx4a65c_get_915e3 2 = .ok (.getfield 48, 3) := by decide +kernel
theorem dJx4a65c_get_915e3_5 : decode cJx4a65c_get_915e3 5 = .ok (.invokestatic 118, 3) := by decide +kernel
theorem dJx4a65c_get_915e3_8 : decode cJx4a65c_get_915e3 8 = .ok (.pop, 1) := by decide +kernel
theorem dJx4a65c_get_915e3_9 : decode cJx4a65c_get_915e3 9 = .ok (.aload_n 0, 1) := by decide +kernel
theorem dJx4a65c_get_915e3_10 : decode cJx4a65c_get_915e3 10 = .ok (.iload_n 1, 1) := by decide +kernel
theorem dJx4a65c_get_915e3_11 : decode cJx4a65c_get_915e3 11 = .ok (.invokevirtual 123, 3) := by decide +kernel
theorem dJx4a65c_get_915e3_14 : decode cJx4a65c_get_915e3 14 = .ok (.areturn, 1) := by decide +kernel
theorem dJx4a65c_grow_d5877_0 : decode cJx4a65c_grow_d5877 0 = .ok (.aload_n 0, 1) := by decide +kernel
theorem dJx4a65c_grow_d5877_1 : decode cJx4a65c_grow_d5877 1 = .ok (.aload_n 0, 1) := by decide +kernel
theorem dJx4a65c_grow_d5877_2 : decode cJx4a65c_grow_d5877 2 = .ok (.getfield 48, 3) := by decide +kernel
theorem dJx4a65c_grow_d5877_5 : decode cJx4a65c_grow_d5877 5 = .ok (.iconst 1, 1) := by decide +kernel
theorem dJx4a65c_grow_d5877_6 : decode cJx4a65c_grow_d5877 6 = .ok (.iadd, 1) := by decide +kernel
theorem dJx4a65c_grow_d5877_7 : decode cJx4a65c_grow_d5877 7 = .ok (.invokevirtual 69, 3) := by decide +kernel
theorem dJx4a65c_grow_d5877_10 : decode cJx4a65c_grow_d5877 10 = .ok (.areturn, 1) := by decide +kernel
theorem dJx4a65c_grow_92f84_0 : decode cJx4a65c_grow_92f84 0 = .ok (.aload_n 0, 1) := by decide +kernel
theorem dJx4a65c_grow_92f84_1 : decode cJx4a65c_grow_92f84 1 = .ok (.getfield 9, 3) := by decide +kernel
theorem dJx4a65c_grow_92f84_4 : decode cJx4a65c_grow_92f84 4 = .ok (.arraylength, 1) := by decide +kernel
theorem dJx4a65c_grow_92f84_5 : decode cJx4a65c_grow_92f84 5 = .ok (.istore_n 2, 1) := by decide +kernel
theorem dJx4a65c_grow_92f84_6 : decode cJx4a65c_grow_92f84 6 = .ok (.iload_n 2, 1) := by decide +kernel
theorem dJx4a65c_grow_92f84_7 : decode cJx4a65c_grow_92f84 7 = .ok (.ifCond .gt 13, 3) := by decide +kernel
theorem dJx4a65c_grow_92f84_10 : decode cJx4a65c_grow_92f84 10 = .ok (.aload_n 0, 1) := by decide +kernel
theorem dJx4a65c_grow_92f84_11 : decode cJx4a65c_grow_92f84 11 = .ok (.getfield 9, 3) := by decide +kernel
theorem dJx4a65c_grow_92f84_14 : decode cJx4a65c_grow_92f84 14 = .ok (.getstatic 39, 3) := by decide +kernel
theorem dJx4a65c_grow_92f84_17 : decode cJx4a65c_grow_92f84 17 = .ok (.if_acmp .eq 28, 3) := by decide +kernel
theorem dJx4a65c_grow_92f84_20 : decode cJx4a65c_grow_92f84 20 = .ok (.iload_n 2, 1) := by decide +kernel
theorem dJx4a65c_grow_92f84_21 : decode cJx4a65c_grow_92f84 21 = .ok (.iload_n 1, 1) := by decide +kernel
theorem dJx4a65c_grow_92f84_22 : decode cJx4a65c_grow_92f84 22 = .ok (.iload_n 2, 1) := by decide +kernel
theorem dJx4a65c_grow_92f84_23 : decode cJx4a65c_grow_92f84 23 = .ok (.isub, 1) := by decide +kernel
theorem dJx4a65c_grow_92f84_24 : decode cJx4a65c_grow_92f84 24 = .ok (.iload_n 2, 1) := by decide +kernel
theorem dJx4a65c_grow_92f84_25 : decode cJx4a65c_grow_92f84 25 = .ok (.iconst 1, 1) := by decide +kernel
theorem dJx4a65c_grow_92f84_26 : decode cJx4a65c_grow_92f84 26 = .ok (.ishr, 1) := by decide +kernel
theorem dJx4a65c_grow_92f84_27 : decode cJx4a65c_grow_92f84 27 = .ok (.invokestatic 73, 3) := by decide +kernel
theorem dJx4a65c_grow_92f84_30 : decode cJx4a65c_grow_92f84 30 = .ok (.istore_n 3, 1) := by decide +kernel
theorem dJx4a65c_grow_92f84_31 : decode cJx4a65c_grow_92f84 31 = .ok (.aload_n 0, 1) := by decide +kernel
theorem dJx4a65c_grow_92f84_32 : decode cJx4a65c_grow_92f84 32 = .ok (.aload_n 0, 1) := by decide +kernel
theorem dJx4a65c_grow_92f84_33 : decode cJx4a65c_grow_92f84 33 = .ok (.getfield 9, 3) := by decide +kernel
theorem dJx4a65c_grow_92f84_36 : decode cJx4a65c_grow_92f84 36 = .ok (.iload_n 3, 1) := by decide +kernel
theorem dJx4a65c_grow_92f84_37 : decode cJx4a65c_grow_92f84 37 = .ok (.invokestatic 66, 3) := by decide +kernel
theorem dJx4a65c_grow_92f84_40 : decode cJx4a65c_grow_92f84 40 = .ok (.dup_x1, 1) := by decide +kernel
theorem dJx4a65c_grow_92f84_41 : decode cJx4a65c_grow_92f84 41 = .ok (.putfield 9, 3) := by decide +kernel
theorem dJx4a65c_grow_92f84_44 : decode cJx4a65c_grow_92f84 44 = .ok (.areturn, 1) := by decide +kernel
theorem dJx4a65c_grow_92f84_45 : decode cJx4a65c_grow_92f84 45 = .ok (.aload_n 0, 1) := by decide +kernel
theorem dJx4a65c_grow_92f84_46 : decode cJx4a65c_grow_92f84 46 = .ok (.bipush 10, 2) := by decide +kernel
theorem dJx4a65c_grow_92f84_48 : decode cJx4a65c_grow_92f84 48 = .ok (.iload_n 1, 1) := by decide +kernel
theorem dJx4a65c_grow_92f84_49 : decode cJx4a65c_grow_92f84 49 = .ok (.invokestatic 79, 3) := by decide +kernel
theorem dJx4a65c_grow_92f84_52 : decode cJx4a65c_grow_92f84 52 = .ok (.anewarray 7, 3) := by decide +kernel
theorem dJx4a65c_grow_92f84_55 : decode cJx4a65c_grow_92f84 55 = .ok (.dup_x1, 1) := by decide +kernel
theorem dJx4a65c_grow_92f84_56 : decode cJx4a65c_grow_92f84 56 = .ok (.putfield 9, 3) := by decide +kernel
theorem dJx4a65c_grow_92f84_59 : decode cJx4a65c_grow_92f84 59 = .ok (.areturn, 1) := by decide +kernel
theorem dJx4a65c_rangeCheckForAdd_d00df_0 : decode cJx4a65c_rangeCheckForAdd_d00df 0 = .ok (.iload_n 1, 1) := by decide +kernel
theorem dJx4a65c_rangeCheckForAdd_d00df_1 : decode cJx4a65c_rangeCheckForAdd_d00df 1 = .ok (.aload_n 0, 1) := by decide +kernel
theorem dJx4a65c_rangeCheckForAdd_d00df_2 : decode cJx4a65c_rangeCheckForAdd_d00df 2 = .ok (.getfield 48, 3) := by decide +kernel
theorem dJx4a65c_rangeCheckForAdd_d00df_5 : decode cJx4a65c_rangeCheckForAdd_d00df 5 = .ok (.if_icmp .gt 7, 3) := by decide +kernel
theorem dJx4a65c_rangeCheckForAdd_d00df_8 : decode cJx4a65c_rangeCheckForAdd_d00df 8 = .ok (.iload_n 1, 1) := by decide +kernel
theorem dJx4a65c_rangeCheckForAdd_d00df_9 : decode cJx4a65c_rangeCheckForAdd_d00df 9 = .ok (.ifCond .ge 16, 3) := by decide +kernel
theorem dJx4a65c_rangeCheckForAdd_d00df_12 : decode cJx4a65c_rangeCheckForAdd_d00df 12 = .ok (.new 187, 3) := by decide +kernel
theorem dJx4a65c_rangeCheckForAdd_d00df_15 : decode cJx4a65c_rangeCheckForAdd_d00df 15 = .ok (.dup, 1) := by decide +kernel
theorem dJx4a65c_rangeCheckForAdd_d00df_16 : decode cJx4a65c_rangeCheckForAdd_d00df 16 = .ok (.aload_n 0, 1) := by decide +kernel
theorem dJx4a65c_rangeCheckForAdd_d00df_17 : decode cJx4a65c_rangeCheckForAdd_d00df 17 = .ok (.iload_n 1, 1) := by decide +kernel
theorem dJx4a65c_rangeCheckForAdd_d00df_18 : decode cJx4a65c_rangeCheckForAdd_d00df 18 = .ok (.invokevirtual 198, 3) := by decide +kernel
theorem dJx4a65c_rangeCheckForAdd_d00df_21 : decode cJx4a65c_rangeCheckForAdd_d00df 21 = .ok (.invokespecial 193, 3) := by decide +kernel
theorem dJx4a65c_rangeCheckForAdd_d00df_24 : decode cJx4a65c_rangeCheckForAdd_d00df 24 = .ok (.athrow, 1) := by decide +kernel
theorem dJx4a65c_rangeCheckForAdd_d00df_25 : decode cJx4a65c_rangeCheckForAdd_d00df 25 = .ok (.return_, 1) := by decide +kernel
theorem dJx4a65c_size_8abf5_0 : decode cJx4a65c_size_8abf5 0 = .ok (.aload_n 0, 1) := by decide +kernel
theorem dJx4a65c_size_8abf5_1 : decode cJx4a65c_size_8abf5 1 = .ok (.getfield 48, 3) := by decide +kernel
theorem dJx4a65c_size_8abf5_4 : decode cJx4a65c_size_8abf5 4 = .ok (.ireturn, 1) := by decide +kernel
theorem dJ7_copyOf_1904c_0 : decode cJ7_copyOf_1904c 0 = .ok (.aload_n 0, 1) := by decide +kernel
theorem dJ7_copyOf_1904c_1 : decode cJ7_copyOf_1904c 1 = .ok (.iload_n 1, 1) := by decide +kernel
theorem dJ7_copyOf_1904c_2 : decode cJ7_copyOf_1904c 2 = .ok (.aload_n 0, 1) := by decide +kernel
theorem dJ7_copyOf_1904c_3 : decode cJ7_copyOf_1904c 3 = .ok (.invokevirtual 86, 3) := by decide +kernel
theorem dJ7_copyOf_1904c_6 : decode cJ7_copyOf_1904c 6 = .ok (.invokestatic 300, 3) := by decide +kernel
theorem dJ7_copyOf_1904c_9 : decode cJ7_copyOf_1904c 9 = .ok (.areturn, 1) := by decide +kernel
theorem dJ7_copyOf_6403c_0 : decode cJ7_copyOf_6403c 0 = .ok (.aload_n 2, 1) := by decide +kernel
theorem dJ7_copyOf_6403c_1 : decode cJ7_copyOf_6403c 1 = .ok (.ldc 110, 2) := by decide +kernel
theorem dJ7_copyOf_6403c_3 : decode cJ7_copyOf_6403c 3 = .ok (.if_acmp .ne 10, 3) := by decide +kernel
theorem dJ7_copyOf_6403c_6 : decode cJ7_copyOf_6403c 6 = .ok (.iload_n 1, 1) := by decide +kernel
theorem dJ7_copyOf_6403c_7 : decode cJ7_copyOf_6403c 7 = .ok (.anewarray 2, 3) := by decide +kernel
theorem dJ7_copyOf_6403c_10 : decode cJ7_copyOf_6403c 10 = .ok (.goto 14, 3) := by decide +kernel
theorem dJ7_copyOf_6403c_13 : decode cJ7_copyOf_6403c 13 = .ok (.aload_n 2, 1) := by decide +kernel
theorem dJ7_copyOf_6403c_14 : decode cJ7_copyOf_6403c 14 = .ok (.invokevirtual 90, 3) := by decide +kernel
theorem dJ7_copyOf_6403c_17 : decode cJ7_copyOf_6403c 17 = .ok (.iload_n 1, 1) := by decide +kernel
theorem dJ7_copyOf_6403c_18 : decode cJ7_copyOf_6403c 18 = .ok (.invokestatic 95, 3) := by decide +kernel
theorem dJ7_copyOf_6403c_21 : decode cJ7_copyOf_6403c 21 = .ok (.checkcast 110, 3) := by decide +kernel
theorem dJ7_copyOf_6403c_24 : decode cJ7_copyOf_6403c 24 = .ok (.astore_n 3, 1) := by decide +kernel
theorem dJ7_copyOf_6403c_25 : decode cJ7_copyOf_6403c 25 = .ok (.aload_n 0, 1) := by decide +kernel
theorem dJ7_copyOf_6403c_26 : decode cJ7_copyOf_6403c 26 = .ok (.iconst 0, 1) := by decide +kernel
theorem dJ7_copyOf_6403c_27 : decode cJ7_copyOf_6403c 27 = .ok (.aload_n 3, 1) := by decide +kernel
theorem dJ7_copyOf_6403c_28 : decode cJ7_copyOf_6403c 28 = .ok (.iconst 0, 1) := by decide +kernel
theorem dJ7_copyOf_6403c_29 : decode cJ7_copyOf_6403c 29 = .ok (.aload_n 0, 1) := by decide +kernel
theorem dJ7_copyOf_6403c_30 : decode cJ7_copyOf_6403c 30 = .ok (.arraylength, 1) := by decide +kernel
theorem dJ7_copyOf_6403c_31 : decode cJ7_copyOf_6403c 31 = .ok (.iload_n 1, 1) := by decide +kernel
theorem dJ7_copyOf_6403c_32 : decode cJ7_copyOf_6403c 32 = .ok (.invokestatic 304, 3) := by decide +kernel
theorem dJ7_copyOf_6403c_35 : decode cJ7_copyOf_6403c 35 = .ok (.invokestatic 150, 3) := by decide +kernel
theorem dJ7_copyOf_6403c_38 : decode cJ7_copyOf_6403c 38 = .ok (.aload_n 3, 1) := by decide +kernel
theorem dJ7_copyOf_6403c_39 : decode cJ7_copyOf_6403c 39 = .ok (.areturn, 1) := by decide +kernel
theorem dJ15_checkIndex_7cf53_0 : decode cJ15_checkIndex_7cf53 0 = .ok (.iload_n 0, 1) := by decide +kernel
theorem dJ15_checkIndex_7cf53_1 : decode cJ15_checkIndex_7cf53 1 = .ok (.iload_n 1, 1) := by decide +kernel
theorem dJ15_checkIndex_7cf53_2 : decode cJ15_checkIndex_7cf53 2 = .ok (.aconst_null, 1) := by decide +kernel
theorem dJ15_checkIndex_7cf53_3 : decode cJ15_checkIndex_7cf53 3 = .ok (.invokestatic 105, 3) := by decide +kernel
theorem dJ15_checkIndex_7cf53_6 : decode cJ15_checkIndex_7cf53 6 = .ok (.ireturn, 1) := by decide +kernel
theorem dJ8_newLength_cabcc_0 : decode cJ8_newLength_cabcc 0 = .ok (.iload_n 0, 1) := by decide +kernel
theorem dJ8_newLength_cabcc_1 : decode cJ8_newLength_cabcc 1 = .ok (.iload_n 1, 1) := by decide +kernel
theorem dJ8_newLength_cabcc_2 : decode cJ8_newLength_cabcc 2 = .ok (.iload_n 2, 1) := by decide +kernel
theorem dJ8_newLength_cabcc_3 : decode cJ8_newLength_cabcc 3 = .ok (.invokestatic 194, 3) := by decide +kernel
theorem dJ8_newLength_cabcc_6 : decode cJ8_newLength_cabcc 6 = .ok (.iadd, 1) := by decide +kernel
theorem dJ8_newLength_cabcc_7 : decode cJ8_newLength_cabcc 7 = .ok (.istore_n 3, 1) := by decide +kernel
theorem dJ8_newLength_cabcc_8 : decode cJ8_newLength_cabcc 8 = .ok (.iconst 0, 1) := by decide +kernel
theorem dJ8_newLength_cabcc_9 : decode cJ8_newLength_cabcc 9 = .ok (.iload_n 3, 1) := by decide +kernel
theorem dJ8_newLength_cabcc_10 : decode cJ8_newLength_cabcc 10 = .ok (.if_icmp .ge 11, 3) := by decide +kernel
theorem dJ8_newLength_cabcc_13 : decode cJ8_newLength_cabcc 13 = .ok (.iload_n 3, 1) := by decide +kernel
theorem dJ8_newLength_cabcc_14 : decode cJ8_newLength_cabcc 14 = .ok (.ldc 200, 2) := by decide +kernel
theorem dJ8_newLength_cabcc_16 : decode cJ8_newLength_cabcc 16 = .ok (.if_icmp .gt 5, 3) := by decide +kernel
theorem dJ8_newLength_cabcc_19 : decode cJ8_newLength_cabcc 19 = .ok (.iload_n 3, 1) := by decide +kernel
theorem dJ8_newLength_cabcc_20 : decode cJ8_newLength_cabcc 20 = .ok (.ireturn, 1) := by decide +kernel
theorem dJ8_newLength_cabcc_21 : decode cJ8_newLength_cabcc 21 = .ok (.iload_n 0, 1) := by decide +kernel
theorem dJ8_newLength_cabcc_22 : decode cJ8_newLength_cabcc 22 = .ok (.iload_n 1, 1) := by decide +kernel
theorem dJ8_newLength_cabcc_23 : decode cJ8_newLength_cabcc 23 = .ok (.invokestatic 201, 3) := by decide +kernel
theorem dJ8_newLength_cabcc_26 : decode cJ8_newLength_cabcc 26 = .ok (.ireturn, 1) := by decide +kernel
theorem dJ3_checkIndex_8e157_0 : decode cJ3_checkIndex_8e157 0 = .ok (.iload_n 0, 1) := by decide +kernel
theorem dJ3_checkIndex_8e157_1 : decode cJ3_checkIndex_8e157 1 = .ok (.ifCond .lt 8, 3) := by decide +kernel
theorem dJ3_checkIndex_8e157_4 : decode cJ3_checkIndex_8e157 4 = .ok (.iload_n 0, 1) := by decide +kernel
theorem dJ3_checkIndex_8e157_5 : decode cJ3_checkIndex_8e157 5 = .ok (.iload_n 1, 1) := by decide +kernel
theorem dJ3_checkIndex_8e157_6 : decode cJ3_checkIndex_8e157 6 = .ok (.if_icmp .lt 10, 3) := by decide +kernel
theorem dJ3_checkIndex_8e157_9 : decode cJ3_checkIndex_8e157 9 = .ok (.aload_n 2, 1) := by decide +kernel
theorem dJ3_checkIndex_8e157_10 : decode cJ3_checkIndex_8e157 10 = .ok (.iload_n 0, 1) := by decide +kernel
theorem dJ3_checkIndex_8e157_11 : decode cJ3_checkIndex_8e157 11 = .ok (.iload_n 1, 1) := by decide +kernel
theorem dJ3_checkIndex_8e157_12 : decode cJ3_checkIndex_8e157 12 = .ok (.invokestatic 95, 3) := by decide +kernel
theorem dJ3_checkIndex_8e157_15 : decode cJ3_checkIndex_8e157 15 = .ok (.athrow, 1) := by decide +kernel
theorem dJ3_checkIndex_8e157_16 : decode cJ3_checkIndex_8e157 16 = .ok (.iload_n 0, 1) := by decide +kernel
theorem dJ3_checkIndex_8e157_17 : decode cJ3_checkIndex_8e157 17 = .ok (.ireturn, 1) := by decide +kernel
theorem dJ0_indexOf_0f7a4_0 : decode cJ0_indexOf_0f7a4 0 = .ok (.aload_n 0, 1) := by decide +kernel
theorem dJ0_indexOf_0f7a4_1 : decode cJ0_indexOf_0f7a4 1 = .ok (.iload_n 1, 1) := by decide +kernel
theorem dJ0_indexOf_0f7a4_2 : decode cJ0_indexOf_0f7a4 2 = .ok (.iconst 0, 1) := by decide +kernel
theorem dJ0_indexOf_0f7a4_3 : decode cJ0_indexOf_0f7a4 3 = .ok (.invokevirtual 633, 3) := by decide +kernel
theorem dJ0_indexOf_0f7a4_6 : decode cJ0_indexOf_0f7a4 6 = .ok (.ireturn, 1) := by decide +kernel
theorem dJ0_indexOf_7cf53_0 : decode cJ0_indexOf_7cf53 0 = .ok (.aload_n 0, 1) := by decide +kernel
theorem dJ0_indexOf_7cf53_1 : decode cJ0_indexOf_7cf53 1 = .ok (.invokevirtual 492, 3) := by decide +kernel
theorem dJ0_indexOf_7cf53_4 : decode cJ0_indexOf_7cf53 4 = .ok (.ifCond .eq 19, 3) := by decide +kernel
theorem dJ0_indexOf_7cf53_7 : decode cJ0_indexOf_7cf53 7 = .ok (.aload_n 0, 1) := by decide +kernel
theorem dJ0_indexOf_7cf53_8 : decode cJ0_indexOf_7cf53 8 = .ok (.getfield 9, 3) := by decide +kernel
theorem dJ0_indexOf_7cf53_11 : decode cJ0_indexOf_7cf53 11 = .ok (.iload_n 1, 1) := by decide +kernel
theorem dJ0_indexOf_7cf53_12 : decode cJ0_indexOf_7cf53 12 = .ok (.iload_n 2, 1) := by decide +kernel
theorem dJ0_indexOf_7cf53_13 : decode cJ0_indexOf_7cf53 13 = .ok (.aload_n 0, 1) := by decide +kernel
theorem dJ0_indexOf_7cf53_14 : decode cJ0_indexOf_7cf53 14 = .ok (.invokevirtual 505, 3) := by decide +kernel
theorem dJ0_indexOf_7cf53_17 : decode cJ0_indexOf_7cf53 17 = .ok (.invokestatic 637, 3) := by decide +kernel
theorem dJ0_indexOf_7cf53_20 : decode cJ0_indexOf_7cf53 20 = .ok (.goto 16, 3) := by decide +kernel
theorem dJ0_indexOf_7cf53_23 : decode cJ0_indexOf_7cf53 23 = .ok (.aload_n 0, 1) := by decide +kernel
theorem dJ0_indexOf_7cf53_24 : decode cJ0_indexOf_7cf53 24 = .ok (.getfield 9, 3) := by decide +kernel
theorem dJ0_indexOf_7cf53_27 : decode cJ0_indexOf_7cf53 27 = .ok (.iload_n 1, 1) := by decide +kernel
theorem dJ0_indexOf_7cf53_28 : decode cJ0_indexOf_7cf53 28 = .ok (.iload_n 2, 1) := by decide +kernel
theorem dJ0_indexOf_7cf53_29 : decode cJ0_indexOf_7cf53 29 = .ok (.aload_n 0, 1) := by decide +kernel
theorem dJ0_indexOf_7cf53_30 : decode cJ0_indexOf_7cf53 30 = .ok (.invokevirtual 505, 3) := by decide +kernel
theorem dJ0_indexOf_7cf53_33 : decode cJ0_indexOf_7cf53 33 = .ok (.invokestatic 640, 3) := by decide +kernel
theorem dJ0_indexOf_7cf53_36 : decode cJ0_indexOf_7cf53 36 = .ok (.ireturn, 1) := by decide +kernel
theorem dJ0_isLatin1_aae02_0 : decode cJ0_isLatin1_aae02 0 = .ok (.getstatic 38, 3) := by decide +kernel
theorem dJ0_isLatin1_aae02_3 : decode cJ0_isLatin1_aae02 3 = .ok (.ifCond .eq 14, 3) := by decide +kernel
theorem dJ0_isLatin1_aae02_6 : decode cJ0_isLatin1_aae02 6 = .ok (.aload_n 0, 1) := by decide +kernel
theorem dJ0_isLatin1_aae02_7 : decode cJ0_isLatin1_aae02 7 = .ok (.getfield 15, 3) := by decide +kernel
theorem dJ0_isLatin1_aae02_10 : decode cJ0_isLatin1_aae02 10 = .ok (.ifCond .ne 7, 3) := by decide +kernel
theorem dJ0_isLatin1_aae02_13 : decode cJ0_isLatin1_aae02 13 = .ok (.iconst 1, 1) := by decide +kernel
theorem dJ0_isLatin1_aae02_14 : decode cJ0_isLatin1_aae02 14 = .ok (.goto 4, 3) := by decide +kernel
theorem dJ0_isLatin1_aae02_17 : decode cJ0_isLatin1_aae02 17 = .ok (.iconst 0, 1) := by decide +kernel
theorem dJ0_isLatin1_aae02_18 : decode cJ0_isLatin1_aae02 18 = .ok (.ireturn, 1) := by decide +kernel
theorem dJ1_canEncode_9a6ad_0 : decode cJ1_canEncode_9a6ad 0 = .ok (.iload_n 0, 1) := by decide +kernel
theorem dJ1_canEncode_9a6ad_1 : decode cJ1_canEncode_9a6ad 1 = .ok (.ifCond .lt 14, 3) := by decide +kernel
theorem dJ1_canEncode_9a6ad_4 : decode cJ1_canEncode_9a6ad 4 = .ok (.iload_n 0, 1) := by decide +kernel
theorem dJ1_canEncode_9a6ad_5 : decode cJ1_canEncode_9a6ad 5 = .ok (.sipush 255, 3) := by decide +kernel
theorem dJ1_canEncode_9a6ad_8 : decode cJ1_canEncode_9a6ad 8 = .ok (.if_icmp .gt 7, 3) := by decide +kernel
theorem dJ1_canEncode_9a6ad_11 : decode cJ1_canEncode_9a6ad 11 = .ok (.iconst 1, 1) := by decide +kernel
theorem dJ1_canEncode_9a6ad_12 : decode cJ1_canEncode_9a6ad 12 = .ok (.goto 4, 3) := by decide +kernel
theorem dJ1_canEncode_9a6ad_15 : decode cJ1_canEncode_9a6ad 15 = .ok (.iconst 0, 1) := by decide +kernel
theorem dJ1_canEncode_9a6ad_16 : decode cJ1_canEncode_9a6ad 16 = .ok (.ireturn, 1) := by decide +kernel
theorem dJ1_indexOf_4cfef_0 : decode cJ1_indexOf_4cfef 0 = .ok (.iload_n 1, 1) := by decide +kernel
theorem dJ1_indexOf_4cfef_1 : decode cJ1_indexOf_4cfef 1 = .ok (.invokestatic 88, 3) := by decide +kernel
theorem dJ1_indexOf_4cfef_4 : decode cJ1_indexOf_4cfef 4 = .ok (.ifCond .ne 5, 3) := by decide +kernel
theorem dJ1_indexOf_4cfef_7 : decode cJ1_indexOf_4cfef 7 = .ok (.iconst (-1), 1) := by decide +kernel
theorem dJ1_indexOf_4cfef_8 : decode cJ1_indexOf_4cfef 8 = .ok (.ireturn, 1) := by decide +kernel
theorem dJ1_indexOf_4cfef_9 : decode cJ1_indexOf_4cfef 9 = .ok (.iload_n 2, 1) := by decide +kernel
theorem dJ1_indexOf_4cfef_10 : decode cJ1_indexOf_4cfef 10 = .ok (.iconst 0, 1) := by decide +kernel
theorem dJ1_indexOf_4cfef_11 : decode cJ1_indexOf_4cfef 11 = .ok (.invokestatic 92, 3) := by decide +kernel
theorem dJ1_indexOf_4cfef_14 : decode cJ1_indexOf_4cfef 14 = .ok (.istore_n 2, 1) := by decide +kernel
theorem dJ1_indexOf_4cfef_15 : decode cJ1_indexOf_4cfef 15 = .ok (.iload_n 3, 1) := by decide +kernel
theorem dJ1_indexOf_4cfef_16 : decode cJ1_indexOf_4cfef 16 = .ok (.aload_n 0, 1) := by decide +kernel
theorem dJ1_indexOf_4cfef_17 : decode cJ1_indexOf_4cfef 17 = .ok (.arraylength, 1) := by decide +kernel
theorem dJ1_indexOf_4cfef_18 : decode cJ1_indexOf_4cfef 18 = .ok (.invokestatic 38, 3) := by decide +kernel
theorem dJ1_indexOf_4cfef_21 : decode cJ1_indexOf_4cfef 21 = .ok (.istore_n 3, 1) := by decide +kernel
theorem dJ1_indexOf_4cfef_22 : decode cJ1_indexOf_4cfef 22 = .ok (.iload_n 2, 1) := by decide +kernel
theorem dJ1_indexOf_4cfef_23 : decode cJ1_indexOf_4cfef 23 = .ok (.iload_n 3, 1) := by decide +kernel
theorem dJ1_indexOf_4cfef_24 : decode cJ1_indexOf_4cfef 24 = .ok (.if_icmp .lt 5, 3) := by decide +kernel
theorem dJ1_indexOf_4cfef_27 : decode cJ1_indexOf_4cfef 27 = .ok (.iconst (-1), 1) := by decide +kernel
theorem dJ1_indexOf_4cfef_28 : decode cJ1_indexOf_4cfef 28 = .ok (.ireturn, 1) := by decide +kernel
theorem dJ1_indexOf_4cfef_29 : decode cJ1_indexOf_4cfef 29 = .ok (.aload_n 0, 1) := by decide +kernel
theorem dJ1_indexOf_4cfef_30 : decode cJ1_indexOf_4cfef 30 = .ok (.iload_n 1, 1) := by decide +kernel
theorem dJ1_indexOf_4cfef_31 : decode cJ1_indexOf_4cfef 31 = .ok (.iload_n 2, 1) := by decide +kernel
theorem dJ1_indexOf_4cfef_32 : decode cJ1_indexOf_4cfef 32 = .ok (.iload_n 3, 1) := by decide +kernel
theorem dJ1_indexOf_4cfef_33 : decode cJ1_indexOf_4cfef 33 = .ok (.invokestatic 95, 3) := by decide +kernel
theorem dJ1_indexOf_4cfef_36 : decode cJ1_indexOf_4cfef 36 = .ok (.ireturn, 1) := by decide +kernel
theorem dJ1_indexOfChar_4cfef_0 : decode cJ1_indexOfChar_4cfef 0 = .ok (.iload_n 1, 1) := by decide +kernel
theorem dJ1_indexOfChar_4cfef_1 : decode cJ1_indexOfChar_4cfef 1 = .ok (.i2b, 1) := by decide +kernel
theorem dJ1_indexOfChar_4cfef_2 : decode cJ1_indexOfChar_4cfef 2 = .ok (.istore 4, 2) := by decide +kernel
theorem dJ1_indexOfChar_4cfef_4 : decode cJ1_indexOfChar_4cfef 4 = .ok (.iload_n 2, 1) := by decide +kernel
theorem dJ1_indexOfChar_4cfef_5 : decode cJ1_indexOfChar_4cfef 5 = .ok (.istore 5, 2) := by decide +kernel
theorem dJ1_indexOfChar_4cfef_7 : decode cJ1_indexOfChar_4cfef 7 = .ok (.iload 5, 2) := by decide +kernel
theorem dJ1_indexOfChar_4cfef_9 : decode cJ1_indexOfChar_4cfef 9 = .ok (.iload_n 3, 1) := by decide +kernel
theorem dJ1_indexOfChar_4cfef_10 : decode cJ1_indexOfChar_4cfef 10 = .ok (.if_icmp .ge 21, 3) := by decide +kernel
theorem dJ1_indexOfChar_4cfef_13 : decode cJ1_indexOfChar_4cfef 13 = .ok (.aload_n 0, 1) := by decide +kernel
theorem dJ1_indexOfChar_4cfef_14 : decode cJ1_indexOfChar_4cfef 14 = .ok (.iload 5, 2) := by decide +kernel
theorem dJ1_indexOfChar_4cfef_16 : decode cJ1_indexOfChar_4cfef 16 = .ok (.baload, 1) := by decide +kernel
theorem dJ1_indexOfChar_4cfef_17 : decode cJ1_indexOfChar_4cfef 17 = .ok (.iload 4, 2) := by decide +kernel
theorem dJ1_indexOfChar_4cfef_19 : decode cJ1_indexOfChar_4cfef 19 = .ok (.if_icmp .ne 6, 3) := by decide +kernel
theorem dJ1_indexOfChar_4cfef_22 : decode cJ1_indexOfChar_4cfef 22 = .ok (.iload 5, 2) := by decide +kernel
theorem dJ1_indexOfChar_4cfef_24 : decode cJ1_indexOfChar_4cfef 24 = .ok (.ireturn, 1) := by decide +kernel
theorem dJ1_indexOfChar_4cfef_25 : decode cJ1_indexOfChar_4cfef 25 = .ok (.iinc 5 1, 3) := by decide +kernel
theorem dJ1_indexOfChar_4cfef_28 : decode cJ1_indexOfChar_4cfef 28 = .ok (.goto (-21), 3) := by decide +kernel
theorem dJ1_indexOfChar_4cfef_31 : decode cJ1_indexOfChar_4cfef 31 = .ok (.iconst (-1), 1) := by decide +kernel
theorem dJ1_indexOfChar_4cfef_32 : decode cJ1_indexOfChar_4cfef 32 = .ok (.ireturn, 1) := by decide +kernel
theorem dJ9_max_7cf53_0 : decode cJ9_max_7cf53 0 = .ok (.iload_n 0, 1) := by decide +kernel
theorem dJ9_max_7cf53_1 : decode cJ9_max_7cf53 1 = .ok (.iload_n 1, 1) := by decide +kernel
theorem dJ9_max_7cf53_2 : decode cJ9_max_7cf53 2 = .ok (.if_icmp .lt 7, 3) := by decide +kernel
theorem dJ9_max_7cf53_5 : decode cJ9_max_7cf53 5 = .ok (.iload_n 0, 1) := by decide +kernel
theorem dJ9_max_7cf53_6 : decode cJ9_max_7cf53 6 = .ok (.goto 4, 3) := by decide +kernel
theorem dJ9_max_7cf53_9 : decode cJ9_max_7cf53 9 = .ok (.iload_n 1, 1) := by decide +kernel
theorem dJ9_max_7cf53_10 : decode cJ9_max_7cf53 10 = .ok (.ireturn, 1) := by decide +kernel
theorem dJ9_min_7cf53_0 : decode cJ9_min_7cf53 0 = .ok (.iload_n 0, 1) := by decide +kernel
theorem dJ9_min_7cf53_1 : decode cJ9_min_7cf53 1 = .ok (.iload_n 1, 1) := by decide +kernel
theorem dJ9_min_7cf53_2 : decode cJ9_min_7cf53 2 = .ok (.if_icmp .gt 7, 3) := by decide +kernel
theorem dJ9_min_7cf53_5 : decode cJ9_min_7cf53 5 = .ok (.iload_n 0, 1) := by decide +kernel
theorem dJ9_min_7cf53_6 : decode cJ9_min_7cf53 6 = .ok (.goto 4, 3) := by decide +kernel
theorem dJ9_min_7cf53_9 : decode cJ9_min_7cf53 9 = .ok (.iload_n 1, 1) := by decide +kernel
theorem dJ9_min_7cf53_10 : decode cJ9_min_7cf53 10 = .ok (.ireturn, 1) := by decide +kernel
theorem dX0_init_0 : decode cX0_init 0 = .ok (.aload_n 0, 1) := by decide +kernel
theorem dX0_init_1 : decode cX0_init 1 = .ok (.invokespecial 3, 3) := by decide +kernel
theorem dX0_init_4 : decode cX0_init 4 = .ok (.aload_n 0, 1) := by decide +kernel
theorem dX0_init_5 : decode cX0_init 5 = .ok (.bipush 40, 2) := by decide +kernel
theorem dX0_init_7 : decode cX0_init 7 = .ok (.anewarray 9, 3) := by decide +kernel
theorem dX0_init_10 : decode cX0_init 10 = .ok (.putfield 11, 3) := by decide +kernel
theorem dX0_init_13 : decode cX0_init 13 = .ok (.aload_n 0, 1) := by decide +kernel
theorem dX0_init_14 : decode cX0_init 14 = .ok (.bipush 40, 2) := by decide +kernel
theorem dX0_init_16 : decode cX0_init 16 = .ok (.newarray .int, 2) := by decide +kernel
theorem dX0_init_18 : decode cX0_init 18 = .ok (.putfield 17, 3) := by decide +kernel
theorem dX0_init_21 : decode cX0_init 21 = .ok (.return_, 1) := by decide +kernel
theorem dX0_clear_0 : decode cX0_clear 0 = .ok (.aload_n 0, 1) := by decide +kernel
theorem dX0_clear_1 : decode cX0_clear 1 = .ok (.iconst 0, 1) := by decide +kernel
theorem dX0_clear_2 : decode cX0_clear 2 = .ok (.putfield 21, 3) := by decide +kernel
theorem dX0_clear_5 : decode cX0_clear 5 = .ok (.return_, 1) := by decide +kernel
theorem dX0_has_0 : decode cX0_has 0 = .ok (.iload_n 1, 1) := by decide +kernel
theorem dX0_has_1 : decode cX0_has 1 = .ok (.ifCond .lt 24, 3) := by decide +kernel
theorem dX0_has_4 : decode cX0_has 4 = .ok (.iload_n 1, 1) := by decide +kernel
theorem dX0_has_5 : decode cX0_has 5 = .ok (.aload_n 0, 1) := by decide +kernel
theorem dX0_has_6 : decode cX0_has 6 = .ok (.getfield 21, 3) := by decide +kernel
theorem dX0_has_9 : decode cX0_has 9 = .ok (.if_icmp .ge 16, 3) := by decide +kernel
theorem dX0_has_12 : decode cX0_has 12 = .ok (.iload_n 1, 1) := by decide +kernel
theorem dX0_has_13 : decode cX0_has 13 = .ok (.aload_n 0, 1) := by decide +kernel
theorem dX0_has_14 : decode cX0_has 14 = .ok (.getfield 17, 3) := by decide +kernel
theorem dX0_has_17 : decode cX0_has 17 = .ok (.arraylength, 1) := by decide +kernel
theorem dX0_has_18 : decode cX0_has 18 = .ok (.if_icmp .ge 7, 3) := by decide +kernel
theorem dX0_has_21 : decode cX0_has 21 = .ok (.iconst 1, 1) := by decide +kernel
theorem dX0_has_22 : decode cX0_has 22 = .ok (.goto 4, 3) := by decide +kernel
theorem dX0_has_25 : decode cX0_has 25 = .ok (.iconst 0, 1) := by decide +kernel
theorem dX0_has_26 : decode cX0_has 26 = .ok (.ireturn, 1) := by decide +kernel
theorem dX0_volumeOf_0 : decode cX0_volumeOf 0 = .ok (.aload_n 0, 1) := by decide +kernel
theorem dX0_volumeOf_1 : decode cX0_volumeOf 1 = .ok (.iload_n 1, 1) := by decide +kernel
theorem dX0_volumeOf_2 : decode cX0_volumeOf 2 = .ok (.invokevirtual 25, 3) := by decide +kernel
theorem dX0_volumeOf_5 : decode cX0_volumeOf 5 = .ok (.ifCond .eq 12, 3) := by decide +kernel
theorem dX0_volumeOf_8 : decode cX0_volumeOf 8 = .ok (.aload_n 0, 1) := by decide +kernel
theorem dX0_volumeOf_9 : decode cX0_volumeOf 9 = .ok (.getfield 17, 3) := by decide +kernel
theorem dX0_volumeOf_12 : decode cX0_volumeOf 12 = .ok (.iload_n 1, 1) := by decide +kernel
theorem dX0_volumeOf_13 : decode cX0_volumeOf 13 = .ok (.iaload, 1) := by decide +kernel
theorem dX0_volumeOf_14 : decode cX0_volumeOf 14 = .ok (.goto 4, 3) := by decide +kernel
theorem dX0_volumeOf_17 : decode cX0_volumeOf 17 = .ok (.iconst 0, 1) := by decide +kernel
theorem dX0_volumeOf_18 : decode cX0_volumeOf 18 = .ok (.ireturn, 1) := by decide +kernel
theorem dX0_put_0 : decode cX0_put 0 = .ok (.iconst 0, 1) := by decide +kernel
theorem dX0_put_1 : decode cX0_put 1 = .ok (.istore_n 3, 1) := by decide +kernel
theorem dX0_put_2 : decode cX0_put 2 = .ok (.iload_n 3, 1) := by decide +kernel
theorem dX0_put_3 : decode cX0_put 3 = .ok (.aload_n 0, 1) := by decide +kernel
theorem dX0_put_4 : decode cX0_put 4 = .ok (.getfield 21, 3) := by decide +kernel
theorem dX0_put_7 : decode cX0_put 7 = .ok (.if_icmp .ge 71, 3) := by decide +kernel
theorem dX0_put_10 : decode cX0_put 10 = .ok (.iload_n 3, 1) := by decide +kernel
theorem dX0_put_11 : decode cX0_put 11 = .ok (.aload_n 0, 1) := by decide +kernel
theorem dX0_put_12 : decode cX0_put 12 = .ok (.getfield 11, 3) := by decide +kernel
theorem dX0_put_15 : decode cX0_put 15 = .ok (.arraylength, 1) := by decide +kernel
theorem dX0_put_16 : decode cX0_put 16 = .ok (.if_icmp .ge 62, 3) := by decide +kernel
theorem dX0_put_19 : decode cX0_put 19 = .ok (.iload_n 3, 1) := by decide +kernel
theorem dX0_put_20 : decode cX0_put 20 = .ok (.aload_n 0, 1) := by decide +kernel
theorem dX0_put_21 : decode cX0_put 21 = .ok (.getfield 17, 3) := by decide +kernel
theorem dX0_put_24 : decode cX0_put 24 = .ok (.arraylength, 1) := by decide +kernel
theorem dX0_put_25 : decode cX0_put 25 = .ok (.if_icmp .ge 53, 3) := by decide +kernel
theorem dX0_put_28 : decode cX0_put 28 = .ok (.aload_n 0, 1) := by decide +kernel
theorem dX0_put_29 : decode cX0_put 29 = .ok (.getfield 11, 3) := by decide +kernel
theorem dX0_put_32 : decode cX0_put 32 = .ok (.iload_n 3, 1) := by decide +kernel
theorem dX0_put_33 : decode cX0_put 33 = .ok (.aaload, 1) := by decide +kernel
theorem dX0_put_34 : decode cX0_put 34 = .ok (.aload_n 1, 1) := by decide +kernel
theorem dX0_put_35 : decode cX0_put 35 = .ok (.getfield 29, 3) := by decide +kernel
theorem dX0_put_38 : decode cX0_put 38 = .ok (.if_acmp .ne 34, 3) := by decide +kernel
theorem dX0_put_41 : decode cX0_put 41 = .ok (.aload_n 0, 1) := by decide +kernel
theorem dX0_put_42 : decode cX0_put 42 = .ok (.getfield 17, 3) := by decide +kernel
theorem dX0_put_45 : decode cX0_put 45 = .ok (.iload_n 3, 1) := by decide +kernel
theorem dX0_put_46 : decode cX0_put 46 = .ok (.iaload, 1) := by decide +kernel
theorem dX0_put_47 : decode cX0_put 47 = .ok (.aload_n 1, 1) := by decide +kernel
theorem dX0_put_48 : decode cX0_put 48 = .ok (.getfield 35, 3) := by decide +kernel
theorem dX0_put_51 : decode cX0_put 51 = .ok (.iadd, 1) := by decide +kernel
theorem dX0_put_52 : decode cX0_put 52 = .ok (.bipush 12, 2) := by decide +kernel
theorem dX0_put_54 : decode cX0_put 54 = .ok (.if_icmp .gt 18, 3) := by decide +kernel
theorem dX0_put_57 : decode cX0_put 57 = .ok (.aload_n 0, 1) := by decide +kernel
theorem dX0_put_58 : decode cX0_put 58 = .ok (.getfield 17, 3) := by decide +kernel
theorem dX0_put_61 : decode cX0_put 61 = .ok (.iload_n 3, 1) := by decide +kernel
theorem dX0_put_62 : decode cX0_put 62 = .ok (.dup2, 1) := by decide +kernel
theorem dX0_put_63 : decode cX0_put 63 = .ok (.iaload, 1) := by decide +kernel
theorem dX0_put_64 : decode cX0_put 64 = .ok (.aload_n 1, 1) := by decide +kernel
theorem dX0_put_65 : decode cX0_put 65 = .ok (.getfield 35, 3) := by decide +kernel
theorem dX0_put_68 : decode cX0_put 68 = .ok (.iadd, 1) := by decide +kernel
theorem dX0_put_69 : decode cX0_put 69 = .ok (.iastore, 1) := by decide +kernel
theorem dX0_put_70 : decode cX0_put 70 = .ok (.iconst 1, 1) := by decide +kernel
theorem dX0_put_71 : decode cX0_put 71 = .ok (.ireturn, 1) := by decide +kernel
theorem dX0_put_72 : decode cX0_put 72 = .ok (.iinc 3 1, 3) := by decide +kernel
theorem dX0_put_75 : decode cX0_put 75 = .ok (.goto (-73), 3) := by decide +kernel
theorem dX0_put_78 : decode cX0_put 78 = .ok (.aload_n 0, 1) := by decide +kernel
theorem dX0_put_79 : decode cX0_put 79 = .ok (.aload_n 1, 1) := by decide +kernel
theorem dX0_put_80 : decode cX0_put 80 = .ok (.iload_n 2, 1) := by decide +kernel
theorem dX0_put_81 : decode cX0_put 81 = .ok (.invokevirtual 38, 3) := by decide +kernel
theorem dX0_put_84 : decode cX0_put 84 = .ok (.ireturn, 1) := by decide +kernel
theorem dX0_open_0 : decode cX0_open 0 = .ok (.aload_n 0, 1) := by decide +kernel
theorem dX0_open_1 : decode cX0_open 1 = .ok (.getfield 21, 3) := by decide +kernel
theorem dX0_open_4 : decode cX0_open 4 = .ok (.istore_n 3, 1) := by decide +kernel
theorem dX0_open_5 : decode cX0_open 5 = .ok (.iload_n 3, 1) := by decide +kernel
theorem dX0_open_6 : decode cX0_open 6 = .ok (.iload_n 2, 1) := by decide +kernel
theorem dX0_open_7 : decode cX0_open 7 = .ok (.if_icmp .ge 25, 3) := by decide +kernel
theorem dX0_open_10 : decode cX0_open 10 = .ok (.iload_n 3, 1) := by decide +kernel
theorem dX0_open_11 : decode cX0_open 11 = .ok (.ifCond .lt 21, 3) := by decide +kernel
theorem dX0_open_14 : decode cX0_open 14 = .ok (.iload_n 3, 1) := by decide +kernel
theorem dX0_open_15 : decode cX0_open 15 = .ok (.aload_n 0, 1) := by decide +kernel
theorem dX0_open_16 : decode cX0_open 16 = .ok (.getfield 11, 3) := by decide +kernel
theorem dX0_open_19 : decode cX0_open 19 = .ok (.arraylength, 1) := by decide +kernel
theorem dX0_open_20 : decode cX0_open 20 = .ok (.if_icmp .ge 12, 3) := by decide +kernel
theorem dX0_open_23 : decode cX0_open 23 = .ok (.iload_n 3, 1) := by decide +kernel
theorem dX0_open_24 : decode cX0_open 24 = .ok (.aload_n 0, 1) := by decide +kernel
theorem dX0_open_25 : decode cX0_open 25 = .ok (.getfield 17, 3) := by decide +kernel
theorem dX0_open_28 : decode cX0_open 28 = .ok (.arraylength, 1) := by decide +kernel
theorem dX0_open_29 : decode cX0_open 29 = .ok (.if_icmp .lt 5, 3) := by decide +kernel
theorem dX0_open_32 : decode cX0_open 32 = .ok (.iconst 0, 1) := by decide +kernel
theorem dX0_open_33 : decode cX0_open 33 = .ok (.ireturn, 1) := by decide +kernel
theorem dX0_open_34 : decode cX0_open 34 = .ok (.aload_n 0, 1) := by decide +kernel
theorem dX0_open_35 : decode cX0_open 35 = .ok (.getfield 11, 3) := by decide +kernel
theorem dX0_open_38 : decode cX0_open 38 = .ok (.iload_n 3, 1) := by decide +kernel
theorem dX0_open_39 : decode cX0_open 39 = .ok (.aload_n 1, 1) := by decide +kernel
theorem dX0_open_40 : decode cX0_open 40 = .ok (.getfield 29, 3) := by decide +kernel
theorem dX0_open_43 : decode cX0_open 43 = .ok (.aastore, 1) := by decide +kernel
theorem dX0_open_44 : decode cX0_open 44 = .ok (.aload_n 0, 1) := by decide +kernel
theorem dX0_open_45 : decode cX0_open 45 = .ok (.getfield 17, 3) := by decide +kernel
theorem dX0_open_48 : decode cX0_open 48 = .ok (.iload_n 3, 1) := by decide +kernel
theorem dX0_open_49 : decode cX0_open 49 = .ok (.aload_n 1, 1) := by decide +kernel
theorem dX0_open_50 : decode cX0_open 50 = .ok (.getfield 35, 3) := by decide +kernel
theorem dX0_open_53 : decode cX0_open 53 = .ok (.iastore, 1) := by decide +kernel
theorem dX0_open_54 : decode cX0_open 54 = .ok (.aload_n 0, 1) := by decide +kernel
theorem dX0_open_55 : decode cX0_open 55 = .ok (.iload_n 3, 1) := by decide +kernel
theorem dX0_open_56 : decode cX0_open 56 = .ok (.iconst 1, 1) := by decide +kernel
theorem dX0_open_57 : decode cX0_open 57 = .ok (.iadd, 1) := by decide +kernel
theorem dX0_open_58 : decode cX0_open 58 = .ok (.putfield 21, 3) := by decide +kernel
theorem dX0_open_61 : decode cX0_open 61 = .ok (.iconst 1, 1) := by decide +kernel
theorem dX0_open_62 : decode cX0_open 62 = .ok (.ireturn, 1) := by decide +kernel
theorem dX1_init_0 : decode cX1_init 0 = .ok (.aload_n 0, 1) := by decide +kernel
theorem dX1_init_1 : decode cX1_init 1 = .ok (.invokespecial 1, 3) := by decide +kernel
theorem dX1_init_4 : decode cX1_init 4 = .ok (.aload_n 0, 1) := by decide +kernel
theorem dX1_init_5 : decode cX1_init 5 = .ok (.iload_n 1, 1) := by decide +kernel
theorem dX1_init_6 : decode cX1_init 6 = .ok (.putfield 7, 3) := by decide +kernel
theorem dX1_init_9 : decode cX1_init 9 = .ok (.aload_n 0, 1) := by decide +kernel
theorem dX1_init_10 : decode cX1_init 10 = .ok (.iload_n 2, 1) := by decide +kernel
theorem dX1_init_11 : decode cX1_init 11 = .ok (.putfield 13, 3) := by decide +kernel
theorem dX1_init_14 : decode cX1_init 14 = .ok (.aload_n 0, 1) := by decide +kernel
theorem dX1_init_15 : decode cX1_init 15 = .ok (.aload_n 3, 1) := by decide +kernel
theorem dX1_init_16 : decode cX1_init 16 = .ok (.putfield 17, 3) := by decide +kernel
theorem dX1_init_19 : decode cX1_init 19 = .ok (.return_, 1) := by decide +kernel
theorem dX2_init_0 : decode cX2_init 0 = .ok (.aload_n 0, 1) := by decide +kernel
theorem dX2_init_1 : decode cX2_init 1 = .ok (.invokespecial 3, 3) := by decide +kernel
theorem dX2_init_4 : decode cX2_init 4 = .ok (.aload_n 0, 1) := by decide +kernel
theorem dX2_init_5 : decode cX2_init 5 = .ok (.new 9, 3) := by decide +kernel
theorem dX2_init_8 : decode cX2_init 8 = .ok (.dup, 1) := by decide +kernel
theorem dX2_init_9 : decode cX2_init 9 = .ok (.invokespecial 11, 3) := by decide +kernel
theorem dX2_init_12 : decode cX2_init 12 = .ok (.putfield 12, 3) := by decide +kernel
theorem dX2_init_15 : decode cX2_init 15 = .ok (.return_, 1) := by decide +kernel
theorem dX2_note_0 : decode cX2_note 0 = .ok (.aload_n 0, 1) := by decide +kernel
theorem dX2_note_1 : decode cX2_note 1 = .ok (.getfield 12, 3) := by decide +kernel
theorem dX2_note_4 : decode cX2_note 4 = .ok (.invokevirtual 18, 3) := by decide +kernel
theorem dX2_note_7 : decode cX2_note 7 = .ok (.sipush 1024, 3) := by decide +kernel
theorem dX2_note_10 : decode cX2_note 10 = .ok (.if_icmp .lt 4, 3) := by decide +kernel
theorem dX2_note_13 : decode cX2_note 13 = .ok (.return_, 1) := by decide +kernel
theorem dX2_note_14 : decode cX2_note 14 = .ok (.aload_n 0, 1) := by decide +kernel
theorem dX2_note_15 : decode cX2_note 15 = .ok (.getfield 12, 3) := by decide +kernel
theorem dX2_note_18 : decode cX2_note 18 = .ok (.new 22, 3) := by decide +kernel
theorem dX2_note_21 : decode cX2_note 21 = .ok (.dup, 1) := by decide +kernel
theorem dX2_note_22 : decode cX2_note 22 = .ok (.iload_n 1, 1) := by decide +kernel
theorem dX2_note_23 : decode cX2_note 23 = .ok (.iload_n 2, 1) := by decide +kernel
theorem dX2_note_24 : decode cX2_note 24 = .ok (.aload_n 3, 1) := by decide +kernel
theorem dX2_note_25 : decode cX2_note 25 = .ok (.invokespecial 24, 3) := by decide +kernel
theorem dX2_note_28 : decode cX2_note 28 = .ok (.invokevirtual 27, 3) := by decide +kernel
theorem dX2_note_31 : decode cX2_note 31 = .ok (.pop, 1) := by decide +kernel
theorem dX2_note_32 : decode cX2_note 32 = .ok (.bipush 97, 2) := by decide +kernel
theorem dX2_note_34 : decode cX2_note 34 = .ok (.iload_n 2, 1) := by decide +kernel
theorem dX2_note_35 : decode cX2_note 35 = .ok (.imul, 1) := by decide +kernel
theorem dX2_note_36 : decode cX2_note 36 = .ok (.bipush 13, 2) := by decide +kernel
theorem dX2_note_38 : decode cX2_note 38 = .ok (.aload_n 3, 1) := by decide +kernel
theorem dX2_note_39 : decode cX2_note 39 = .ok (.getfield 31, 3) := by decide +kernel
theorem dX2_note_42 : decode cX2_note 42 = .ok (.imul, 1) := by decide +kernel
theorem dX2_note_43 : decode cX2_note 43 = .ok (.iadd, 1) := by decide +kernel
theorem dX2_note_44 : decode cX2_note 44 = .ok (.ldc 37, 2) := by decide +kernel
theorem dX2_note_46 : decode cX2_note 46 = .ok (.iload_n 1, 1) := by decide +kernel
theorem dX2_note_47 : decode cX2_note 47 = .ok (.invokevirtual 39, 3) := by decide +kernel
theorem dX2_note_50 : decode cX2_note 50 = .ok (.iadd, 1) := by decide +kernel
theorem dX2_note_51 : decode cX2_note 51 = .ok (.istore 5, 2) := by decide +kernel
theorem dX2_note_53 : decode cX2_note 53 = .ok (.aload 4, 2) := by decide +kernel
theorem dX2_note_55 : decode cX2_note 55 = .ok (.ifnull 19, 3) := by decide +kernel
theorem dX2_note_58 : decode cX2_note 58 = .ok (.iload 5, 2) := by decide +kernel
theorem dX2_note_60 : decode cX2_note 60 = .ok (.bipush 7, 2) := by decide +kernel
theorem dX2_note_62 : decode cX2_note 62 = .ok (.aload 4, 2) := by decide +kernel
theorem dX2_note_64 : decode cX2_note 64 = .ok (.getfield 45, 3) := by decide +kernel
theorem dX2_note_67 : decode cX2_note 67 = .ok (.imul, 1) := by decide +kernel
theorem dX2_note_68 : decode cX2_note 68 = .ok (.bipush 7, 2) := by decide +kernel
theorem dX2_note_70 : decode cX2_note 70 = .ok (.iadd, 1) := by decide +kernel
theorem dX2_note_71 : decode cX2_note 71 = .ok (.iadd, 1) := by decide +kernel
theorem dX2_note_72 : decode cX2_note 72 = .ok (.istore 5, 2) := by decide +kernel
theorem dX2_note_74 : decode cX2_note 74 = .ok (.aload_n 0, 1) := by decide +kernel
theorem dX2_note_75 : decode cX2_note 75 = .ok (.bipush 31, 2) := by decide +kernel
theorem dX2_note_77 : decode cX2_note 77 = .ok (.aload_n 0, 1) := by decide +kernel
theorem dX2_note_78 : decode cX2_note 78 = .ok (.getfield 48, 3) := by decide +kernel
theorem dX2_note_81 : decode cX2_note 81 = .ok (.imul, 1) := by decide +kernel
theorem dX2_note_82 : decode cX2_note 82 = .ok (.iload 5, 2) := by decide +kernel
theorem dX2_note_84 : decode cX2_note 84 = .ok (.iadd, 1) := by decide +kernel
theorem dX2_note_85 : decode cX2_note 85 = .ok (.ldc 51, 2) := by decide +kernel
theorem dX2_note_87 : decode cX2_note 87 = .ok (.irem, 1) := by decide +kernel
theorem dX2_note_88 : decode cX2_note 88 = .ok (.putfield 48, 3) := by decide +kernel
theorem dX2_note_91 : decode cX2_note 91 = .ok (.return_, 1) := by decide +kernel
theorem dX3_init_0 : decode cX3_init 0 = .ok (.aload_n 0, 1) := by decide +kernel
theorem dX3_init_1 : decode cX3_init 1 = .ok (.invokespecial 1, 3) := by decide +kernel
theorem dX3_init_4 : decode cX3_init 4 = .ok (.aload_n 0, 1) := by decide +kernel
theorem dX3_init_5 : decode cX3_init 5 = .ok (.iload_n 1, 1) := by decide +kernel
theorem dX3_init_6 : decode cX3_init 6 = .ok (.putfield 7, 3) := by decide +kernel
theorem dX3_init_9 : decode cX3_init 9 = .ok (.aload_n 0, 1) := by decide +kernel
theorem dX3_init_10 : decode cX3_init 10 = .ok (.iload_n 2, 1) := by decide +kernel
theorem dX3_init_11 : decode cX3_init 11 = .ok (.putfield 13, 3) := by decide +kernel
theorem dX3_init_14 : decode cX3_init 14 = .ok (.aload_n 0, 1) := by decide +kernel
theorem dX3_init_15 : decode cX3_init 15 = .ok (.iload_n 3, 1) := by decide +kernel
theorem dX3_init_16 : decode cX3_init 16 = .ok (.putfield 16, 3) := by decide +kernel
theorem dX3_init_19 : decode cX3_init 19 = .ok (.return_, 1) := by decide +kernel
theorem dX3_readyFrom_0 : decode cX3_readyFrom 0 = .ok (.iload_n 2, 1) := by decide +kernel
theorem dX3_readyFrom_1 : decode cX3_readyFrom 1 = .ok (.iconst 1, 1) := by decide +kernel
theorem dX3_readyFrom_2 : decode cX3_readyFrom 2 = .ok (.iadd, 1) := by decide +kernel
theorem dX3_readyFrom_3 : decode cX3_readyFrom 3 = .ok (.iload_n 1, 1) := by decide +kernel
theorem dX3_readyFrom_4 : decode cX3_readyFrom 4 = .ok (.aload_n 0, 1) := by decide +kernel
theorem dX3_readyFrom_5 : decode cX3_readyFrom 5 = .ok (.getfield 16, 3) := by decide +kernel
theorem dX3_readyFrom_8 : decode cX3_readyFrom 8 = .ok (.iadd, 1) := by decide +kernel
theorem dX3_readyFrom_9 : decode cX3_readyFrom 9 = .ok (.invokestatic 19, 3) := by decide +kernel
theorem dX3_readyFrom_12 : decode cX3_readyFrom 12 = .ok (.ireturn, 1) := by decide +kernel
theorem dX4_init_0 : decode cX4_init 0 = .ok (.aload_n 0, 1) := by decide +kernel
theorem dX4_init_1 : decode cX4_init 1 = .ok (.invokespecial 1, 3) := by decide +kernel
theorem dX4_init_4 : decode cX4_init 4 = .ok (.aload_n 0, 1) := by decide +kernel
theorem dX4_init_5 : decode cX4_init 5 = .ok (.iload_n 1, 1) := by decide +kernel
theorem dX4_init_6 : decode cX4_init 6 = .ok (.putfield 7, 3) := by decide +kernel
theorem dX4_init_9 : decode cX4_init 9 = .ok (.aload_n 0, 1) := by decide +kernel
theorem dX4_init_10 : decode cX4_init 10 = .ok (.aload_n 2, 1) := by decide +kernel
theorem dX4_init_11 : decode cX4_init 11 = .ok (.putfield 13, 3) := by decide +kernel
theorem dX4_init_14 : decode cX4_init 14 = .ok (.aload_n 0, 1) := by decide +kernel
theorem dX4_init_15 : decode cX4_init 15 = .ok (.aload_n 3, 1) := by decide +kernel
theorem dX4_init_16 : decode cX4_init 16 = .ok (.putfield 17, 3) := by decide +kernel
theorem dX4_init_19 : decode cX4_init 19 = .ok (.aload_n 0, 1) := by decide +kernel
theorem dX4_init_20 : decode cX4_init 20 = .ok (.iload 4, 2) := by decide +kernel
theorem dX4_init_22 : decode cX4_init 22 = .ok (.putfield 20, 3) := by decide +kernel
theorem dX4_init_25 : decode cX4_init 25 = .ok (.aload_n 0, 1) := by decide +kernel
theorem dX4_init_26 : decode cX4_init 26 = .ok (.new 23, 3) := by decide +kernel
theorem dX4_init_29 : decode cX4_init 29 = .ok (.dup, 1) := by decide +kernel
theorem dX4_init_30 : decode cX4_init 30 = .ok (.invokespecial 25, 3) := by decide +kernel
theorem dX4_init_33 : decode cX4_init 33 = .ok (.putfield 26, 3) := by decide +kernel
theorem dX4_init_36 : decode cX4_init 36 = .ok (.aload_n 0, 1) := by decide +kernel
theorem dX4_init_37 : decode cX4_init 37 = .ok (.iconst 1, 1) := by decide +kernel
theorem dX4_init_38 : decode cX4_init 38 = .ok (.putfield 30, 3) := by decide +kernel
theorem dX4_init_41 : decode cX4_init 41 = .ok (.return_, 1) := by decide +kernel
theorem dX4_setTimes_0 : decode cX4_setTimes 0 = .ok (.aload_n 0, 1) := by decide +kernel
theorem dX4_setTimes_1 : decode cX4_setTimes 1 = .ok (.iload_n 1, 1) := by decide +kernel
theorem dX4_setTimes_2 : decode cX4_setTimes 2 = .ok (.putfield 34, 3) := by decide +kernel
theorem dX4_setTimes_5 : decode cX4_setTimes 5 = .ok (.aload_n 0, 1) := by decide +kernel
theorem dX4_setTimes_6 : decode cX4_setTimes 6 = .ok (.iload_n 2, 1) := by decide +kernel
theorem dX4_setTimes_7 : decode cX4_setTimes 7 = .ok (.putfield 37, 3) := by decide +kernel
theorem dX4_setTimes_10 : decode cX4_setTimes 10 = .ok (.aload_n 0, 1) := by decide +kernel
theorem dX4_setTimes_11 : decode cX4_setTimes 11 = .ok (.iload_n 3, 1) := by decide +kernel
theorem dX4_setTimes_12 : decode cX4_setTimes 12 = .ok (.putfield 40, 3) := by decide +kernel
theorem dX4_setTimes_15 : decode cX4_setTimes 15 = .ok (.return_, 1) := by decide +kernel
theorem dX4_departureFrom_0 : decode cX4_departureFrom 0 = .ok (.iload_n 1, 1) := by decide +kernel
theorem dX4_departureFrom_1 : decode cX4_departureFrom 1 = .ok (.aload_n 0, 1) := by decide +kernel
theorem dX4_departureFrom_2 : decode cX4_departureFrom 2 = .ok (.getfield 34, 3) := by decide +kernel
theorem dX4_departureFrom_5 : decode cX4_departureFrom 5 = .ok (.if_icmp .le 10, 3) := by decide +kernel
theorem dX4_departureFrom_8 : decode cX4_departureFrom 8 = .ok (.aload_n 0, 1) := by decide +kernel
theorem dX4_departureFrom_9 : decode cX4_departureFrom 9 = .ok (.getfield 37, 3) := by decide +kernel
theorem dX4_departureFrom_12 : decode cX4_departureFrom 12 = .ok (.ifCond .gt 8, 3) := by decide +kernel
theorem dX4_departureFrom_15 : decode cX4_departureFrom 15 = .ok (.aload_n 0, 1) := by decide +kernel
theorem dX4_departureFrom_16 : decode cX4_departureFrom 16 = .ok (.getfield 34, 3) := by decide +kernel
theorem dX4_departureFrom_19 : decode cX4_departureFrom 19 = .ok (.ireturn, 1) := by decide +kernel
theorem dX4_departureFrom_20 : decode cX4_departureFrom 20 = .ok (.iload_n 1, 1) := by decide +kernel
theorem dX4_departureFrom_21 : decode cX4_departureFrom 21 = .ok (.aload_n 0, 1) := by decide +kernel
theorem dX4_departureFrom_22 : decode cX4_departureFrom 22 = .ok (.getfield 34, 3) := by decide +kernel
theorem dX4_departureFrom_25 : decode cX4_departureFrom 25 = .ok (.isub, 1) := by decide +kernel
theorem dX4_departureFrom_26 : decode cX4_departureFrom 26 = .ok (.aload_n 0, 1) := by decide +kernel
theorem dX4_departureFrom_27 : decode cX4_departureFrom 27 = .ok (.getfield 37, 3) := by decide +kernel
theorem dX4_departureFrom_30 : decode cX4_departureFrom 30 = .ok (.irem, 1) := by decide +kernel
theorem dX4_departureFrom_31 : decode cX4_departureFrom 31 = .ok (.istore_n 2, 1) := by decide +kernel
theorem dX4_departureFrom_32 : decode cX4_departureFrom 32 = .ok (.iload_n 2, 1) := by decide +kernel
theorem dX4_departureFrom_33 : decode cX4_departureFrom 33 = .ok (.ifCond .ne 7, 3) := by decide +kernel
theorem dX4_departureFrom_36 : decode cX4_departureFrom 36 = .ok (.iload_n 1, 1) := by decide +kernel
theorem dX4_departureFrom_37 : decode cX4_departureFrom 37 = .ok (.goto 11, 3) := by decide +kernel
theorem dX4_departureFrom_40 : decode cX4_departureFrom 40 = .ok (.iload_n 1, 1) := by decide +kernel
theorem dX4_departureFrom_41 : decode cX4_departureFrom 41 = .ok (.iload_n 2, 1) := by decide +kernel
theorem dX4_departureFrom_42 : decode cX4_departureFrom 42 = .ok (.isub, 1) := by decide +kernel
theorem dX4_departureFrom_43 : decode cX4_departureFrom 43 = .ok (.aload_n 0, 1) := by decide +kernel
theorem dX4_departureFrom_44 : decode cX4_departureFrom 44 = .ok (.getfield 37, 3) := by decide +kernel
theorem dX4_departureFrom_47 : decode cX4_departureFrom 47 = .ok (.iadd, 1) := by decide +kernel
theorem dX4_departureFrom_48 : decode cX4_departureFrom 48 = .ok (.ireturn, 1) := by decide +kernel
theorem dX4_leavesIn_0 : decode cX4_leavesIn 0 = .ok (.aload_n 0, 1) := by decide +kernel
theorem dX4_leavesIn_1 : decode cX4_leavesIn 1 = .ok (.getfield 30, 3) := by decide +kernel
theorem dX4_leavesIn_4 : decode cX4_leavesIn 4 = .ok (.ifCond .eq 16, 3) := by decide +kernel
theorem dX4_leavesIn_7 : decode cX4_leavesIn 7 = .ok (.aload_n 0, 1) := by decide +kernel
theorem dX4_leavesIn_8 : decode cX4_leavesIn 8 = .ok (.iload_n 1, 1) := by decide +kernel
theorem dX4_leavesIn_9 : decode cX4_leavesIn 9 = .ok (.invokevirtual 43, 3) := by decide +kernel
theorem dX4_leavesIn_12 : decode cX4_leavesIn 12 = .ok (.iload_n 1, 1) := by decide +kernel
theorem dX4_leavesIn_13 : decode cX4_leavesIn 13 = .ok (.if_icmp .ne 7, 3) := by decide +kernel
theorem dX4_leavesIn_16 : decode cX4_leavesIn 16 = .ok (.iconst 1, 1) := by decide +kernel
theorem dX4_leavesIn_17 : decode cX4_leavesIn 17 = .ok (.goto 4, 3) := by decide +kernel
theorem dX4_leavesIn_20 : decode cX4_leavesIn 20 = .ok (.iconst 0, 1) := by decide +kernel
theorem dX4_leavesIn_21 : decode cX4_leavesIn 21 = .ok (.ireturn, 1) := by decide +kernel
theorem dX5_init_0 : decode cX5_init 0 = .ok (.aload_n 0, 1) := by decide +kernel
theorem dX5_init_1 : decode cX5_init 1 = .ok (.invokespecial 3, 3) := by decide +kernel
theorem dX5_init_4 : decode cX5_init 4 = .ok (.aload_n 0, 1) := by decide +kernel
theorem dX5_init_5 : decode cX5_init 5 = .ok (.iload_n 1, 1) := by decide +kernel
theorem dX5_init_6 : decode cX5_init 6 = .ok (.putfield 9, 3) := by decide +kernel
theorem dX5_init_9 : decode cX5_init 9 = .ok (.aload_n 0, 1) := by decide +kernel
theorem dX5_init_10 : decode cX5_init 10 = .ok (.iload 4, 2) := by decide +kernel
theorem dX5_init_12 : decode cX5_init 12 = .ok (.putfield 15, 3) := by decide +kernel
theorem dX5_init_15 : decode cX5_init 15 = .ok (.aload_n 0, 1) := by decide +kernel
theorem dX5_init_16 : decode cX5_init 16 = .ok (.iload 5, 2) := by decide +kernel
theorem dX5_init_18 : decode cX5_init 18 = .ok (.putfield 18, 3) := by decide +kernel
theorem dX5_init_21 : decode cX5_init 21 = .ok (.aload_n 0, 1) := by decide +kernel
theorem dX5_init_22 : decode cX5_init 22 = .ok (.aload_n 2, 1) := by decide +kernel
theorem dX5_init_23 : decode cX5_init 23 = .ok (.putfield 21, 3) := by decide +kernel
theorem dX5_init_26 : decode cX5_init 26 = .ok (.aload_n 0, 1) := by decide +kernel
theorem dX5_init_27 : decode cX5_init 27 = .ok (.aload_n 3, 1) := by decide +kernel
theorem dX5_init_28 : decode cX5_init 28 = .ok (.putfield 25, 3) := by decide +kernel
theorem dX5_init_31 : decode cX5_init 31 = .ok (.aload_n 0, 1) := by decide +kernel
theorem dX5_init_32 : decode cX5_init 32 = .ok (.iload 6, 2) := by decide +kernel
theorem dX5_init_34 : decode cX5_init 34 = .ok (.putfield 28, 3) := by decide +kernel
theorem dX5_init_37 : decode cX5_init 37 = .ok (.aload_n 0, 1) := by decide +kernel
theorem dX5_init_38 : decode cX5_init 38 = .ok (.aload_n 2, 1) := by decide +kernel
theorem dX5_init_39 : decode cX5_init 39 = .ok (.putfield 31, 3) := by decide +kernel
theorem dX5_init_42 : decode cX5_init 42 = .ok (.aload_n 0, 1) := by decide +kernel
theorem dX5_init_43 : decode cX5_init 43 = .ok (.new 34, 3) := by decide +kernel
theorem dX5_init_46 : decode cX5_init 46 = .ok (.dup, 1) := by decide +kernel
theorem dX5_init_47 : decode cX5_init 47 = .ok (.invokespecial 36, 3) := by decide +kernel
theorem dX5_init_50 : decode cX5_init 50 = .ok (.putfield 37, 3) := by decide +kernel
theorem dX5_init_53 : decode cX5_init 53 = .ok (.aload_n 0, 1) := by decide +kernel
theorem dX5_init_54 : decode cX5_init 54 = .ok (.iconst (-1), 1) := by decide +kernel
theorem dX5_init_55 : decode cX5_init 55 = .ok (.putfield 41, 3) := by decide +kernel
theorem dX5_init_58 : decode cX5_init 58 = .ok (.return_, 1) := by decide +kernel
theorem dX5_settle_0 : decode cX5_settle 0 = .ok (.aload_n 0, 1) := by decide +kernel
theorem dX5_settle_1 : decode cX5_settle 1 = .ok (.aconst_null, 1) := by decide +kernel
theorem dX5_settle_2 : decode cX5_settle 2 = .ok (.putfield 44, 3) := by decide +kernel
theorem dX5_settle_5 : decode cX5_settle 5 = .ok (.aload_n 0, 1) := by decide +kernel
theorem dX5_settle_6 : decode cX5_settle 6 = .ok (.aload_n 1, 1) := by decide +kernel
theorem dX5_settle_7 : decode cX5_settle 7 = .ok (.putfield 31, 3) := by decide +kernel
theorem dX5_settle_10 : decode cX5_settle 10 = .ok (.aload_n 0, 1) := by decide +kernel
theorem dX5_settle_11 : decode cX5_settle 11 = .ok (.bipush 115, 2) := by decide +kernel
theorem dX5_settle_13 : decode cX5_settle 13 = .ok (.putfield 48, 3) := by decide +kernel
theorem dX5_settle_16 : decode cX5_settle 16 = .ok (.aload_n 0, 1) := by decide +kernel
theorem dX5_settle_17 : decode cX5_settle 17 = .ok (.iload_n 2, 1) := by decide +kernel
theorem dX5_settle_18 : decode cX5_settle 18 = .ok (.putfield 52, 3) := by decide +kernel
theorem dX5_settle_21 : decode cX5_settle 21 = .ok (.aload_n 1, 1) := by decide +kernel
theorem dX5_settle_22 : decode cX5_settle 22 = .ok (.aload_n 0, 1) := by decide +kernel
theorem dX5_settle_23 : decode cX5_settle 23 = .ok (.getfield 25, 3) := by decide +kernel
theorem dX5_settle_26 : decode cX5_settle 26 = .ok (.if_acmp .ne 16, 3) := by decide +kernel
theorem dX5_settle_29 : decode cX5_settle 29 = .ok (.aload_n 0, 1) := by decide +kernel
theorem dX5_settle_30 : decode cX5_settle 30 = .ok (.getfield 41, 3) := by decide +kernel
theorem dX5_settle_33 : decode cX5_settle 33 = .ok (.iconst (-1), 1) := by decide +kernel
theorem dX5_settle_34 : decode cX5_settle 34 = .ok (.if_icmp .ne 8, 3) := by decide +kernel
theorem dX5_settle_37 : decode cX5_settle 37 = .ok (.aload_n 0, 1) := by decide +kernel
theorem dX5_settle_38 : decode cX5_settle 38 = .ok (.iload_n 2, 1) := by decide +kernel
theorem dX5_settle_39 : decode cX5_settle 39 = .ok (.putfield 41, 3) := by decide +kernel
theorem dX5_settle_42 : decode cX5_settle 42 = .ok (.return_, 1) := by decide +kernel
theorem dX5_waitsFor_0 : decode cX5_waitsFor 0 = .ok (.aload_n 0, 1) := by decide +kernel
theorem dX5_waitsFor_1 : decode cX5_waitsFor 1 = .ok (.getfield 48, 3) := by decide +kernel
theorem dX5_waitsFor_4 : decode cX5_waitsFor 4 = .ok (.bipush 115, 2) := by decide +kernel
theorem dX5_waitsFor_6 : decode cX5_waitsFor 6 = .ok (.if_icmp .ne 15, 3) := by decide +kernel
theorem dX5_waitsFor_9 : decode cX5_waitsFor 9 = .ok (.aload_n 0, 1) := by decide +kernel
theorem dX5_waitsFor_10 : decode cX5_waitsFor 10 = .ok (.getfield 55, 3) := by decide +kernel
theorem dX5_waitsFor_13 : decode cX5_waitsFor 13 = .ok (.aload_n 1, 1) := by decide +kernel
theorem dX5_waitsFor_14 : decode cX5_waitsFor 14 = .ok (.if_acmp .ne 7, 3) := by decide +kernel
theorem dX5_waitsFor_17 : decode cX5_waitsFor 17 = .ok (.iconst 1, 1) := by decide +kernel
theorem dX5_waitsFor_18 : decode cX5_waitsFor 18 = .ok (.goto 4, 3) := by decide +kernel
theorem dX5_waitsFor_21 : decode cX5_waitsFor 21 = .ok (.iconst 0, 1) := by decide +kernel
theorem dX5_waitsFor_22 : decode cX5_waitsFor 22 = .ok (.ireturn, 1) := by decide +kernel
theorem dX5_missesPromise_0 : decode cX5_missesPromise 0 = .ok (.aload_n 0, 1) := by decide +kernel
theorem dX5_missesPromise_1 : decode cX5_missesPromise 1 = .ok (.getfield 58, 3) := by decide +kernel
theorem dX5_missesPromise_4 : decode cX5_missesPromise 4 = .ok (.iconst (-1), 1) := by decide +kernel
theorem dX5_missesPromise_5 : decode cX5_missesPromise 5 = .ok (.if_icmp .ne 5, 3) := by decide +kernel
theorem dX5_missesPromise_8 : decode cX5_missesPromise 8 = .ok (.iconst 0, 1) := by decide +kernel
theorem dX5_missesPromise_9 : decode cX5_missesPromise 9 = .ok (.ireturn, 1) := by decide +kernel
theorem dX5_missesPromise_10 : decode cX5_missesPromise 10 = .ok (.aload_n 0, 1) := by decide +kernel
theorem dX5_missesPromise_11 : decode cX5_missesPromise 11 = .ok (.getfield 58, 3) := by decide +kernel
theorem dX5_missesPromise_14 : decode cX5_missesPromise 14 = .ok (.aload_n 0, 1) := by decide +kernel
theorem dX5_missesPromise_15 : decode cX5_missesPromise 15 = .ok (.getfield 41, 3) := by decide +kernel
theorem dX5_missesPromise_18 : decode cX5_missesPromise 18 = .ok (.iconst (-1), 1) := by decide +kernel
theorem dX5_missesPromise_19 : decode cX5_missesPromise 19 = .ok (.if_icmp .ne 7, 3) := by decide +kernel
theorem dX5_missesPromise_22 : decode cX5_missesPromise 22 = .ok (.iload_n 1, 1) := by decide +kernel
theorem dX5_missesPromise_23 : decode cX5_missesPromise 23 = .ok (.goto 7, 3) := by decide +kernel
theorem dX5_missesPromise_26 : decode cX5_missesPromise 26 = .ok (.aload_n 0, 1) := by decide +kernel
theorem dX5_missesPromise_27 : decode cX5_missesPromise 27 = .ok (.getfield 41, 3) := by decide +kernel
theorem dX5_missesPromise_30 : decode cX5_missesPromise 30 = .ok (.if_icmp .ge 7, 3) := by decide +kernel
theorem dX5_missesPromise_33 : decode cX5_missesPromise 33 = .ok (.iconst 1, 1) := by decide +kernel
theorem dX5_missesPromise_34 : decode cX5_missesPromise 34 = .ok (.goto 4, 3) := by decide +kernel
theorem dX5_missesPromise_37 : decode cX5_missesPromise 37 = .ok (.iconst 0, 1) := by decide +kernel
theorem dX5_missesPromise_38 : decode cX5_missesPromise 38 = .ok (.ireturn, 1) := by decide +kernel
theorem dX5_attemptsAllowed_0 : decode cX5_attemptsAllowed 0 = .ok (.iconst 3, 1) := by decide +kernel
theorem dX5_attemptsAllowed_1 : decode cX5_attemptsAllowed 1 = .ok (.aload_n 0, 1) := by decide +kernel
theorem dX5_attemptsAllowed_2 : decode cX5_attemptsAllowed 2 = .ok (.getfield 18, 3) := by decide +kernel
theorem dX5_attemptsAllowed_5 : decode cX5_attemptsAllowed 5 = .ok (.isub, 1) := by decide +kernel
theorem dX5_attemptsAllowed_6 : decode cX5_attemptsAllowed 6 = .ok (.ireturn, 1) := by decide +kernel
theorem dX5_loadsBefore_0 : decode cX5_loadsBefore 0 = .ok (.aload_n 0, 1) := by decide +kernel
theorem dX5_loadsBefore_1 : decode cX5_loadsBefore 1 = .ok (.getfield 18, 3) := by decide +kernel
theorem dX5_loadsBefore_4 : decode cX5_loadsBefore 4 = .ok (.aload_n 1, 1) := by decide +kernel
theorem dX5_loadsBefore_5 : decode cX5_loadsBefore 5 = .ok (.getfield 18, 3) := by decide +kernel
theorem dX5_loadsBefore_8 : decode cX5_loadsBefore 8 = .ok (.if_icmp .eq 20, 3) := by decide +kernel
theorem dX5_loadsBefore_11 : decode cX5_loadsBefore 11 = .ok (.aload_n 0, 1) := by decide +kernel
theorem dX5_loadsBefore_12 : decode cX5_loadsBefore 12 = .ok (.getfield 18, 3) := by decide +kernel
theorem dX5_loadsBefore_15 : decode cX5_loadsBefore 15 = .ok (.aload_n 1, 1) := by decide +kernel
theorem dX5_loadsBefore_16 : decode cX5_loadsBefore 16 = .ok (.getfield 18, 3) := by decide +kernel
theorem dX5_loadsBefore_19 : decode cX5_loadsBefore 19 = .ok (.if_icmp .ge 7, 3) := by decide +kernel
theorem dX5_loadsBefore_22 : decode cX5_loadsBefore 22 = .ok (.iconst 1, 1) := by decide +kernel
theorem dX5_loadsBefore_23 : decode cX5_loadsBefore 23 = .ok (.goto 4, 3) := by decide +kernel
theorem dX5_loadsBefore_26 : decode cX5_loadsBefore 26 = .ok (.iconst 0, 1) := by decide +kernel
theorem dX5_loadsBefore_27 : decode cX5_loadsBefore 27 = .ok (.ireturn, 1) := by decide +kernel
theorem dX5_loadsBefore_28 : decode cX5_loadsBefore 28 = .ok (.aload_n 0, 1) := by decide +kernel
theorem dX5_loadsBefore_29 : decode cX5_loadsBefore 29 = .ok (.getfield 58, 3) := by decide +kernel
theorem dX5_loadsBefore_32 : decode cX5_loadsBefore 32 = .ok (.aload_n 1, 1) := by decide +kernel
theorem dX5_loadsBefore_33 : decode cX5_loadsBefore 33 = .ok (.getfield 58, 3) := by decide +kernel
theorem dX5_loadsBefore_36 : decode cX5_loadsBefore 36 = .ok (.if_icmp .eq 36, 3) := by decide +kernel
theorem dX5_loadsBefore_39 : decode cX5_loadsBefore 39 = .ok (.aload_n 1, 1) := by decide +kernel
theorem dX5_loadsBefore_40 : decode cX5_loadsBefore 40 = .ok (.getfield 58, 3) := by decide +kernel
theorem dX5_loadsBefore_43 : decode cX5_loadsBefore 43 = .ok (.iconst (-1), 1) := by decide +kernel
theorem dX5_loadsBefore_44 : decode cX5_loadsBefore 44 = .ok (.if_icmp .eq 22, 3) := by decide +kernel
theorem dX5_loadsBefore_47 : decode cX5_loadsBefore 47 = .ok (.aload_n 0, 1) := by decide +kernel
theorem dX5_loadsBefore_48 : decode cX5_loadsBefore 48 = .ok (.getfield 58, 3) := by decide +kernel
theorem dX5_loadsBefore_51 : decode cX5_loadsBefore 51 = .ok (.iconst (-1), 1) := by decide +kernel
theorem dX5_loadsBefore_52 : decode cX5_loadsBefore 52 = .ok (.if_icmp .eq 18, 3) := by decide +kernel
theorem dX5_loadsBefore_55 : decode cX5_loadsBefore 55 = .ok (.aload_n 0, 1) := by decide +kernel
theorem dX5_loadsBefore_56 : decode cX5_loadsBefore 56 = .ok (.getfield 58, 3) := by decide +kernel
theorem dX5_loadsBefore_59 : decode cX5_loadsBefore 59 = .ok (.aload_n 1, 1) := by decide +kernel
theorem dX5_loadsBefore_60 : decode cX5_loadsBefore 60 = .ok (.getfield 58, 3) := by decide +kernel
theorem dX5_loadsBefore_63 : decode cX5_loadsBefore 63 = .ok (.if_icmp .ge 7, 3) := by decide +kernel
theorem dX5_loadsBefore_66 : decode cX5_loadsBefore 66 = .ok (.iconst 1, 1) := by decide +kernel
theorem dX5_loadsBefore_67 : decode cX5_loadsBefore 67 = .ok (.goto 4, 3) := by decide +kernel
theorem dX5_loadsBefore_70 : decode cX5_loadsBefore 70 = .ok (.iconst 0, 1) := by decide +kernel
theorem dX5_loadsBefore_71 : decode cX5_loadsBefore 71 = .ok (.ireturn, 1) := by decide +kernel
theorem dX5_loadsBefore_72 : decode cX5_loadsBefore 72 = .ok (.aload_n 0, 1) := by decide +kernel
theorem dX5_loadsBefore_73 : decode cX5_loadsBefore 73 = .ok (.getfield 9, 3) := by decide +kernel
theorem dX5_loadsBefore_76 : decode cX5_loadsBefore 76 = .ok (.aload_n 1, 1) := by decide +kernel
theorem dX5_loadsBefore_77 : decode cX5_loadsBefore 77 = .ok (.getfield 9, 3) := by decide +kernel
theorem dX5_loadsBefore_80 : decode cX5_loadsBefore 80 = .ok (.if_icmp .ge 7, 3) := by decide +kernel
theorem dX5_loadsBefore_83 : decode cX5_loadsBefore 83 = .ok (.iconst 1, 1) := by decide +kernel
theorem dX5_loadsBefore_84 : decode cX5_loadsBefore 84 = .ok (.goto 4, 3) := by decide +kernel
theorem dX5_loadsBefore_87 : decode cX5_loadsBefore 87 = .ok (.iconst 0, 1) := by decide +kernel
theorem dX5_loadsBefore_88 : decode cX5_loadsBefore 88 = .ok (.ireturn, 1) := by decide +kernel
theorem dX6_init_0 : decode cX6_init 0 = .ok (.aload_n 0, 1) := by decide +kernel
theorem dX6_init_1 : decode cX6_init 1 = .ok (.invokespecial 1, 3) := by decide +kernel
theorem dX6_init_4 : decode cX6_init 4 = .ok (.return_, 1) := by decide +kernel
theorem dX6_begin_0 : decode cX6_begin 0 = .ok (.aload_n 0, 1) := by decide +kernel
theorem dX6_begin_1 : decode cX6_begin 1 = .ok (.aload_n 1, 1) := by decide +kernel
theorem dX6_begin_2 : decode cX6_begin 2 = .ok (.putfield 7, 3) := by decide +kernel
theorem dX6_begin_5 : decode cX6_begin 5 = .ok (.aload_n 0, 1) := by decide +kernel
theorem dX6_begin_6 : decode cX6_begin 6 = .ok (.aconst_null, 1) := by decide +kernel
theorem dX6_begin_7 : decode cX6_begin 7 = .ok (.putfield 13, 3) := by decide +kernel
theorem dX6_begin_10 : decode cX6_begin 10 = .ok (.aload_n 0, 1) := by decide +kernel
theorem dX6_begin_11 : decode cX6_begin 11 = .ok (.iload_n 2, 1) := by decide +kernel
theorem dX6_begin_12 : decode cX6_begin 12 = .ok (.putfield 17, 3) := by decide +kernel
theorem dX6_begin_15 : decode cX6_begin 15 = .ok (.aload_n 0, 1) := by decide +kernel
theorem dX6_begin_16 : decode cX6_begin 16 = .ok (.iconst 0, 1) := by decide +kernel
theorem dX6_begin_17 : decode cX6_begin 17 = .ok (.putfield 21, 3) := by decide +kernel
theorem dX6_begin_20 : decode cX6_begin 20 = .ok (.aload_n 0, 1) := by decide +kernel
theorem dX6_begin_21 : decode cX6_begin 21 = .ok (.iconst 0, 1) := by decide +kernel
theorem dX6_begin_22 : decode cX6_begin 22 = .ok (.putfield 24, 3) := by decide +kernel
theorem dX6_begin_25 : decode cX6_begin 25 = .ok (.aload_n 0, 1) := by decide +kernel
theorem dX6_begin_26 : decode cX6_begin 26 = .ok (.iconst 1, 1) := by decide +kernel
theorem dX6_begin_27 : decode cX6_begin 27 = .ok (.aload_n 1, 1) := by decide +kernel
theorem dX6_begin_28 : decode cX6_begin 28 = .ok (.getfield 27, 3) := by decide +kernel
theorem dX6_begin_31 : decode cX6_begin 31 = .ok (.ishl, 1) := by decide +kernel
theorem dX6_begin_32 : decode cX6_begin 32 = .ok (.putfield 32, 3) := by decide +kernel
theorem dX6_begin_35 : decode cX6_begin 35 = .ok (.aload_n 0, 1) := by decide +kernel
theorem dX6_begin_36 : decode cX6_begin 36 = .ok (.iconst 0, 1) := by decide +kernel
theorem dX6_begin_37 : decode cX6_begin 37 = .ok (.putfield 35, 3) := by decide +kernel
theorem dX6_begin_40 : decode cX6_begin 40 = .ok (.return_, 1) := by decide +kernel
theorem dX6_follow_0 : decode cX6_follow 0 = .ok (.aload_n 0, 1) := by decide +kernel
theorem dX6_follow_1 : decode cX6_follow 1 = .ok (.aload_n 2, 1) := by decide +kernel
theorem dX6_follow_2 : decode cX6_follow 2 = .ok (.getfield 39, 3) := by decide +kernel
theorem dX6_follow_5 : decode cX6_follow 5 = .ok (.putfield 7, 3) := by decide +kernel
theorem dX6_follow_8 : decode cX6_follow 8 = .ok (.aload_n 0, 1) := by decide +kernel
theorem dX6_follow_9 : decode cX6_follow 9 = .ok (.aload_n 1, 1) := by decide +kernel
theorem dX6_follow_10 : decode cX6_follow 10 = .ok (.getfield 13, 3) := by decide +kernel
theorem dX6_follow_13 : decode cX6_follow 13 = .ok (.ifnonnull 7, 3) := by decide +kernel
theorem dX6_follow_16 : decode cX6_follow 16 = .ok (.aload_n 2, 1) := by decide +kernel
theorem dX6_follow_17 : decode cX6_follow 17 = .ok (.goto 7, 3) := by decide +kernel
theorem dX6_follow_20 : decode cX6_follow 20 = .ok (.aload_n 1, 1) := by decide +kernel
theorem dX6_follow_21 : decode cX6_follow 21 = .ok (.getfield 13, 3) := by decide +kernel
theorem dX6_follow_24 : decode cX6_follow 24 = .ok (.putfield 13, 3) := by decide +kernel
theorem dX6_follow_27 : decode cX6_follow 27 = .ok (.aload_n 0, 1) := by decide +kernel
theorem dX6_follow_28 : decode cX6_follow 28 = .ok (.iload_n 3, 1) := by decide +kernel
theorem dX6_follow_29 : decode cX6_follow 29 = .ok (.putfield 17, 3) := by decide +kernel
theorem dX6_follow_32 : decode cX6_follow 32 = .ok (.aload_n 0, 1) := by decide +kernel
theorem dX6_follow_33 : decode cX6_follow 33 = .ok (.aload_n 1, 1) := by decide +kernel
theorem dX6_follow_34 : decode cX6_follow 34 = .ok (.getfield 21, 3) := by decide +kernel
theorem dX6_follow_37 : decode cX6_follow 37 = .ok (.iconst 1, 1) := by decide +kernel
theorem dX6_follow_38 : decode cX6_follow 38 = .ok (.iadd, 1) := by decide +kernel
theorem dX6_follow_39 : decode cX6_follow 39 = .ok (.putfield 21, 3) := by decide +kernel
theorem dX6_follow_42 : decode cX6_follow 42 = .ok (.aload_n 0, 1) := by decide +kernel
theorem dX6_follow_43 : decode cX6_follow 43 = .ok (.aload_n 1, 1) := by decide +kernel
theorem dX6_follow_44 : decode cX6_follow 44 = .ok (.getfield 24, 3) := by decide +kernel
theorem dX6_follow_47 : decode cX6_follow 47 = .ok (.iconst 4, 1) := by decide +kernel
theorem dX6_follow_48 : decode cX6_follow 48 = .ok (.ishl, 1) := by decide +kernel
theorem dX6_follow_49 : decode cX6_follow 49 = .ok (.aload_n 2, 1) := by decide +kernel
theorem dX6_follow_50 : decode cX6_follow 50 = .ok (.getfield 44, 3) := by decide +kernel
theorem dX6_follow_53 : decode cX6_follow 53 = .ok (.iadd, 1) := by decide +kernel
theorem dX6_follow_54 : decode cX6_follow 54 = .ok (.putfield 24, 3) := by decide +kernel
theorem dX6_follow_57 : decode cX6_follow 57 = .ok (.aload_n 0, 1) := by decide +kernel
theorem dX6_follow_58 : decode cX6_follow 58 = .ok (.aload_n 1, 1) := by decide +kernel
theorem dX6_follow_59 : decode cX6_follow 59 = .ok (.getfield 32, 3) := by decide +kernel
theorem dX6_follow_62 : decode cX6_follow 62 = .ok (.iconst 1, 1) := by decide +kernel
theorem dX6_follow_63 : decode cX6_follow 63 = .ok (.aload_n 2, 1) := by decide +kernel
theorem dX6_follow_64 : decode cX6_follow 64 = .ok (.getfield 39, 3) := by decide +kernel
theorem dX6_follow_67 : decode cX6_follow 67 = .ok (.getfield 27, 3) := by decide +kernel
theorem dX6_follow_70 : decode cX6_follow 70 = .ok (.ishl, 1) := by decide +kernel
theorem dX6_follow_71 : decode cX6_follow 71 = .ok (.ior, 1) := by decide +kernel
theorem dX6_follow_72 : decode cX6_follow 72 = .ok (.putfield 32, 3) := by decide +kernel
theorem dX6_follow_75 : decode cX6_follow 75 = .ok (.aload_n 0, 1) := by decide +kernel
theorem dX6_follow_76 : decode cX6_follow 76 = .ok (.iconst 0, 1) := by decide +kernel
theorem dX6_follow_77 : decode cX6_follow 77 = .ok (.putfield 35, 3) := by decide +kernel
theorem dX6_follow_80 : decode cX6_follow 80 = .ok (.return_, 1) := by decide +kernel
theorem dX6_hasVisited_0 : decode cX6_hasVisited 0 = .ok (.aload_n 0, 1) := by decide +kernel
theorem dX6_hasVisited_1 : decode cX6_hasVisited 1 = .ok (.getfield 32, 3) := by decide +kernel
theorem dX6_hasVisited_4 : decode cX6_hasVisited 4 = .ok (.iconst 1, 1) := by decide +kernel
theorem dX6_hasVisited_5 : decode cX6_hasVisited 5 = .ok (.aload_n 1, 1) := by decide +kernel
theorem dX6_hasVisited_6 : decode cX6_hasVisited 6 = .ok (.getfield 27, 3) := by decide +kernel
theorem dX6_hasVisited_9 : decode cX6_hasVisited 9 = .ok (.ishl, 1) := by decide +kernel
theorem dX6_hasVisited_10 : decode cX6_hasVisited 10 = .ok (.iand, 1) := by decide +kernel
theorem dX6_hasVisited_11 : decode cX6_hasVisited 11 = .ok (.ifCond .eq 7, 3) := by decide +kernel
theorem dX6_hasVisited_14 : decode cX6_hasVisited 14 = .ok (.iconst 1, 1) := by decide +kernel
theorem dX6_hasVisited_15 : decode cX6_hasVisited 15 = .ok (.goto 4, 3) := by decide +kernel
theorem dX6_hasVisited_18 : decode cX6_hasVisited 18 = .ok (.iconst 0, 1) := by decide +kernel
theorem dX6_hasVisited_19 : decode cX6_hasVisited 19 = .ok (.ireturn, 1) := by decide +kernel
theorem dX6_isBetterThan_0 : decode cX6_isBetterThan 0 = .ok (.aload_n 0, 1) := by decide +kernel
theorem dX6_isBetterThan_1 : decode cX6_isBetterThan 1 = .ok (.getfield 17, 3) := by decide +kernel
theorem dX6_isBetterThan_4 : decode cX6_isBetterThan 4 = .ok (.aload_n 1, 1) := by decide +kernel
theorem dX6_isBetterThan_5 : decode cX6_isBetterThan 5 = .ok (.getfield 17, 3) := by decide +kernel
theorem dX6_isBetterThan_8 : decode cX6_isBetterThan 8 = .ok (.if_icmp .eq 20, 3) := by decide +kernel
theorem dX6_isBetterThan_11 : decode cX6_isBetterThan 11 = .ok (.aload_n 0, 1) := by decide +kernel
theorem dX6_isBetterThan_12 : decode cX6_isBetterThan 12 = .ok (.getfield 17, 3) := by decide +kernel
theorem dX6_isBetterThan_15 : decode cX6_isBetterThan 15 = .ok (.aload_n 1, 1) := by decide +kernel
theorem dX6_isBetterThan_16 : decode cX6_isBetterThan 16 = .ok (.getfield 17, 3) := by decide +kernel
theorem dX6_isBetterThan_19 : decode cX6_isBetterThan 19 = .ok (.if_icmp .ge 7, 3) := by decide +kernel
theorem dX6_isBetterThan_22 : decode cX6_isBetterThan 22 = .ok (.iconst 1, 1) := by decide +kernel
theorem dX6_isBetterThan_23 : decode cX6_isBetterThan 23 = .ok (.goto 4, 3) := by decide +kernel
theorem dX6_isBetterThan_26 : decode cX6_isBetterThan 26 = .ok (.iconst 0, 1) := by decide +kernel
theorem dX6_isBetterThan_27 : decode cX6_isBetterThan 27 = .ok (.ireturn, 1) := by decide +kernel
theorem dX6_isBetterThan_28 : decode cX6_isBetterThan 28 = .ok (.aload_n 0, 1) := by decide +kernel
theorem dX6_isBetterThan_29 : decode cX6_isBetterThan 29 = .ok (.getfield 21, 3) := by decide +kernel
theorem dX6_isBetterThan_32 : decode cX6_isBetterThan 32 = .ok (.aload_n 1, 1) := by decide +kernel
theorem dX6_isBetterThan_33 : decode cX6_isBetterThan 33 = .ok (.getfield 21, 3) := by decide +kernel
theorem dX6_isBetterThan_36 : decode cX6_isBetterThan 36 = .ok (.if_icmp .eq 20, 3) := by decide +kernel
theorem dX6_isBetterThan_39 : decode cX6_isBetterThan 39 = .ok (.aload_n 0, 1) := by decide +kernel
theorem dX6_isBetterThan_40 : decode cX6_isBetterThan 40 = .ok (.getfield 21, 3) := by decide +kernel
theorem dX6_isBetterThan_43 : decode cX6_isBetterThan 43 = .ok (.aload_n 1, 1) := by decide +kernel
theorem dX6_isBetterThan_44 : decode cX6_isBetterThan 44 = .ok (.getfield 21, 3) := by decide +kernel
theorem dX6_isBetterThan_47 : decode cX6_isBetterThan 47 = .ok (.if_icmp .ge 7, 3) := by decide +kernel
theorem dX6_isBetterThan_50 : decode cX6_isBetterThan 50 = .ok (.iconst 1, 1) := by decide +kernel
theorem dX6_isBetterThan_51 : decode cX6_isBetterThan 51 = .ok (.goto 4, 3) := by decide +kernel
theorem dX6_isBetterThan_54 : decode cX6_isBetterThan 54 = .ok (.iconst 0, 1) := by decide +kernel
theorem dX6_isBetterThan_55 : decode cX6_isBetterThan 55 = .ok (.ireturn, 1) := by decide +kernel
theorem dX6_isBetterThan_56 : decode cX6_isBetterThan 56 = .ok (.aload_n 0, 1) := by decide +kernel
theorem dX6_isBetterThan_57 : decode cX6_isBetterThan 57 = .ok (.getfield 24, 3) := by decide +kernel
theorem dX6_isBetterThan_60 : decode cX6_isBetterThan 60 = .ok (.aload_n 1, 1) := by decide +kernel
theorem dX6_isBetterThan_61 : decode cX6_isBetterThan 61 = .ok (.getfield 24, 3) := by decide +kernel
theorem dX6_isBetterThan_64 : decode cX6_isBetterThan 64 = .ok (.if_icmp .ge 7, 3) := by decide +kernel
theorem dX6_isBetterThan_67 : decode cX6_isBetterThan 67 = .ok (.iconst 1, 1) := by decide +kernel
theorem dX6_isBetterThan_68 : decode cX6_isBetterThan 68 = .ok (.goto 4, 3) := by decide +kernel
theorem dX6_isBetterThan_71 : decode cX6_isBetterThan 71 = .ok (.iconst 0, 1) := by decide +kernel
theorem dX6_isBetterThan_72 : decode cX6_isBetterThan 72 = .ok (.ireturn, 1) := by decide +kernel
theorem dX7_init_0 : decode cX7_init 0 = .ok (.aload_n 0, 1) := by decide +kernel
theorem dX7_init_1 : decode cX7_init 1 = .ok (.invokespecial 3, 3) := by decide +kernel
theorem dX7_init_4 : decode cX7_init 4 = .ok (.aload_n 0, 1) := by decide +kernel
theorem dX7_init_5 : decode cX7_init 5 = .ok (.new 9, 3) := by decide +kernel
theorem dX7_init_8 : decode cX7_init 8 = .ok (.dup, 1) := by decide +kernel
theorem dX7_init_9 : decode cX7_init 9 = .ok (.invokespecial 11, 3) := by decide +kernel
theorem dX7_init_12 : decode cX7_init 12 = .ok (.putfield 12, 3) := by decide +kernel
theorem dX7_init_15 : decode cX7_init 15 = .ok (.aload_n 0, 1) := by decide +kernel
theorem dX7_init_16 : decode cX7_init 16 = .ok (.new 18, 3) := by decide +kernel
theorem dX7_init_19 : decode cX7_init 19 = .ok (.dup, 1) := by decide +kernel
theorem dX7_init_20 : decode cX7_init 20 = .ok (.invokespecial 20, 3) := by decide +kernel
theorem dX7_init_23 : decode cX7_init 23 = .ok (.putfield 21, 3) := by decide +kernel
theorem dX7_init_26 : decode cX7_init 26 = .ok (.aload_n 0, 1) := by decide +kernel
theorem dX7_init_27 : decode cX7_init 27 = .ok (.getfield 12, 3) := by decide +kernel
theorem dX7_init_30 : decode cX7_init 30 = .ok (.aload_n 0, 1) := by decide +kernel
theorem dX7_init_31 : decode cX7_init 31 = .ok (.getfield 21, 3) := by decide +kernel
theorem dX7_init_34 : decode cX7_init 34 = .ok (.invokevirtual 25, 3) := by decide +kernel
theorem dX7_init_37 : decode cX7_init 37 = .ok (.pop, 1) := by decide +kernel
theorem dX7_init_38 : decode cX7_init 38 = .ok (.iconst 1, 1) := by decide +kernel
theorem dX7_init_39 : decode cX7_init 39 = .ok (.istore_n 1, 1) := by decide +kernel
theorem dX7_init_40 : decode cX7_init 40 = .ok (.iload_n 1, 1) := by decide +kernel
theorem dX7_init_41 : decode cX7_init 41 = .ok (.sipush 266, 3) := by decide +kernel
theorem dX7_init_44 : decode cX7_init 44 = .ok (.if_icmp .ge 24, 3) := by decide +kernel
theorem dX7_init_47 : decode cX7_init 47 = .ok (.aload_n 0, 1) := by decide +kernel
theorem dX7_init_48 : decode cX7_init 48 = .ok (.getfield 12, 3) := by decide +kernel
theorem dX7_init_51 : decode cX7_init 51 = .ok (.new 18, 3) := by decide +kernel
theorem dX7_init_54 : decode cX7_init 54 = .ok (.dup, 1) := by decide +kernel
theorem dX7_init_55 : decode cX7_init 55 = .ok (.invokespecial 20, 3) := by decide +kernel
theorem dX7_init_58 : decode cX7_init 58 = .ok (.invokevirtual 25, 3) := by decide +kernel
theorem dX7_init_61 : decode cX7_init 61 = .ok (.pop, 1) := by decide +kernel
theorem dX7_init_62 : decode cX7_init 62 = .ok (.iinc 1 1, 3) := by decide +kernel
theorem dX7_init_65 : decode cX7_init 65 = .ok (.goto (-25), 3) := by decide +kernel
theorem dX7_init_68 : decode cX7_init 68 = .ok (.return_, 1) := by decide +kernel
theorem dX7_bestPath_0 : decode cX7_bestPath 0 = .ok (.aload_n 0, 1) := by decide +kernel
theorem dX7_bestPath_1 : decode cX7_bestPath 1 = .ok (.getfield 21, 3) := by decide +kernel
theorem dX7_bestPath_4 : decode cX7_bestPath 4 = .ok (.aload_n 2, 1) := by decide +kernel
theorem dX7_bestPath_5 : decode cX7_bestPath 5 = .ok (.getfield 29, 3) := by decide +kernel
theorem dX7_bestPath_8 : decode cX7_bestPath 8 = .ok (.iload_n 3, 1) := by decide +kernel
theorem dX7_bestPath_9 : decode cX7_bestPath 9 = .ok (.invokevirtual 35, 3) := by decide +kernel
theorem dX7_bestPath_12 : decode cX7_bestPath 12 = .ok (.aload_n 0, 1) := by decide +kernel
theorem dX7_bestPath_13 : decode cX7_bestPath 13 = .ok (.iconst 1, 1) := by decide +kernel
theorem dX7_bestPath_14 : decode cX7_bestPath 14 = .ok (.putfield 39, 3) := by decide +kernel
theorem dX7_bestPath_17 : decode cX7_bestPath 17 = .ok (.aload_n 2, 1) := by decide +kernel
theorem dX7_bestPath_18 : decode cX7_bestPath 18 = .ok (.getfield 29, 3) := by decide +kernel
theorem dX7_bestPath_21 : decode cX7_bestPath 21 = .ok (.aload_n 2, 1) := by decide +kernel
theorem dX7_bestPath_22 : decode cX7_bestPath 22 = .ok (.getfield 43, 3) := by decide +kernel
theorem dX7_bestPath_25 : decode cX7_bestPath 25 = .ok (.iload_n 3, 1) := by decide +kernel
theorem dX7_bestPath_26 : decode cX7_bestPath 26 = .ok (.invokevirtual 46, 3) := by decide +kernel
theorem dX7_bestPath_29 : decode cX7_bestPath 29 = .ok (.istore 4, 2) := by decide +kernel
theorem dX7_bestPath_31 : decode cX7_bestPath 31 = .ok (.iconst 0, 1) := by decide +kernel
theorem dX7_bestPath_32 : decode cX7_bestPath 32 = .ok (.istore 5, 2) := by decide +kernel
theorem dX7_bestPath_34 : decode cX7_bestPath 34 = .ok (.iload 5, 2) := by decide +kernel
theorem dX7_bestPath_36 : decode cX7_bestPath 36 = .ok (.sipush 266, 3) := by decide +kernel
theorem dX7_bestPath_39 : decode cX7_bestPath 39 = .ok (.if_icmp .ge 74, 3) := by decide +kernel
theorem dX7_bestPath_42 : decode cX7_bestPath 42 = .ok (.aload_n 0, 1) := by decide +kernel
theorem dX7_bestPath_43 : decode cX7_bestPath 43 = .ok (.invokevirtual 52, 3) := by decide +kernel
theorem dX7_bestPath_46 : decode cX7_bestPath 46 = .ok (.astore 6, 2) := by decide +kernel
theorem dX7_bestPath_48 : decode cX7_bestPath 48 = .ok (.aload 6, 2) := by decide +kernel
theorem dX7_bestPath_50 : decode cX7_bestPath 50 = .ok (.ifnull 15, 3) := by decide +kernel
theorem dX7_bestPath_53 : decode cX7_bestPath 53 = .ok (.aload 6, 2) := by decide +kernel
theorem dX7_bestPath_55 : decode cX7_bestPath 55 = .ok (.getfield 56, 3) := by decide +kernel
theorem dX7_bestPath_58 : decode cX7_bestPath 58 = .ok (.aload_n 2, 1) := by decide +kernel
theorem dX7_bestPath_59 : decode cX7_bestPath 59 = .ok (.getfield 57, 3) := by decide +kernel
theorem dX7_bestPath_62 : decode cX7_bestPath 62 = .ok (.if_acmp .ne 6, 3) := by decide +kernel
theorem dX7_bestPath_65 : decode cX7_bestPath 65 = .ok (.aload 6, 2) := by decide +kernel
theorem dX7_bestPath_67 : decode cX7_bestPath 67 = .ok (.areturn, 1) := by decide +kernel
theorem dX7_bestPath_68 : decode cX7_bestPath 68 = .ok (.aload_n 0, 1) := by decide +kernel
theorem dX7_bestPath_69 : decode cX7_bestPath 69 = .ok (.aload 6, 2) := by decide +kernel
theorem dX7_bestPath_71 : decode cX7_bestPath 71 = .ok (.aload_n 1, 1) := by decide +kernel
theorem dX7_bestPath_72 : decode cX7_bestPath 72 = .ok (.aload 6, 2) := by decide +kernel
theorem dX7_bestPath_74 : decode cX7_bestPath 74 = .ok (.aload_n 0, 1) := by decide +kernel
theorem dX7_bestPath_75 : decode cX7_bestPath 75 = .ok (.getfield 21, 3) := by decide +kernel
theorem dX7_bestPath_78 : decode cX7_bestPath 78 = .ok (.if_acmp .ne 8, 3) := by decide +kernel
theorem dX7_bestPath_81 : decode cX7_bestPath 81 = .ok (.iload 4, 2) := by decide +kernel
theorem dX7_bestPath_83 : decode cX7_bestPath 83 = .ok (.goto 21, 3) := by decide +kernel
theorem dX7_bestPath_86 : decode cX7_bestPath 86 = .ok (.aload 6, 2) := by decide +kernel
theorem dX7_bestPath_88 : decode cX7_bestPath 88 = .ok (.getfield 56, 3) := by decide +kernel
theorem dX7_bestPath_91 : decode cX7_bestPath 91 = .ok (.aload 6, 2) := by decide +kernel
theorem dX7_bestPath_93 : decode cX7_bestPath 93 = .ok (.getfield 60, 3) := by decide +kernel
theorem dX7_bestPath_96 : decode cX7_bestPath 96 = .ok (.aload 6, 2) := by decide +kernel
theorem dX7_bestPath_98 : decode cX7_bestPath 98 = .ok (.getfield 60, 3) := by decide +kernel
theorem dX7_bestPath_101 : decode cX7_bestPath 101 = .ok (.invokevirtual 46, 3) := by decide +kernel
theorem dX7_bestPath_104 : decode cX7_bestPath 104 = .ok (.invokevirtual 63, 3) := by decide +kernel
theorem dX7_bestPath_107 : decode cX7_bestPath 107 = .ok (.iinc 5 1, 3) := by decide +kernel
theorem dX7_bestPath_110 : decode cX7_bestPath 110 = .ok (.goto (-76), 3) := by decide +kernel
theorem dX7_bestPath_113 : decode cX7_bestPath 113 = .ok (.aconst_null, 1) := by decide +kernel
theorem dX7_bestPath_114 : decode cX7_bestPath 114 = .ok (.areturn, 1) := by decide +kernel
theorem dX7_bestToExtend_0 : decode cX7_bestToExtend 0 = .ok (.aconst_null, 1) := by decide +kernel
theorem dX7_bestToExtend_1 : decode cX7_bestToExtend 1 = .ok (.astore_n 1, 1) := by decide +kernel
theorem dX7_bestToExtend_2 : decode cX7_bestToExtend 2 = .ok (.iconst 0, 1) := by decide +kernel
theorem dX7_bestToExtend_3 : decode cX7_bestToExtend 3 = .ok (.istore_n 2, 1) := by decide +kernel
theorem dX7_bestToExtend_4 : decode cX7_bestToExtend 4 = .ok (.iload_n 2, 1) := by decide +kernel
theorem dX7_bestToExtend_5 : decode cX7_bestToExtend 5 = .ok (.aload_n 0, 1) := by decide +kernel
theorem dX7_bestToExtend_6 : decode cX7_bestToExtend 6 = .ok (.getfield 39, 3) := by decide +kernel
theorem dX7_bestToExtend_9 : decode cX7_bestToExtend 9 = .ok (.if_icmp .ge 53, 3) := by decide +kernel
theorem dX7_bestToExtend_12 : decode cX7_bestToExtend 12 = .ok (.iload_n 2, 1) := by decide +kernel
theorem dX7_bestToExtend_13 : decode cX7_bestToExtend 13 = .ok (.aload_n 0, 1) := by decide +kernel
theorem dX7_bestToExtend_14 : decode cX7_bestToExtend 14 = .ok (.getfield 12, 3) := by decide +kernel
theorem dX7_bestToExtend_17 : decode cX7_bestToExtend 17 = .ok (.invokevirtual 67, 3) := by decide +kernel
theorem dX7_bestToExtend_20 : decode cX7_bestToExtend 20 = .ok (.if_icmp .ge 42, 3) := by decide +kernel
theorem dX7_bestToExtend_23 : decode cX7_bestToExtend 23 = .ok (.aload_n 0, 1) := by decide +kernel
theorem dX7_bestToExtend_24 : decode cX7_bestToExtend 24 = .ok (.getfield 12, 3) := by decide +kernel
theorem dX7_bestToExtend_27 : decode cX7_bestToExtend 27 = .ok (.iload_n 2, 1) := by decide +kernel
theorem dX7_bestToExtend_28 : decode cX7_bestToExtend 28 = .ok (.invokevirtual 71, 3) := by decide +kernel
theorem dX7_bestToExtend_31 : decode cX7_bestToExtend 31 = .ok (.checkcast 18, 3) := by decide +kernel
theorem dX7_bestToExtend_34 : decode cX7_bestToExtend 34 = .ok (.astore_n 3, 1) := by decide +kernel
theorem dX7_bestToExtend_35 : decode cX7_bestToExtend 35 = .ok (.aload_n 3, 1) := by decide +kernel
theorem dX7_bestToExtend_36 : decode cX7_bestToExtend 36 = .ok (.getfield 75, 3) := by decide +kernel
theorem dX7_bestToExtend_39 : decode cX7_bestToExtend 39 = .ok (.ifCond .ne 17, 3) := by decide +kernel
theorem dX7_bestToExtend_42 : decode cX7_bestToExtend 42 = .ok (.aload_n 1, 1) := by decide +kernel
theorem dX7_bestToExtend_43 : decode cX7_bestToExtend 43 = .ok (.ifnull 11, 3) := by decide +kernel
theorem dX7_bestToExtend_46 : decode cX7_bestToExtend 46 = .ok (.aload_n 3, 1) := by decide +kernel
theorem dX7_bestToExtend_47 : decode cX7_bestToExtend 47 = .ok (.aload_n 1, 1) := by decide +kernel
theorem dX7_bestToExtend_48 : decode cX7_bestToExtend 48 = .ok (.invokevirtual 79, 3) := by decide +kernel
theorem dX7_bestToExtend_51 : decode cX7_bestToExtend 51 = .ok (.ifCond .eq 5, 3) := by decide +kernel
theorem dX7_bestToExtend_54 : decode cX7_bestToExtend 54 = .ok (.aload_n 3, 1) := by decide +kernel
theorem dX7_bestToExtend_55 : decode cX7_bestToExtend 55 = .ok (.astore_n 1, 1) := by decide +kernel
theorem dX7_bestToExtend_56 : decode cX7_bestToExtend 56 = .ok (.iinc 2 1, 3) := by decide +kernel
theorem dX7_bestToExtend_59 : decode cX7_bestToExtend 59 = .ok (.goto (-55), 3) := by decide +kernel
theorem dX7_bestToExtend_62 : decode cX7_bestToExtend 62 = .ok (.aload_n 1, 1) := by decide +kernel
theorem dX7_bestToExtend_63 : decode cX7_bestToExtend 63 = .ok (.areturn, 1) := by decide +kernel
theorem dX7_extend_0 : decode cX7_extend 0 = .ok (.aload_n 1, 1) := by decide +kernel
theorem dX7_extend_1 : decode cX7_extend 1 = .ok (.iconst 1, 1) := by decide +kernel
theorem dX7_extend_2 : decode cX7_extend 2 = .ok (.putfield 75, 3) := by decide +kernel
theorem dX7_extend_5 : decode cX7_extend 5 = .ok (.iconst 0, 1) := by decide +kernel
theorem dX7_extend_6 : decode cX7_extend 6 = .ok (.istore 4, 2) := by decide +kernel
theorem dX7_extend_8 : decode cX7_extend 8 = .ok (.iload 4, 2) := by decide +kernel
theorem dX7_extend_10 : decode cX7_extend 10 = .ok (.aload_n 2, 1) := by decide +kernel
theorem dX7_extend_11 : decode cX7_extend 11 = .ok (.invokevirtual 67, 3) := by decide +kernel
theorem dX7_extend_14 : decode cX7_extend 14 = .ok (.if_icmp .ge 108, 3) := by decide +kernel
theorem dX7_extend_17 : decode cX7_extend 17 = .ok (.aload_n 0, 1) := by decide +kernel
theorem dX7_extend_18 : decode cX7_extend 18 = .ok (.getfield 39, 3) := by decide +kernel
theorem dX7_extend_21 : decode cX7_extend 21 = .ok (.aload_n 0, 1) := by decide +kernel
theorem dX7_extend_22 : decode cX7_extend 22 = .ok (.getfield 12, 3) := by decide +kernel
theorem dX7_extend_25 : decode cX7_extend 25 = .ok (.invokevirtual 67, 3) := by decide +kernel
theorem dX7_extend_28 : decode cX7_extend 28 = .ok (.if_icmp .ge 94, 3) := by decide +kernel
theorem dX7_extend_31 : decode cX7_extend 31 = .ok (.aload_n 2, 1) := by decide +kernel
theorem dX7_extend_32 : decode cX7_extend 32 = .ok (.iload 4, 2) := by decide +kernel
theorem dX7_extend_34 : decode cX7_extend 34 = .ok (.invokevirtual 71, 3) := by decide +kernel
theorem dX7_extend_37 : decode cX7_extend 37 = .ok (.checkcast 83, 3) := by decide +kernel
theorem dX7_extend_40 : decode cX7_extend 40 = .ok (.astore 5, 2) := by decide +kernel
theorem dX7_extend_42 : decode cX7_extend 42 = .ok (.aload 5, 2) := by decide +kernel
theorem dX7_extend_44 : decode cX7_extend 44 = .ok (.getfield 85, 3) := by decide +kernel
theorem dX7_extend_47 : decode cX7_extend 47 = .ok (.ifCond .eq 69, 3) := by decide +kernel
theorem dX7_extend_50 : decode cX7_extend 50 = .ok (.aload 5, 2) := by decide +kernel
theorem dX7_extend_52 : decode cX7_extend 52 = .ok (.getfield 88, 3) := by decide +kernel
theorem dX7_extend_55 : decode cX7_extend 55 = .ok (.aload_n 1, 1) := by decide +kernel
theorem dX7_extend_56 : decode cX7_extend 56 = .ok (.getfield 56, 3) := by decide +kernel
theorem dX7_extend_59 : decode cX7_extend 59 = .ok (.if_acmp .ne 57, 3) := by decide +kernel
theorem dX7_extend_62 : decode cX7_extend 62 = .ok (.aload_n 1, 1) := by decide +kernel
theorem dX7_extend_63 : decode cX7_extend 63 = .ok (.aload 5, 2) := by decide +kernel
theorem dX7_extend_65 : decode cX7_extend 65 = .ok (.getfield 91, 3) := by decide +kernel
theorem dX7_extend_68 : decode cX7_extend 68 = .ok (.invokevirtual 94, 3) := by decide +kernel
theorem dX7_extend_71 : decode cX7_extend 71 = .ok (.ifCond .ne 45, 3) := by decide +kernel
theorem dX7_extend_74 : decode cX7_extend 74 = .ok (.aload_n 0, 1) := by decide +kernel
theorem dX7_extend_75 : decode cX7_extend 75 = .ok (.getfield 12, 3) := by decide +kernel
theorem dX7_extend_78 : decode cX7_extend 78 = .ok (.aload_n 0, 1) := by decide +kernel
theorem dX7_extend_79 : decode cX7_extend 79 = .ok (.getfield 39, 3) := by decide +kernel
theorem dX7_extend_82 : decode cX7_extend 82 = .ok (.invokevirtual 71, 3) := by decide +kernel
theorem dX7_extend_85 : decode cX7_extend 85 = .ok (.checkcast 18, 3) := by decide +kernel
theorem dX7_extend_88 : decode cX7_extend 88 = .ok (.aload_n 1, 1) := by decide +kernel
theorem dX7_extend_89 : decode cX7_extend 89 = .ok (.aload 5, 2) := by decide +kernel
theorem dX7_extend_91 : decode cX7_extend 91 = .ok (.aload 5, 2) := by decide +kernel
theorem dX7_extend_93 : decode cX7_extend 93 = .ok (.iload_n 3, 1) := by decide +kernel
theorem dX7_extend_94 : decode cX7_extend 94 = .ok (.invokevirtual 98, 3) := by decide +kernel
theorem dX7_extend_97 : decode cX7_extend 97 = .ok (.aload 5, 2) := by decide +kernel
theorem dX7_extend_99 : decode cX7_extend 99 = .ok (.getfield 102, 3) := by decide +kernel
theorem dX7_extend_102 : decode cX7_extend 102 = .ok (.iadd, 1) := by decide +kernel
theorem dX7_extend_103 : decode cX7_extend 103 = .ok (.invokevirtual 105, 3) := by decide +kernel
theorem dX7_extend_106 : decode cX7_extend 106 = .ok (.aload_n 0, 1) := by decide +kernel
theorem dX7_extend_107 : decode cX7_extend 107 = .ok (.dup, 1) := by decide +kernel
theorem dX7_extend_108 : decode cX7_extend 108 = .ok (.getfield 39, 3) := by decide +kernel
theorem dX7_extend_111 : decode cX7_extend 111 = .ok (.iconst 1, 1) := by decide +kernel
theorem dX7_extend_112 : decode cX7_extend 112 = .ok (.iadd, 1) := by decide +kernel
theorem dX7_extend_113 : decode cX7_extend 113 = .ok (.putfield 39, 3) := by decide +kernel
theorem dX7_extend_116 : decode cX7_extend 116 = .ok (.iinc 4 1, 3) := by decide +kernel
theorem dX7_extend_119 : decode cX7_extend 119 = .ok (.goto (-111), 3) := by decide +kernel
theorem dX7_extend_122 : decode cX7_extend 122 = .ok (.return_, 1) := by decide +kernel
theorem dX8_init_0 : decode cX8_init 0 = .ok (.aload_n 0, 1) := by decide +kernel
theorem dX8_init_1 : decode cX8_init 1 = .ok (.invokespecial 3, 3) := by decide +kernel
theorem dX8_init_4 : decode cX8_init 4 = .ok (.return_, 1) := by decide +kernel
theorem dX8_tryAll_0 : decode cX8_tryAll 0 = .ok (.aload_n 0, 1) := by decide +kernel
theorem dX8_tryAll_1 : decode cX8_tryAll 1 = .ok (.aload_n 2, 1) := by decide +kernel
theorem dX8_tryAll_2 : decode cX8_tryAll 2 = .ok (.getfield 9, 3) := by decide +kernel
theorem dX8_tryAll_5 : decode cX8_tryAll 5 = .ok (.putfield 15, 3) := by decide +kernel
theorem dX8_tryAll_8 : decode cX8_tryAll 8 = .ok (.aload_n 0, 1) := by decide +kernel
theorem dX8_tryAll_9 : decode cX8_tryAll 9 = .ok (.aconst_null, 1) := by decide +kernel
theorem dX8_tryAll_10 : decode cX8_tryAll 10 = .ok (.putfield 20, 3) := by decide +kernel
theorem dX8_tryAll_13 : decode cX8_tryAll 13 = .ok (.aload_n 0, 1) := by decide +kernel
theorem dX8_tryAll_14 : decode cX8_tryAll 14 = .ok (.iconst 0, 1) := by decide +kernel
theorem dX8_tryAll_15 : decode cX8_tryAll 15 = .ok (.putfield 24, 3) := by decide +kernel
theorem dX8_tryAll_18 : decode cX8_tryAll 18 = .ok (.aload_n 0, 1) := by decide +kernel
theorem dX8_tryAll_19 : decode cX8_tryAll 19 = .ok (.iconst (-1), 1) := by decide +kernel
theorem dX8_tryAll_20 : decode cX8_tryAll 20 = .ok (.putfield 28, 3) := by decide +kernel
theorem dX8_tryAll_23 : decode cX8_tryAll 23 = .ok (.aload_n 0, 1) := by decide +kernel
theorem dX8_tryAll_24 : decode cX8_tryAll 24 = .ok (.aconst_null, 1) := by decide +kernel
theorem dX8_tryAll_25 : decode cX8_tryAll 25 = .ok (.putfield 31, 3) := by decide +kernel
theorem dX8_tryAll_28 : decode cX8_tryAll 28 = .ok (.aload_n 2, 1) := by decide +kernel
theorem dX8_tryAll_29 : decode cX8_tryAll 29 = .ok (.getfield 34, 3) := by decide +kernel
theorem dX8_tryAll_32 : decode cX8_tryAll 32 = .ok (.astore 4, 2) := by decide +kernel
theorem dX8_tryAll_34 : decode cX8_tryAll 34 = .ok (.aload_n 0, 1) := by decide +kernel
theorem dX8_tryAll_35 : decode cX8_tryAll 35 = .ok (.aload_n 1, 1) := by decide +kernel
theorem dX8_tryAll_36 : decode cX8_tryAll 36 = .ok (.aload 4, 2) := by decide +kernel
theorem dX8_tryAll_38 : decode cX8_tryAll 38 = .ok (.iload_n 3, 1) := by decide +kernel
theorem dX8_tryAll_39 : decode cX8_tryAll 39 = .ok (.aload 4, 2) := by decide +kernel
theorem dX8_tryAll_41 : decode cX8_tryAll 41 = .ok (.aload_n 2, 1) := by decide +kernel
theorem dX8_tryAll_42 : decode cX8_tryAll 42 = .ok (.getfield 37, 3) := by decide +kernel
theorem dX8_tryAll_45 : decode cX8_tryAll 45 = .ok (.iload_n 3, 1) := by decide +kernel
theorem dX8_tryAll_46 : decode cX8_tryAll 46 = .ok (.invokevirtual 40, 3) := by decide +kernel
theorem dX8_tryAll_49 : decode cX8_tryAll 49 = .ok (.iconst 1, 1) := by decide +kernel
theorem dX8_tryAll_50 : decode cX8_tryAll 50 = .ok (.aload 4, 2) := by decide +kernel
theorem dX8_tryAll_52 : decode cX8_tryAll 52 = .ok (.getfield 46, 3) := by decide +kernel
theorem dX8_tryAll_55 : decode cX8_tryAll 55 = .ok (.ishl, 1) := by decide +kernel
theorem dX8_tryAll_56 : decode cX8_tryAll 56 = .ok (.iconst 0, 1) := by decide +kernel
theorem dX8_tryAll_57 : decode cX8_tryAll 57 = .ok (.invokestatic 49, 3) := by decide +kernel
theorem dX8_tryAll_60 : decode cX8_tryAll 60 = .ok (.return_, 1) := by decide +kernel
theorem dX8_tryFrom_0 : decode cX8_tryFrom 0 = .ok (.aload_n 2, 1) := by decide +kernel
theorem dX8_tryFrom_1 : decode cX8_tryFrom 1 = .ok (.aload_n 0, 1) := by decide +kernel
theorem dX8_tryFrom_2 : decode cX8_tryFrom 2 = .ok (.getfield 15, 3) := by decide +kernel
theorem dX8_tryFrom_5 : decode cX8_tryFrom 5 = .ok (.if_acmp .ne 11, 3) := by decide +kernel
theorem dX8_tryFrom_8 : decode cX8_tryFrom 8 = .ok (.aload_n 0, 1) := by decide +kernel
theorem dX8_tryFrom_9 : decode cX8_tryFrom 9 = .ok (.iload_n 3, 1) := by decide +kernel
theorem dX8_tryFrom_10 : decode cX8_tryFrom 10 = .ok (.iload 6, 2) := by decide +kernel
theorem dX8_tryFrom_12 : decode cX8_tryFrom 12 = .ok (.invokevirtual 53, 3) := by decide +kernel
theorem dX8_tryFrom_15 : decode cX8_tryFrom 15 = .ok (.return_, 1) := by decide +kernel
theorem dX8_tryFrom_16 : decode cX8_tryFrom 16 = .ok (.iload 6, 2) := by decide +kernel
theorem dX8_tryFrom_18 : decode cX8_tryFrom 18 = .ok (.iconst 5, 1) := by decide +kernel
theorem dX8_tryFrom_19 : decode cX8_tryFrom 19 = .ok (.if_icmp .lt 4, 3) := by decide +kernel
theorem dX8_tryFrom_22 : decode cX8_tryFrom 22 = .ok (.return_, 1) := by decide +kernel
theorem dX8_tryFrom_23 : decode cX8_tryFrom 23 = .ok (.iconst 0, 1) := by decide +kernel
theorem dX8_tryFrom_24 : decode cX8_tryFrom 24 = .ok (.istore 7, 2) := by decide +kernel
theorem dX8_tryFrom_26 : decode cX8_tryFrom 26 = .ok (.iload 7, 2) := by decide +kernel
theorem dX8_tryFrom_28 : decode cX8_tryFrom 28 = .ok (.aload_n 1, 1) := by decide +kernel
theorem dX8_tryFrom_29 : decode cX8_tryFrom 29 = .ok (.invokevirtual 57, 3) := by decide +kernel
theorem dX8_tryFrom_32 : decode cX8_tryFrom 32 = .ok (.if_icmp .ge 116, 3) := by decide +kernel
theorem dX8_tryFrom_35 : decode cX8_tryFrom 35 = .ok (.aload_n 1, 1) := by decide +kernel
theorem dX8_tryFrom_36 : decode cX8_tryFrom 36 = .ok (.iload 7, 2) := by decide +kernel
theorem dX8_tryFrom_38 : decode cX8_tryFrom 38 = .ok (.invokevirtual 63, 3) := by decide +kernel
theorem dX8_tryFrom_41 : decode cX8_tryFrom 41 = .ok (.checkcast 67, 3) := by decide +kernel
theorem dX8_tryFrom_44 : decode cX8_tryFrom 44 = .ok (.astore 8, 2) := by decide +kernel
theorem dX8_tryFrom_46 : decode cX8_tryFrom 46 = .ok (.iconst 1, 1) := by decide +kernel
theorem dX8_tryFrom_47 : decode cX8_tryFrom 47 = .ok (.aload 8, 2) := by decide +kernel
theorem dX8_tryFrom_49 : decode cX8_tryFrom 49 = .ok (.getfield 69, 3) := by decide +kernel
theorem dX8_tryFrom_52 : decode cX8_tryFrom 52 = .ok (.getfield 46, 3) := by decide +kernel
theorem dX8_tryFrom_55 : decode cX8_tryFrom 55 = .ok (.ishl, 1) := by decide +kernel
theorem dX8_tryFrom_56 : decode cX8_tryFrom 56 = .ok (.istore 9, 2) := by decide +kernel
theorem dX8_tryFrom_58 : decode cX8_tryFrom 58 = .ok (.aload 8, 2) := by decide +kernel
theorem dX8_tryFrom_60 : decode cX8_tryFrom 60 = .ok (.getfield 72, 3) := by decide +kernel
theorem dX8_tryFrom_63 : decode cX8_tryFrom 63 = .ok (.ifCond .eq 79, 3) := by decide +kernel
theorem dX8_tryFrom_66 : decode cX8_tryFrom 66 = .ok (.aload 8, 2) := by decide +kernel
theorem dX8_tryFrom_68 : decode cX8_tryFrom 68 = .ok (.getfield 76, 3) := by decide +kernel
theorem dX8_tryFrom_71 : decode cX8_tryFrom 71 = .ok (.aload_n 2, 1) := by decide +kernel
theorem dX8_tryFrom_72 : decode cX8_tryFrom 72 = .ok (.if_acmp .ne 70, 3) := by decide +kernel
theorem dX8_tryFrom_75 : decode cX8_tryFrom 75 = .ok (.iload 5, 2) := by decide +kernel
theorem dX8_tryFrom_77 : decode cX8_tryFrom 77 = .ok (.iload 9, 2) := by decide +kernel
theorem dX8_tryFrom_79 : decode cX8_tryFrom 79 = .ok (.iand, 1) := by decide +kernel
theorem dX8_tryFrom_80 : decode cX8_tryFrom 80 = .ok (.ifCond .ne 62, 3) := by decide +kernel
theorem dX8_tryFrom_83 : decode cX8_tryFrom 83 = .ok (.iload 6, 2) := by decide +kernel
theorem dX8_tryFrom_85 : decode cX8_tryFrom 85 = .ok (.ifCond .ne 9, 3) := by decide +kernel
theorem dX8_tryFrom_88 : decode cX8_tryFrom 88 = .ok (.aload_n 0, 1) := by decide +kernel
theorem dX8_tryFrom_89 : decode cX8_tryFrom 89 = .ok (.aload 8, 2) := by decide +kernel
theorem dX8_tryFrom_91 : decode cX8_tryFrom 91 = .ok (.putfield 20, 3) := by decide +kernel
theorem dX8_tryFrom_94 : decode cX8_tryFrom 94 = .ok (.aload 8, 2) := by decide +kernel
theorem dX8_tryFrom_96 : decode cX8_tryFrom 96 = .ok (.iload 4, 2) := by decide +kernel
theorem dX8_tryFrom_98 : decode cX8_tryFrom 98 = .ok (.invokevirtual 79, 3) := by decide +kernel
theorem dX8_tryFrom_101 : decode cX8_tryFrom 101 = .ok (.aload 8, 2) := by decide +kernel
theorem dX8_tryFrom_103 : decode cX8_tryFrom 103 = .ok (.getfield 83, 3) := by decide +kernel
theorem dX8_tryFrom_106 : decode cX8_tryFrom 106 = .ok (.iadd, 1) := by decide +kernel
theorem dX8_tryFrom_107 : decode cX8_tryFrom 107 = .ok (.istore 10, 2) := by decide +kernel
theorem dX8_tryFrom_109 : decode cX8_tryFrom 109 = .ok (.aload_n 0, 1) := by decide +kernel
theorem dX8_tryFrom_110 : decode cX8_tryFrom 110 = .ok (.aload_n 1, 1) := by decide +kernel
theorem dX8_tryFrom_111 : decode cX8_tryFrom 111 = .ok (.aload 8, 2) := by decide +kernel
theorem dX8_tryFrom_113 : decode cX8_tryFrom 113 = .ok (.getfield 69, 3) := by decide +kernel
theorem dX8_tryFrom_116 : decode cX8_tryFrom 116 = .ok (.iload 10, 2) := by decide +kernel
theorem dX8_tryFrom_118 : decode cX8_tryFrom 118 = .ok (.aload 8, 2) := by decide +kernel
theorem dX8_tryFrom_120 : decode cX8_tryFrom 120 = .ok (.getfield 69, 3) := by decide +kernel
theorem dX8_tryFrom_123 : decode cX8_tryFrom 123 = .ok (.iload 10, 2) := by decide +kernel
theorem dX8_tryFrom_125 : decode cX8_tryFrom 125 = .ok (.iload 10, 2) := by decide +kernel
theorem dX8_tryFrom_127 : decode cX8_tryFrom 127 = .ok (.invokevirtual 40, 3) := by decide +kernel
theorem dX8_tryFrom_130 : decode cX8_tryFrom 130 = .ok (.iload 5, 2) := by decide +kernel
theorem dX8_tryFrom_132 : decode cX8_tryFrom 132 = .ok (.iload 9, 2) := by decide +kernel
theorem dX8_tryFrom_134 : decode cX8_tryFrom 134 = .ok (.ior, 1) := by decide +kernel
theorem dX8_tryFrom_135 : decode cX8_tryFrom 135 = .ok (.iload 6, 2) := by decide +kernel
theorem dX8_tryFrom_137 : decode cX8_tryFrom 137 = .ok (.iconst 1, 1) := by decide +kernel
theorem dX8_tryFrom_138 : decode cX8_tryFrom 138 = .ok (.iadd, 1) := by decide +kernel
theorem dX8_tryFrom_139 : decode cX8_tryFrom 139 = .ok (.invokestatic 49, 3) := by decide +kernel
theorem dX8_tryFrom_142 : decode cX8_tryFrom 142 = .ok (.iinc 7 1, 3) := by decide +kernel
theorem dX8_tryFrom_145 : decode cX8_tryFrom 145 = .ok (.goto (-119), 3) := by decide +kernel
theorem dX8_tryFrom_148 : decode cX8_tryFrom 148 = .ok (.return_, 1) := by decide +kernel
theorem dX8_compare_0 : decode cX8_compare 0 = .ok (.aload_n 0, 1) := by decide +kernel
theorem dX8_compare_1 : decode cX8_compare 1 = .ok (.getfield 28, 3) := by decide +kernel
theorem dX8_compare_4 : decode cX8_compare 4 = .ok (.iconst (-1), 1) := by decide +kernel
theorem dX8_compare_5 : decode cX8_compare 5 = .ok (.if_icmp .eq 27, 3) := by decide +kernel
theorem dX8_compare_8 : decode cX8_compare 8 = .ok (.iload_n 1, 1) := by decide +kernel
theorem dX8_compare_9 : decode cX8_compare 9 = .ok (.aload_n 0, 1) := by decide +kernel
theorem dX8_compare_10 : decode cX8_compare 10 = .ok (.getfield 28, 3) := by decide +kernel
theorem dX8_compare_13 : decode cX8_compare 13 = .ok (.if_icmp .lt 19, 3) := by decide +kernel
theorem dX8_compare_16 : decode cX8_compare 16 = .ok (.iload_n 1, 1) := by decide +kernel
theorem dX8_compare_17 : decode cX8_compare 17 = .ok (.aload_n 0, 1) := by decide +kernel
theorem dX8_compare_18 : decode cX8_compare 18 = .ok (.getfield 28, 3) := by decide +kernel
theorem dX8_compare_21 : decode cX8_compare 21 = .ok (.if_icmp .ne 29, 3) := by decide +kernel
theorem dX8_compare_24 : decode cX8_compare 24 = .ok (.iload_n 2, 1) := by decide +kernel
theorem dX8_compare_25 : decode cX8_compare 25 = .ok (.aload_n 0, 1) := by decide +kernel
theorem dX8_compare_26 : decode cX8_compare 26 = .ok (.getfield 24, 3) := by decide +kernel
theorem dX8_compare_29 : decode cX8_compare 29 = .ok (.if_icmp .ge 21, 3) := by decide +kernel
theorem dX8_compare_32 : decode cX8_compare 32 = .ok (.aload_n 0, 1) := by decide +kernel
theorem dX8_compare_33 : decode cX8_compare 33 = .ok (.iload_n 1, 1) := by decide +kernel
theorem dX8_compare_34 : decode cX8_compare 34 = .ok (.putfield 28, 3) := by decide +kernel
theorem dX8_compare_37 : decode cX8_compare 37 = .ok (.aload_n 0, 1) := by decide +kernel
theorem dX8_compare_38 : decode cX8_compare 38 = .ok (.iload_n 2, 1) := by decide +kernel
theorem dX8_compare_39 : decode cX8_compare 39 = .ok (.putfield 24, 3) := by decide +kernel
theorem dX8_compare_42 : decode cX8_compare 42 = .ok (.aload_n 0, 1) := by decide +kernel
theorem dX8_compare_43 : decode cX8_compare 43 = .ok (.aload_n 0, 1) := by decide +kernel
theorem dX8_compare_44 : decode cX8_compare 44 = .ok (.getfield 20, 3) := by decide +kernel
theorem dX8_compare_47 : decode cX8_compare 47 = .ok (.putfield 31, 3) := by decide +kernel
theorem dX8_compare_50 : decode cX8_compare 50 = .ok (.return_, 1) := by decide +kernel
theorem dX9_init_0 : decode cX9_init 0 = .ok (.aload_n 0, 1) := by decide +kernel
theorem dX9_init_1 : decode cX9_init 1 = .ok (.invokespecial 3, 3) := by decide +kernel
theorem dX9_init_4 : decode cX9_init 4 = .ok (.aload_n 0, 1) := by decide +kernel
theorem dX9_init_5 : decode cX9_init 5 = .ok (.bipush 6, 2) := by decide +kernel
theorem dX9_init_7 : decode cX9_init 7 = .ok (.newarray .int, 2) := by decide +kernel
theorem dX9_init_9 : decode cX9_init 9 = .ok (.putfield 9, 3) := by decide +kernel
theorem dX9_init_12 : decode cX9_init 12 = .ok (.aload_n 0, 1) := by decide +kernel
theorem dX9_init_13 : decode cX9_init 13 = .ok (.bipush 6, 2) := by decide +kernel
theorem dX9_init_15 : decode cX9_init 15 = .ok (.newarray .int, 2) := by decide +kernel
theorem dX9_init_17 : decode cX9_init 17 = .ok (.putfield 15, 3) := by decide +kernel
theorem dX9_init_20 : decode cX9_init 20 = .ok (.return_, 1) := by decide +kernel
