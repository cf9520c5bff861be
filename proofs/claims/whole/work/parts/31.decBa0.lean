/-! decode rows, written by gen/dec.py -/
theorem d_Ba_init_0 : decode Y_Ba_init.2.2.1 0 = .ok (.aload_n 0, 1) := by decide +kernel
theorem d_Ba_init_1 : decode Y_Ba_init.2.2.1 1 = .ok (.invokespecial 3, 3) := by decide +kernel
theorem d_Ba_init_4 : decode Y_Ba_init.2.2.1 4 = .ok (.aload_n 0, 1) := by decide +kernel
theorem d_Ba_init_5 : decode Y_Ba_init.2.2.1 5 = .ok (.iconst 0, 1) := by decide +kernel
theorem d_Ba_init_6 : decode Y_Ba_init.2.2.1 6 = .ok (.putfield 9, 3) := by decide +kernel
theorem d_Ba_init_9 : decode Y_Ba_init.2.2.1 9 = .ok (.aload_n 0, 1) := by decide +kernel
theorem d_Ba_init_10 : decode Y_Ba_init.2.2.1 10 = .ok (.iconst 0, 1) := by decide +kernel
theorem d_Ba_init_11 : decode Y_Ba_init.2.2.1 11 = .ok (.putfield 15, 3) := by decide +kernel
theorem d_Ba_init_14 : decode Y_Ba_init.2.2.1 14 = .ok (.aload_n 0, 1) := by decide +kernel
theorem d_Ba_init_15 : decode Y_Ba_init.2.2.1 15 = .ok (.bipush 6, 2) := by decide +kernel
theorem d_Ba_init_17 : decode Y_Ba_init.2.2.1 17 = .ok (.newarray .int, 2) := by decide +kernel
theorem d_Ba_init_19 : decode Y_Ba_init.2.2.1 19 = .ok (.putfield 18, 3) := by decide +kernel
theorem d_Ba_init_22 : decode Y_Ba_init.2.2.1 22 = .ok (.aload_n 0, 1) := by decide +kernel
theorem d_Ba_init_23 : decode Y_Ba_init.2.2.1 23 = .ok (.bipush 6, 2) := by decide +kernel
theorem d_Ba_init_25 : decode Y_Ba_init.2.2.1 25 = .ok (.newarray .int, 2) := by decide +kernel
theorem d_Ba_init_27 : decode Y_Ba_init.2.2.1 27 = .ok (.putfield 22, 3) := by decide +kernel
theorem d_Ba_init_30 : decode Y_Ba_init.2.2.1 30 = .ok (.return_, 1) := by decide +kernel
theorem d_Ba_put_0 : decode Y_Ba_put.2.2.1 0 = .ok (.aload_n 0, 1) := by decide +kernel
theorem d_Ba_put_1 : decode Y_Ba_put.2.2.1 1 = .ok (.getfield 18, 3) := by decide +kernel
theorem d_Ba_put_4 : decode Y_Ba_put.2.2.1 4 = .ok (.aload_n 0, 1) := by decide +kernel
theorem d_Ba_put_5 : decode Y_Ba_put.2.2.1 5 = .ok (.getfield 15, 3) := by decide +kernel
theorem d_Ba_put_8 : decode Y_Ba_put.2.2.1 8 = .ok (.iload_n 1, 1) := by decide +kernel
theorem d_Ba_put_9 : decode Y_Ba_put.2.2.1 9 = .ok (.iastore, 1) := by decide +kernel
theorem d_Ba_put_10 : decode Y_Ba_put.2.2.1 10 = .ok (.aload_n 0, 1) := by decide +kernel
theorem d_Ba_put_11 : decode Y_Ba_put.2.2.1 11 = .ok (.getfield 22, 3) := by decide +kernel
theorem d_Ba_put_14 : decode Y_Ba_put.2.2.1 14 = .ok (.aload_n 0, 1) := by decide +kernel
theorem d_Ba_put_15 : decode Y_Ba_put.2.2.1 15 = .ok (.getfield 15, 3) := by decide +kernel
theorem d_Ba_put_18 : decode Y_Ba_put.2.2.1 18 = .ok (.iload_n 2, 1) := by decide +kernel
theorem d_Ba_put_19 : decode Y_Ba_put.2.2.1 19 = .ok (.iastore, 1) := by decide +kernel
theorem d_Ba_put_20 : decode Y_Ba_put.2.2.1 20 = .ok (.aload_n 0, 1) := by decide +kernel
theorem d_Ba_put_21 : decode Y_Ba_put.2.2.1 21 = .ok (.dup, 1) := by decide +kernel
theorem d_Ba_put_22 : decode Y_Ba_put.2.2.1 22 = .ok (.getfield 15, 3) := by decide +kernel
theorem d_Ba_put_25 : decode Y_Ba_put.2.2.1 25 = .ok (.iconst 1, 1) := by decide +kernel
theorem d_Ba_put_26 : decode Y_Ba_put.2.2.1 26 = .ok (.iadd, 1) := by decide +kernel
theorem d_Ba_put_27 : decode Y_Ba_put.2.2.1 27 = .ok (.putfield 15, 3) := by decide +kernel
theorem d_Ba_put_30 : decode Y_Ba_put.2.2.1 30 = .ok (.aload_n 0, 1) := by decide +kernel
theorem d_Ba_put_31 : decode Y_Ba_put.2.2.1 31 = .ok (.getfield 15, 3) := by decide +kernel
theorem d_Ba_put_34 : decode Y_Ba_put.2.2.1 34 = .ok (.iconst 1, 1) := by decide +kernel
theorem d_Ba_put_35 : decode Y_Ba_put.2.2.1 35 = .ok (.isub, 1) := by decide +kernel
theorem d_Ba_put_36 : decode Y_Ba_put.2.2.1 36 = .ok (.ireturn, 1) := by decide +kernel
