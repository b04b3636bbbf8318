theorem try_1 : decode cX2_put 0 = .ok (.aload_n 0, 1) := dX2_put_0
