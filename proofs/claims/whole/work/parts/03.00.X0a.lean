theorem dX0_init_0 : decode cX0_init 0 = .ok (.aload_n 0, 1) := by decide +kernel
theorem dX0_init_1 : decode cX0_init 1 = .ok (.invokespecial 3, 3) := by decide +kernel
theorem dX0_init_4 : decode cX0_init 4 = .ok (.aload_n 0, 1) := by decide +kernel
theorem dX0_init_5 : decode cX0_init 5 = .ok (.bipush 32, 2) := by decide +kernel
theorem dX0_init_7 : decode cX0_init 7 = .ok (.newarray .long, 2) := by decide +kernel
theorem dX0_init_9 : decode cX0_init 9 = .ok (.putfield 9, 3) := by decide +kernel
theorem dX0_init_12 : decode cX0_init 12 = .ok (.return_, 1) := by decide +kernel
theorem dX0_clear_0 : decode cX0_clear 0 = .ok (.aload_n 0, 1) := by decide +kernel
theorem dX0_clear_1 : decode cX0_clear 1 = .ok (.iconst 0, 1) := by decide +kernel
theorem dX0_clear_2 : decode cX0_clear 2 = .ok (.putfield 15, 3) := by decide +kernel
theorem dX0_clear_5 : decode cX0_clear 5 = .ok (.return_, 1) := by decide +kernel
theorem dX0_add_0 : decode cX0_add 0 = .ok (.aload_n 0, 1) := by decide +kernel
theorem dX0_add_1 : decode cX0_add 1 = .ok (.getfield 15, 3) := by decide +kernel
theorem dX0_add_4 : decode cX0_add 4 = .ok (.bipush 32, 2) := by decide +kernel
theorem dX0_add_6 : decode cX0_add 6 = .ok (.if_icmp .ge 23, 3) := by decide +kernel
theorem dX0_add_9 : decode cX0_add 9 = .ok (.aload_n 0, 1) := by decide +kernel
theorem dX0_add_10 : decode cX0_add 10 = .ok (.getfield 9, 3) := by decide +kernel
theorem dX0_add_13 : decode cX0_add 13 = .ok (.aload_n 0, 1) := by decide +kernel
theorem dX0_add_14 : decode cX0_add 14 = .ok (.getfield 15, 3) := by decide +kernel
theorem dX0_add_17 : decode cX0_add 17 = .ok (.lload_n 1, 1) := by decide +kernel
theorem dX0_add_18 : decode cX0_add 18 = .ok (.lastore, 1) := by decide +kernel
theorem dX0_add_19 : decode cX0_add 19 = .ok (.aload_n 0, 1) := by decide +kernel
theorem dX0_add_20 : decode cX0_add 20 = .ok (.dup, 1) := by decide +kernel
theorem dX0_add_21 : decode cX0_add 21 = .ok (.getfield 15, 3) := by decide +kernel
theorem dX0_add_24 : decode cX0_add 24 = .ok (.iconst 1, 1) := by decide +kernel
theorem dX0_add_25 : decode cX0_add 25 = .ok (.iadd, 1) := by decide +kernel
theorem dX0_add_26 : decode cX0_add 26 = .ok (.putfield 15, 3) := by decide +kernel
theorem dX0_add_29 : decode cX0_add 29 = .ok (.return_, 1) := by decide +kernel
set_option maxRecDepth 20000 in
theorem ggX0_tell_X0_clear : GoodIn wsX0_tell wsX0_clear := goodIn_r _ [5, 6, 12, 13] (by decide +kernel) (by decide +kernel)
set_option maxRecDepth 20000 in
theorem gX0_tell_X0_clear : GoodIn wsX0_tell (wsV RX0 19 RX0 yX0_clear wsX0_clear) := goodIn_app (goodIn_of _ (by decide +kernel)) ggX0_tell_X0_clear
set_option maxRecDepth 20000 in
theorem ggX0_tell_X0_add : GoodIn wsX0_tell wsX0_add := goodIn_r _ [10, 6, 11, 12, 13] (by decide +kernel) (by decide +kernel)
set_option maxRecDepth 20000 in
theorem gX0_tell_X0_add : GoodIn wsX0_tell (wsV RX0 22 RX0 yX0_add wsX0_add) := goodIn_app (goodIn_of _ (by decide +kernel)) ggX0_tell_X0_add
theorem dX0_tell_0 : decode cX0_tell 0 = .ok (.aload_n 0, 1) := by decide +kernel
theorem dX0_tell_1 : decode cX0_tell 1 = .ok (.invokevirtual 19, 3) := by decide +kernel
theorem dX0_tell_4 : decode cX0_tell 4 = .ok (.aload_n 0, 1) := by decide +kernel
theorem dX0_tell_5 : decode cX0_tell 5 = .ok (.lload_n 1, 1) := by decide +kernel
theorem dX0_tell_6 : decode cX0_tell 6 = .ok (.invokevirtual 22, 3) := by decide +kernel
theorem dX0_tell_9 : decode cX0_tell 9 = .ok (.return_, 1) := by decide +kernel
set_option maxRecDepth 20000 in
theorem ggX0_tell__X0_tell : GoodIn wsX0_tell_ wsX0_tell := goodIn_r _ [5, 6, 7, 8, 4, 9, 10, 11, 12, 13, 14, 15, 16, 17] (by decide +kernel) (by decide +kernel)
set_option maxRecDepth 20000 in
theorem gX0_tell__X0_tell : GoodIn wsX0_tell_ (wsV RX0 26 RX0 yX0_tell wsX0_tell) := goodIn_app (goodIn_of _ (by decide +kernel)) ggX0_tell__X0_tell
set_option maxRecDepth 20000 in
theorem ggX0_tell__X0_add : GoodIn wsX0_tell_ wsX0_add := goodIn_r _ [14, 10, 15, 16, 17] (by decide +kernel) (by decide +kernel)
set_option maxRecDepth 20000 in
theorem gX0_tell__X0_add : GoodIn wsX0_tell_ (wsV RX0 22 RX0 yX0_add wsX0_add) := goodIn_app (goodIn_of _ (by decide +kernel)) ggX0_tell__X0_add
theorem dX0_tell__0 : decode cX0_tell_ 0 = .ok (.aload_n 0, 1) := by decide +kernel
theorem dX0_tell__1 : decode cX0_tell_ 1 = .ok (.lload_n 1, 1) := by decide +kernel
theorem dX0_tell__2 : decode cX0_tell_ 2 = .ok (.invokevirtual 26, 3) := by decide +kernel
theorem dX0_tell__5 : decode cX0_tell_ 5 = .ok (.aload_n 0, 1) := by decide +kernel
theorem dX0_tell__6 : decode cX0_tell_ 6 = .ok (.lload_n 3, 1) := by decide +kernel
theorem dX0_tell__7 : decode cX0_tell_ 7 = .ok (.invokevirtual 22, 3) := by decide +kernel
theorem dX0_tell__10 : decode cX0_tell_ 10 = .ok (.return_, 1) := by decide +kernel
set_option maxRecDepth 20000 in
theorem ggX0_tell___X0_tell_ : GoodIn wsX0_tell__ wsX0_tell_ := goodIn_r _ [5, 6, 7, 8, 4, 9, 10, 11, 12, 13, 14, 15, 16, 17, 18, 19, 20, 21] (by decide +kernel) (by decide +kernel)
set_option maxRecDepth 20000 in
theorem gX0_tell___X0_tell_ : GoodIn wsX0_tell__ (wsV RX0 29 RX0 yX0_tell_ wsX0_tell_) := goodIn_app (goodIn_of _ (by decide +kernel)) ggX0_tell___X0_tell_
set_option maxRecDepth 20000 in
theorem ggX0_tell___X0_add : GoodIn wsX0_tell__ wsX0_add := goodIn_r _ [18, 14, 19, 20, 21] (by decide +kernel) (by decide +kernel)
set_option maxRecDepth 20000 in
theorem gX0_tell___X0_add : GoodIn wsX0_tell__ (wsV RX0 22 RX0 yX0_add wsX0_add) := goodIn_app (goodIn_of _ (by decide +kernel)) ggX0_tell___X0_add
theorem dX0_tell___0 : decode cX0_tell__ 0 = .ok (.aload_n 0, 1) := by decide +kernel
theorem dX0_tell___1 : decode cX0_tell__ 1 = .ok (.lload_n 1, 1) := by decide +kernel
theorem dX0_tell___2 : decode cX0_tell__ 2 = .ok (.lload_n 3, 1) := by decide +kernel
theorem dX0_tell___3 : decode cX0_tell__ 3 = .ok (.invokevirtual 29, 3) := by decide +kernel
theorem dX0_tell___6 : decode cX0_tell__ 6 = .ok (.aload_n 0, 1) := by decide +kernel
theorem dX0_tell___7 : decode cX0_tell__ 7 = .ok (.lload 5, 2) := by decide +kernel
theorem dX0_tell___9 : decode cX0_tell__ 9 = .ok (.invokevirtual 22, 3) := by decide +kernel
theorem dX0_tell___12 : decode cX0_tell__ 12 = .ok (.return_, 1) := by decide +kernel
