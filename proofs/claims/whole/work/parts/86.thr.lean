/-! the words of the throws of the class (mkthr.py) -/
set_option maxRecDepth 100000 in
theorem thA_ia : ThA "java/lang/IllegalArgumentException" (vx_atS RX5 71 "java/lang/IllegalArgumentException" exN) := tha_of [8, 490, 499, 504, 507, 509, 491, 492, 28, 29, 493, 498, 505, 525, 480, 526, 482, 527, 484, 494, 496, 486, 521, 522, 524, 486, 512, 513, 514, 515, 515, 516, 517, 518, 518, 519, 520, 521, 511, 469, 477, 478, 479, 481, 483, 485, 489, 488, 487] (by decide +kernel) (by decide +kernel) (by decide +kernel)
theorem thK_ia : Cond.classLink RX5 67 "java/lang/IllegalArgumentException" ∈ lwU := inU 468 (by decide +kernel) rfl
theorem thI_ia : Cond.initialized "java/lang/IllegalArgumentException" ∈ lwU := inU 11 (by decide +kernel) rfl
set_option maxRecDepth 100000 in
theorem thA_io : ThA "java/lang/IndexOutOfBoundsException" (vx_atS RX5 139 "java/lang/IndexOutOfBoundsException" exN) := tha_of [8, 490, 499, 504, 507, 509, 491, 492, 28, 29, 493, 498, 505, 525, 480, 526, 482, 527, 484, 494, 496, 486, 521, 522, 524, 486, 711, 712, 713, 515, 515, 516, 517, 518, 518, 519, 520, 521, 710, 701, 703, 502, 704, 705, 706, 707, 489, 488, 708] (by decide +kernel) (by decide +kernel) (by decide +kernel)
theorem thK_io : Cond.classLink RX5 135 "java/lang/IndexOutOfBoundsException" ∈ lwU := inU 700 (by decide +kernel) rfl
theorem thI_io : Cond.initialized "java/lang/IndexOutOfBoundsException" ∈ lwU := inU 19 (by decide +kernel) rfl
set_option maxRecDepth 100000 in
theorem thA_is : ThA "java/lang/IllegalStateException" (vx_atS RX5 205 "java/lang/IllegalStateException" exN) := tha_of [8, 490, 499, 504, 507, 509, 491, 492, 28, 29, 493, 498, 505, 525, 480, 526, 482, 527, 484, 494, 496, 486, 521, 522, 524, 486, 857, 858, 859, 515, 515, 516, 517, 518, 518, 519, 520, 521, 856, 847, 849, 501, 850, 851, 852, 853, 489, 488, 854] (by decide +kernel) (by decide +kernel) (by decide +kernel)
theorem thK_is : Cond.classLink RX5 201 "java/lang/IllegalStateException" ∈ lwU := inU 846 (by decide +kernel) rfl
theorem thI_is : Cond.initialized "java/lang/IllegalStateException" ∈ lwU := inU 21 (by decide +kernel) rfl
set_option maxRecDepth 100000 in
theorem thA_ns : ThA nsE (nx_at RX5 178) := tha_of [8, 490, 499, 504, 507, 509, 491, 492, 28, 29, 493, 498, 505, 525, 480, 526, 482, 527, 484, 494, 496, 486, 521, 522, 524, 486, 814, 815, 816, 515, 515, 516, 517, 518, 518, 519, 520, 521, 813, 804, 806, 503, 807, 808, 809, 810, 489, 488, 811] (by decide +kernel) (by decide +kernel) (by decide +kernel)
theorem thK_ns : Cond.classLink RX5 174 nsE ∈ lwU := inU 803 (by decide +kernel) rfl
theorem thI_ns : Cond.initialized nsE ∈ lwU := inU 20 (by decide +kernel) rfl
