/-! EVERY BLOCK AGAINST THE BYTES -/
set_option maxRecDepth 100000 in
theorem zk_0 : zchkM 0 = true := by decide +kernel
set_option maxRecDepth 100000 in
theorem zk_1 : zchkM 1 = true := by decide +kernel
set_option maxRecDepth 100000 in
theorem zk_2 : zchkM 2 = true := by decide +kernel
set_option maxRecDepth 100000 in
theorem zk_3 : zchkM 3 = true := by decide +kernel
set_option maxRecDepth 100000 in
theorem zk_4 : zchkM 4 = true := by decide +kernel
set_option maxRecDepth 100000 in
theorem zk_5 : zchkM 5 = true := by decide +kernel
set_option maxRecDepth 100000 in
theorem zk_6 : zchkM 6 = true := by decide +kernel
set_option maxRecDepth 100000 in
theorem zk_7 : zchkM 7 = true := by decide +kernel
set_option maxRecDepth 100000 in
theorem zk_8 : zchkM 8 = true := by decide +kernel
set_option maxRecDepth 100000 in
theorem zk_9 : zchkM 9 = true := by decide +kernel
set_option maxRecDepth 100000 in
theorem zk_10 : zchkM 10 = true := by decide +kernel
set_option maxRecDepth 100000 in
theorem zk_11 : zchkM 11 = true := by decide +kernel
set_option maxRecDepth 100000 in
theorem zk_12 : zchkM 12 = true := by decide +kernel
set_option maxRecDepth 100000 in
theorem zk_13 : zchkM 13 = true := by decide +kernel
set_option maxRecDepth 100000 in
theorem zk_14 : zchkM 14 = true := by decide +kernel
set_option maxRecDepth 100000 in
theorem zk_15 : zchkM 15 = true := by decide +kernel
set_option maxRecDepth 100000 in
theorem zk_16 : zchkM 16 = true := by decide +kernel
set_option maxRecDepth 100000 in
theorem zk_17 : zchkM 17 = true := by decide +kernel
set_option maxRecDepth 100000 in
theorem zk_18 : zchkM 18 = true := by decide +kernel
set_option maxRecDepth 100000 in
theorem zk_19 : zchkM 19 = true := by decide +kernel
set_option maxRecDepth 100000 in
theorem zk_20 : zchkM 20 = true := by decide +kernel
set_option maxRecDepth 100000 in
theorem zk_21 : zchkM 21 = true := by decide +kernel
set_option maxRecDepth 100000 in
theorem zk_22 : zchkM 22 = true := by decide +kernel
set_option maxRecDepth 100000 in
theorem zk_23 : zchkM 23 = true := by decide +kernel
set_option maxRecDepth 100000 in
theorem zk_24 : zchkM 24 = true := by decide +kernel
set_option maxRecDepth 100000 in
theorem zk_25 : zchkM 25 = true := by decide +kernel
set_option maxRecDepth 100000 in
theorem zk_26 : zchkM 26 = true := by decide +kernel
set_option maxRecDepth 100000 in
theorem zk_27 : zchkM 27 = true := by decide +kernel
set_option maxRecDepth 100000 in
theorem zk_28 : zchkM 28 = true := by decide +kernel
set_option maxRecDepth 100000 in
theorem zk_29 : zchkM 29 = true := by decide +kernel
set_option maxRecDepth 100000 in
theorem zk_30 : zchkM 30 = true := by decide +kernel
set_option maxRecDepth 100000 in
theorem zk_31 : zchkM 31 = true := by decide +kernel
set_option maxRecDepth 100000 in
theorem zk_32 : zchkM 32 = true := by decide +kernel
set_option maxRecDepth 100000 in
theorem zk_33 : zchkM 33 = true := by decide +kernel
set_option maxRecDepth 100000 in
theorem zk_34 : zchkM 34 = true := by decide +kernel
set_option maxRecDepth 100000 in
theorem zk_35 : zchkM 35 = true := by decide +kernel
set_option maxRecDepth 100000 in
theorem zk_36 : zchkM 36 = true := by decide +kernel
set_option maxRecDepth 100000 in
theorem zk_37 : zchkM 37 = true := by decide +kernel
set_option maxRecDepth 100000 in
theorem zk_38 : zchkM 38 = true := by decide +kernel
set_option maxRecDepth 100000 in
theorem zk_39 : zchkM 39 = true := by decide +kernel
set_option maxRecDepth 100000 in
theorem zk_40 : zchkM 40 = true := by decide +kernel
set_option maxRecDepth 100000 in
theorem zk_41 : zchkM 41 = true := by decide +kernel
set_option maxRecDepth 100000 in
theorem zk_42 : zchkM 42 = true := by decide +kernel
set_option maxRecDepth 100000 in
theorem zk_43 : zchkM 43 = true := by decide +kernel
set_option maxRecDepth 100000 in
theorem zk_44 : zchkM 44 = true := by decide +kernel
set_option maxRecDepth 100000 in
theorem zk_45 : zchkM 45 = true := by decide +kernel
set_option maxRecDepth 100000 in
theorem zk_46 : zchkM 46 = true := by decide +kernel
set_option maxRecDepth 100000 in
theorem zk_47 : zchkM 47 = true := by decide +kernel
set_option maxRecDepth 100000 in
theorem zk_48 : zchkM 48 = true := by decide +kernel
set_option maxRecDepth 100000 in
theorem zk_49 : zchkM 49 = true := by decide +kernel
set_option maxRecDepth 100000 in
theorem zk_50 : zchkM 50 = true := by decide +kernel
set_option maxRecDepth 100000 in
theorem zk_51 : zchkM 51 = true := by decide +kernel
set_option maxRecDepth 100000 in
theorem zk_52 : zchkM 52 = true := by decide +kernel
set_option maxRecDepth 100000 in
theorem zk_53 : zchkM 53 = true := by decide +kernel
set_option maxRecDepth 100000 in
theorem zk_54 : zchkM 54 = true := by decide +kernel
set_option maxRecDepth 100000 in
theorem zk_55 : zchkM 55 = true := by decide +kernel
set_option maxRecDepth 100000 in
theorem zk_56 : zchkM 56 = true := by decide +kernel
set_option maxRecDepth 100000 in
theorem zk_57 : zchkM 57 = true := by decide +kernel
set_option maxRecDepth 100000 in
theorem zk_58 : zchkM 58 = true := by decide +kernel
set_option maxRecDepth 100000 in
theorem zk_59 : zchkM 59 = true := by decide +kernel
set_option maxRecDepth 100000 in
theorem zk_60 : zchkM 60 = true := by decide +kernel
set_option maxRecDepth 100000 in
theorem zk_61 : zchkM 61 = true := by decide +kernel
set_option maxRecDepth 100000 in
theorem zk_62 : zchkM 62 = true := by decide +kernel
