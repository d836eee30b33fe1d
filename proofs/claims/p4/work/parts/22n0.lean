/-! RULES: places of accessors (printed by tools/t63.py) -/
theorem ad_0 (e : Int) : e + 8 = ((8 : Int) + (1 * e + 0)) := by omega
theorem ad_1 (e : Int) : e + 4 = ((4 : Int) + (1 * e + 0)) := by omega
theorem ad_2 (b : Int) : b + 12 = ((12 : Int) + (1 * b + 0)) := by omega
theorem ad_3 (b k : Int) : b + 660 * k + 30692 = ((30692 : Int) + (1 * b + (660 * k + 0))) := by omega
theorem ad_4 (b : Int) : b + 4 = ((4 : Int) + (1 * b + 0)) := by omega
theorem ad_5 (b : Int) : b + 5 = ((5 : Int) + (1 * b + 0)) := by omega
theorem ad_6 (b : Int) : b + 24 = ((24 : Int) + (1 * b + 0)) := by omega
theorem ad_7 (b : Int) : b + 17 = ((17 : Int) + (1 * b + 0)) := by omega
theorem ad_8 (b i : Int) : b + 8295 + 40 * (i) = ((8295 : Int) + (1 * b + (40 * i + 0))) := by omega
theorem ad_9 (b i : Int) : b + 8296 + 40 * (i) = ((8296 : Int) + (1 * b + (40 * i + 0))) := by omega
theorem ad_10 (b pc : Int) : b + 37420 + 6 * (pc - 1) = ((37414 : Int) + (1 * b + (6 * pc + 0))) := by omega
theorem ad_11 (b pc : Int) : b + 37421 + 6 * (pc - 1) = ((37415 : Int) + (1 * b + (6 * pc + 0))) := by omega
theorem ad_12 (b x : Int) : b + 22692 + 2 * (x) = ((22692 : Int) + (1 * b + (2 * x + 0))) := by omega
theorem ad_13 (b p : Int) : b + 37420 + 6 * (p) = ((37420 : Int) + (1 * b + (6 * p + 0))) := by omega
theorem ad_14 (b k : Int) : b + 8292 + 40 * (k - 1) = ((8252 : Int) + (1 * b + (40 * k + 0))) := by omega
theorem ad_15 (b k : Int) : b + 8295 + 40 * (k - 1) = ((8255 : Int) + (1 * b + (40 * k + 0))) := by omega
theorem ad_16 (b l : Int) : b + 37420 + 6 * (l) = ((37420 : Int) + (1 * b + (6 * l + 0))) := by omega
theorem ad_17 (b p : Int) : b + 37421 + 6 * (p) = (((37421 : Int) + (1 * b + 0)) + ((6 : Nat) : Int) * p) := by omega
theorem ad_18 (b k : Int) : b + 22692 + 2 * (k - 1) = ((22690 : Int) + (1 * b + (2 * k + 0))) := by omega
theorem ad_19 (b k : Int) : b + 22693 + 2 * (k - 1) = ((22691 : Int) + (1 * b + (2 * k + 0))) := by omega
theorem ad_20 (b i : Int) : b + 22692 + 2 * (i) = (((22692 : Int) + (1 * b + 0)) + ((2 : Nat) : Int) * i) := by omega
theorem ad_21 (b i : Int) : b + 22693 + 2 * (i) = ((22693 : Int) + (1 * b + (2 * i + 0))) := by omega
theorem ad_22 (s k : Int) : s + k - 1 = ((-1 : Int) + (1 * s + (1 * k + 0))) := by omega
theorem ad_23 (d k : Int) : d + k - 1 = ((-1 : Int) + (1 * d + (1 * k + 0))) := by omega
theorem ad_24 (b k : Int) : b + k - 1 = ((-1 : Int) + (1 * b + (1 * k + 0))) := by omega
theorem ad_25 (b n k : Int) : b + 22692 + 2 * (-n + k - 1) = ((22690 : Int) + (1 * b + ((-2) * n + (2 * k + 0)))) := by omega
theorem ad_26 (b n k : Int) : b + 22693 + 2 * (-n + k - 1) = ((22691 : Int) + (1 * b + ((-2) * n + (2 * k + 0)))) := by omega
theorem ad_27 (b i : Int) : b + 8292 + 40 * (i) = ((8292 : Int) + (1 * b + (40 * i + 0))) := by omega
theorem ad_28 (b i : Int) : b + 8305 + 40 * (i) = ((8305 : Int) + (1 * b + (40 * i + 0))) := by omega
theorem ad_29 (b i : Int) : b + 8306 + 40 * (i) = ((8306 : Int) + (1 * b + (40 * i + 0))) := by omega
theorem ad_30 (b t : Int) : b + 8292 + 40 * (t) = ((8292 : Int) + (1 * b + (40 * t + 0))) := by omega
theorem ad_31 (b t : Int) : b + 8299 + 40 * (t) = ((8299 : Int) + (1 * b + (40 * t + 0))) := by omega
theorem ad_32 (b k : Int) : b + 22692 + 2 * (k) = (((22692 : Int) + (1 * b + 0)) + ((2 : Nat) : Int) * k) := by omega
theorem ad_33 (b k : Int) : b + 22693 + 2 * (k) = ((22693 : Int) + (1 * b + (2 * k + 0))) := by omega
theorem ad_34 (n : Int) : n - 1 = ((-1 : Int) + (1 * n + 0)) := by omega
theorem ad_35 (p : Int) : p = (((0 : Int) + 0) + ((1 : Nat) : Int) * p) := by omega
theorem ad_36 (k : Int) : k - 1 = ((-1 : Int) + (1 * k + 0)) := by omega
theorem ad_37 (b k : Int) : b + 22693 + 2 * (k) = (((22693 : Int) + (1 * b + 0)) + ((2 : Nat) : Int) * k) := by omega
theorem ad_38 (b k : Int) : b + 22692 + 2 * (k) = ((22692 : Int) + (1 * b + (2 * k + 0))) := by omega
theorem ad_39 (t b : Int) : b + 8292 + 40 * (t) = ((8292 : Int) + (40 * t + (1 * b + 0))) := by omega
theorem ad_40 (p : Int) : p = ((0 : Int) + (1 * p + 0)) := by omega
theorem ad_41 (b nn : Int) : b + 8292 + 40 * (nn) = ((8292 : Int) + (1 * b + (40 * nn + 0))) := by omega
theorem ad_42 (b nn : Int) : b + 8297 + 40 * (nn) = ((8297 : Int) + (1 * b + (40 * nn + 0))) := by omega
theorem ad_43 (q0 : Int) : q0 - 1 = ((-1 : Int) + (1 * q0 + 0)) := by omega
theorem ad_44 (to : Int) : to = ((0 : Int) + (1 * to + 0)) := by omega
theorem ad_45 (j : Int) : j = (((0 : Int) + 0) + ((1 : Nat) : Int) * j) := by omega
theorem ad_46 (j : Int) : j = ((0 : Int) + (1 * j + 0)) := by omega
theorem ad_47 (nn : Int) : nn = ((0 : Int) + (1 * nn + 0)) := by omega
theorem ad_48 (p : Int) : p - 1 = ((-1 : Int) + (1 * p + 0)) := by omega
theorem ad_49 (i : Int) : i = ((0 : Int) + (1 * i + 0)) := by omega
theorem ad_50 (j : Int) : 10 * j + 229441 = (((229441 : Int) + 0) + ((10 : Nat) : Int) * j) := by omega
theorem ad_51 : (229198 : Int) = ((229198 : Int) + 0) := by omega
theorem ad_52 (n : Int) : 10 * n + 229431 = ((229431 : Int) + (10 * n + 0)) := by omega
theorem ad_53 : (198501 : Int) = ((198501 : Int) + 0) := by omega
theorem ad_54 (b pc : Int) : b + 37420 + 6 * (pc) = ((37420 : Int) + (1 * b + (6 * pc + 0))) := by omega
theorem ad_55 (b pc : Int) : b + 37421 + 6 * (pc) = ((37421 : Int) + (1 * b + (6 * pc + 0))) := by omega
theorem ad_56 (b l : Int) : b + 22692 + 2 * (l) = ((22692 : Int) + (1 * b + (2 * l + 0))) := by omega
theorem ad_57 (b pc_ : Int) : b + 37421 + 6 * (pc_) = ((37421 : Int) + (1 * b + (6 * pc_ + 0))) := by omega
theorem ad_58 (b l : Int) : b + 22693 + 2 * (l) = ((22693 : Int) + (1 * b + (2 * l + 0))) := by omega
theorem ad_59 (b many : Int) : b + 8292 + 40 * (many) = ((8292 : Int) + (1 * b + (40 * many + 0))) := by omega
theorem ad_60 (b many : Int) : b + 8295 + 40 * (many) = ((8295 : Int) + (1 * b + (40 * many + 0))) := by omega
theorem ad_61 (b many : Int) : b + 8296 + 40 * (many) = ((8296 : Int) + (1 * b + (40 * many + 0))) := by omega
theorem ad_62 (b many : Int) : b + 8306 + 40 * (many) = ((8306 : Int) + (1 * b + (40 * many + 0))) := by omega
theorem ad_63 (b many : Int) : b + 8299 + 40 * (many) = ((8299 : Int) + (1 * b + (40 * many + 0))) := by omega
theorem ad_64 (b many : Int) : b + 8305 + 40 * (many) = ((8305 : Int) + (1 * b + (40 * many + 0))) := by omega
theorem ad_65 (b under : Int) : b + 37612 + 300 * (under) = ((37612 : Int) + (1 * b + (300 * under + 0))) := by omega
theorem ad_66 (b under : Int) : b + 37613 + 300 * (under) = ((37613 : Int) + (1 * b + (300 * under + 0))) := by omega
theorem ad_67 (b under : Int) : b + 37619 + 300 * (under) = ((37619 : Int) + (1 * b + (300 * under + 0))) := by omega
theorem ad_68 (b under : Int) : b + 37617 + 300 * (under) = ((37617 : Int) + (1 * b + (300 * under + 0))) := by omega
theorem ad_69 (b under : Int) : b + 37612 + 300 * (under - 1) = ((37312 : Int) + (1 * b + (300 * under + 0))) := by omega
theorem ad_70 (b e : Int) : b + 8306 + 40 * (e) = ((8306 : Int) + (1 * b + (40 * e + 0))) := by omega
theorem ad_71 (b s : Int) : b + 39112 + 16 * (s) = ((39112 : Int) + (1 * b + (16 * s + 0))) := by omega
theorem ad_72 (b s : Int) : b + 39113 + 16 * (s) = ((39113 : Int) + (1 * b + (16 * s + 0))) := by omega
theorem ad_73 (b : Int) : b + 37612 + 300 * (0) = ((37612 : Int) + (1 * b + 0)) := by omega
theorem ad_74 (b : Int) : b + 37617 + 300 * (0) = ((37617 : Int) + (1 * b + 0)) := by omega
theorem ad_75 (b w : Int) : b + 8295 + 40 * (w) = ((8295 : Int) + (1 * b + (40 * w + 0))) := by omega
theorem ad_76 (b w : Int) : b + 8296 + 40 * (w) = ((8296 : Int) + (1 * b + (40 * w + 0))) := by omega
theorem ad_77 (b x : Int) : b + 22693 + 2 * (x) = ((22693 : Int) + (1 * b + (2 * x + 0))) := by omega
theorem ad_78 (b : Int) : b + 37613 + 300 * (0) = ((37613 : Int) + (1 * b + 0)) := by omega
theorem ad_79 (b i : Int) : b + 8292 + 40 * (i) = (((8292 : Int) + (1 * b + 0)) + ((40 : Nat) : Int) * i) := by omega
theorem ad_80 (q : Int) : (39700 * q) + 4 = ((4 : Int) + (39700 * q + 0)) := by omega
theorem ad_81 (q : Int) : (39700 * q) + 5 = ((5 : Int) + (39700 * q + 0)) := by omega
theorem ad_82 (q : Int) : (39700 * q) + 24 = ((24 : Int) + (39700 * q + 0)) := by omega
theorem ad_83 (q : Int) : (39700 * q) + 17 = ((17 : Int) + (39700 * q + 0)) := by omega
theorem ad_84 (idx : Int) : idx + 16 = ((16 : Int) + (1 * idx + 0)) := by omega
theorem ad_85 (idx : Int) : idx - 16 = ((-16 : Int) + (1 * idx + 0)) := by omega
theorem ad_86 (idx : Int) : idx - 1 = ((-1 : Int) + (1 * idx + 0)) := by omega
theorem ad_87 (idx : Int) : idx - 9 = ((-9 : Int) + (1 * idx + 0)) := by omega
theorem ad_88 (idx : Int) : idx + 8 = ((8 : Int) + (1 * idx + 0)) := by omega
theorem ad_89 (idx : Int) : idx + 7 = ((7 : Int) + (1 * idx + 0)) := by omega
theorem ad_90 (idx : Int) : idx + 1 = ((1 : Int) + (1 * idx + 0)) := by omega
theorem ad_91 (idx : Int) : idx - 7 = ((-7 : Int) + (1 * idx + 0)) := by omega
theorem ad_92 (idx : Int) : idx - 8 = ((-8 : Int) + (1 * idx + 0)) := by omega
theorem ad_93 (b ic : Int) : b + 22692 + 2 * (ic) = ((22692 : Int) + (1 * b + (2 * ic + 0))) := by omega
theorem ad_94 (b ic : Int) : b + 22693 + 2 * (ic) = ((22693 : Int) + (1 * b + (2 * ic + 0))) := by omega
theorem ad_95 (b n : Int) : b + 8292 + 40 * (n) = ((8292 : Int) + (1 * b + (40 * n + 0))) := by omega
theorem ad_96 (b val : Int) : b + 37420 + 6 * (val) = ((37420 : Int) + (1 * b + (6 * val + 0))) := by omega
theorem ad_97 (b val : Int) : b + 37421 + 6 * (val) = ((37421 : Int) + (1 * b + (6 * val + 0))) := by omega
theorem ad_98 (b under : Int) : b + 37619 + 300 * (under - 1) = ((37319 : Int) + (1 * b + (300 * under + 0))) := by omega
theorem ad_99 (idx : Int) : idx = ((0 : Int) + (1 * idx + 0)) := by omega
theorem ad_100 (b i2 : Int) : b + 8295 + 40 * (i2) = ((8295 : Int) + (1 * b + (40 * i2 + 0))) := by omega
theorem ad_101 (b i2 : Int) : b + 8296 + 40 * (i2) = ((8296 : Int) + (1 * b + (40 * i2 + 0))) := by omega
theorem ad_102 (b8 i8 : Int) : b8 + 8295 + 40 * (i8) = ((8295 : Int) + (1 * b8 + (40 * i8 + 0))) := by omega
theorem ad_103 (b8 i8 : Int) : b8 + 8296 + 40 * (i8) = ((8296 : Int) + (1 * b8 + (40 * i8 + 0))) := by omega
theorem ad_104 (k8 : Int) : k8 = ((0 : Int) + (1 * k8 + 0)) := by omega
theorem ad_105 (b i8 : Int) : b + 8295 + 40 * (i8) = ((8295 : Int) + (1 * b + (40 * i8 + 0))) := by omega
theorem ad_106 (b i8 : Int) : b + 8296 + 40 * (i8) = ((8296 : Int) + (1 * b + (40 * i8 + 0))) := by omega
theorem ad_107 (p8 : Int) : p8 = ((0 : Int) + (1 * p8 + 0)) := by omega
theorem ad_108 (b k8 : Int) : b + 22692 + 2 * (k8) = ((22692 : Int) + (1 * b + (2 * k8 + 0))) := by omega
theorem ad_109 (b k8 : Int) : b + 22693 + 2 * (k8) = ((22693 : Int) + (1 * b + (2 * k8 + 0))) := by omega
theorem ad_110 (idx : Int) : idx + 34 = ((34 : Int) + (1 * idx + 0)) := by omega
theorem ad_111 (z : Int) : (39700 * z) + 8 = (((8 : Int) + 0) + ((39700 : Nat) : Int) * z) := by omega
theorem ad_112 (z : Int) : (39700 * z) + 8 = ((8 : Int) + (39700 * z + 0)) := by omega
theorem ad_113 (z : Int) : (39700 * z) + 24 = ((24 : Int) + (39700 * z + 0)) := by omega
theorem ad_114 (idx : Int) : idx + 2 = ((2 : Int) + (1 * idx + 0)) := by omega
theorem ad_115 (z : Int) : (39700 * z) + 35 = (((35 : Int) + 0) + ((39700 : Nat) : Int) * z) := by omega
theorem ad_116 (z : Int) : (39700 * z) + 35 = ((35 : Int) + (39700 * z + 0)) := by omega
theorem ad_117 (z : Int) : (39700 * z) + 33 = ((33 : Int) + (39700 * z + 0)) := by omega
theorem ad_118 (idx : Int) : idx + 31 = ((31 : Int) + (1 * idx + 0)) := by omega
theorem ad_119 (z : Int) : (39700 * z) + 4 = ((4 : Int) + (39700 * z + 0)) := by omega
theorem ad_120 (z : Int) : 20 * z + 30692 = (((30692 : Int) + 0) + ((20 : Nat) : Int) * z) := by omega
theorem ad_121 (z : Int) : 20 * z + 30692 = ((30692 : Int) + (20 * z + 0)) := by omega
theorem ad_122 (z : Int) : 20 * z + 30699 = ((30699 : Int) + (20 * z + 0)) := by omega
theorem ad_123 (z : Int) : 20 * z + 30700 = ((30700 : Int) + (20 * z + 0)) := by omega
theorem ad_124 (q : Int) : (39700 * q) + 12 = ((12 : Int) + (39700 * q + 0)) := by omega
theorem ad_125 (q : Int) : (39700 * q) + 35 = ((35 : Int) + (39700 * q + 0)) := by omega
theorem ad_126 (q i : Int) : (39700 * q) + 8292 + 40 * (i) = ((8292 : Int) + (39700 * q + (40 * i + 0))) := by omega
theorem ad_127 (q i : Int) : (39700 * q) + 8295 + 40 * (i) = ((8295 : Int) + (39700 * q + (40 * i + 0))) := by omega
theorem ad_128 (q i : Int) : (39700 * q) + 8296 + 40 * (i) = ((8296 : Int) + (39700 * q + (40 * i + 0))) := by omega
theorem ad_129 (q under : Int) : (39700 * q) + 37612 + 300 * (under - 1) = ((37312 : Int) + (39700 * q + (300 * under + 0))) := by omega
theorem ad_130 (q p : Int) : (39700 * q) + 37420 + 6 * (p) = ((37420 : Int) + (39700 * q + (6 * p + 0))) := by omega
theorem ad_131 (q i : Int) : (39700 * q) + 8295 + 40 * (i) = (((8295 : Int) + (39700 * q + 0)) + ((40 : Nat) : Int) * i) := by omega
theorem ad_132 (q k : Int) : (39700 * q) + 22692 + 2 * (k) = ((22692 : Int) + (39700 * q + (2 * k + 0))) := by omega
theorem ad_133 (z : Int) : 20 * z + 8292 = (((8292 : Int) + 0) + ((20 : Nat) : Int) * z) := by omega
theorem ad_134 (z : Int) : 20 * z + 8305 = (((8305 : Int) + 0) + ((20 : Nat) : Int) * z) := by omega
theorem ad_135 (z : Int) : 2 * z + 22692 = (((22692 : Int) + 0) + ((2 : Nat) : Int) * z) := by omega
theorem ad_136 (q k : Int) : (39700 * q) + 22693 + 2 * (k) = ((22693 : Int) + (39700 * q + (2 * k + 0))) := by omega
theorem ad_137 (q i : Int) : (39700 * q) + 8305 + 40 * (i) = ((8305 : Int) + (39700 * q + (40 * i + 0))) := by omega
theorem ad_138 (q i : Int) : (39700 * q) + 8306 + 40 * (i) = ((8306 : Int) + (39700 * q + (40 * i + 0))) := by omega
theorem ad_139 (q i : Int) : (39700 * q) + 8306 + 40 * (i) = (((8306 : Int) + (39700 * q + 0)) + ((40 : Nat) : Int) * i) := by omega
theorem ad_140 (z : Int) : 2 * z + 22693 = (((22693 : Int) + 0) + ((2 : Nat) : Int) * z) := by omega
theorem ad_141 (i : Int) : i = (((0 : Int) + 0) + ((1 : Nat) : Int) * i) := by omega
theorem ad_142 (pp : Int) : pp = (((0 : Int) + 0) + ((1 : Nat) : Int) * pp) := by omega
theorem ad_143 (b tt : Int) : b + 8295 + 40 * (tt) = ((8295 : Int) + (1 * b + (40 * tt + 0))) := by omega
theorem ad_144 (b tt : Int) : b + 8296 + 40 * (tt) = ((8296 : Int) + (1 * b + (40 * tt + 0))) := by omega
theorem ad_145 (k : Int) : k = (((0 : Int) + 0) + ((1 : Nat) : Int) * k) := by omega
theorem ad_146 (e : Int) : e = ((0 : Int) + (1 * e + 0)) := by omega
