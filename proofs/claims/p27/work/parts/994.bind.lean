/-! the law's texts, bound: some of them (written by wip/p27/c990.py) -/
def bW_s112_b : List WC := ((((rW_s112.take 15 ++ (wM0 ++ bT1)).set 11 (wX 14 ([wI 2, wI 0, wD 1 [0, 1, 2, 3], wI 0, wI 0, wI 172761660, wI 0, wI 0, wI 2, wI 0, wI 0] ++ wub 10000 11))).set 15 (wO 6 [wA 0, wA 17, wD 10 [0, 1, 16, 17], wI 4294967295, wA 18, wZ, wU 910006, wU 910007, wU 910008, wA 16])).set 16 (wX 17 ([wI 2] ++ wub 14000 1)))
set_option maxRecDepth 100000 in
theorem bd_s112_b : wbdE [(1, wD 9 [14348907, 28697814], some 18)] bT1 bC1 rW_s112 (wI 4294967295) bW_s112_b = true := by decide +kernel
def bW_s113_n : List WC := ((((rW_s113.take 15 ++ (wM0 ++ [])).set 11 (wX 14 ([wI 4294967295, wI 0, wD 1 [0, 1, 2, 3], wI 0, wI 0] ++ wub 10000 5))).set 15 (wO 6 [wA 0, wA 17, wD 10 [0, 1, 16, 17], wI 4, wZ, wZ, wU 910006, wU 910007, wU 910008, wA 16])).set 16 (wX 17 ([wI 4294967295] ++ wub 14000 1)))
set_option maxRecDepth 100000 in
theorem bd_s113_n : wbdE [(1, wD 9 [14348907, 28697814], none)] [] bC0 rW_s113 (wI 4) bW_s113_n = true := by decide +kernel
def bW_s113_a : List WC := ((((rW_s113.take 15 ++ (wM0 ++ bT0)).set 11 (wX 14 ([wI 1, wI 0, wD 1 [0, 1, 2, 3], wI 0, wI 0] ++ wub 10000 5))).set 15 (wO 6 [wA 0, wA 17, wD 10 [0, 1, 16, 17], wI 4294967295, wA 18, wZ, wU 910006, wU 910007, wU 910008, wA 16])).set 16 (wX 17 ([wI 1] ++ wub 14000 1)))
set_option maxRecDepth 100000 in
theorem bd_s113_a : wbdE [(1, wD 9 [14348907, 28697814], some 18)] bT0 bC1 rW_s113 (wI 4294967295) bW_s113_a = true := by decide +kernel
def bW_s113_b : List WC := ((((rW_s113.take 15 ++ (wM0 ++ bT1)).set 11 (wX 14 ([wI 2, wI 0, wD 1 [0, 1, 2, 3], wI 0, wI 0] ++ wub 10000 5))).set 15 (wO 6 [wA 0, wA 17, wD 10 [0, 1, 16, 17], wI 4294967295, wA 18, wZ, wU 910006, wU 910007, wU 910008, wA 16])).set 16 (wX 17 ([wI 2] ++ wub 14000 1)))
set_option maxRecDepth 100000 in
theorem bd_s113_b : wbdE [(1, wD 9 [14348907, 28697814], some 18)] bT1 bC1 rW_s113 (wI 4294967295) bW_s113_b = true := by decide +kernel
def bW_s120_n : List WC := ((((rW_s120.take 15 ++ (wM0 ++ [])).set 11 (wX 14 ([wI 4294967295, wD 1 [0, 1, 2, 3, 4, 5], wI 0, wI 4294967295, wD 5 [0, 1, 2, 3, 4, 5], wI 0] ++ wub 10000 6))).set 15 (wO 6 [wA 0, wA 17, wD 10 [0, 1, 16, 17], wI 4, wZ, wZ, wU 910006, wU 910007, wU 910008, wA 16])).set 16 (wX 17 ([wI 4294967295] ++ wub 14000 1)))
set_option maxRecDepth 100000 in
theorem bd_s120_n : wbdE [(1, wD 9 [14348907, 28697814], none)] [] bC0 rW_s120 (wI 4) bW_s120_n = true := by decide +kernel
def bW_s120_a : List WC := ((((rW_s120.take 15 ++ (wM0 ++ bT0)).set 11 (wX 14 ([wI 1, wD 1 [0, 1, 2, 3, 4, 5], wI 0, wI 0, wD 5 [0, 1, 2, 3, 4, 5], wI 0] ++ wub 10000 6))).set 15 (wO 6 [wA 0, wA 17, wD 10 [0, 1, 16, 17], wI 4294967295, wA 18, wZ, wU 910006, wU 910007, wU 910008, wA 16])).set 16 (wX 17 ([wI 1] ++ wub 14000 1)))
set_option maxRecDepth 100000 in
theorem bd_s120_a : wbdE [(1, wD 9 [14348907, 28697814], some 18)] bT0 bC1 rW_s120 (wI 4294967295) bW_s120_a = true := by decide +kernel
def bW_s120_b : List WC := ((((rW_s120.take 15 ++ (wM0 ++ bT1)).set 11 (wX 14 ([wI 2, wD 1 [0, 1, 2, 3, 4, 5], wI 0, wI 0, wD 5 [0, 1, 2, 3, 4, 5], wI 0] ++ wub 10000 6))).set 15 (wO 6 [wA 0, wA 17, wD 10 [0, 1, 16, 17], wI 4294967295, wA 18, wZ, wU 910006, wU 910007, wU 910008, wA 16])).set 16 (wX 17 ([wI 2] ++ wub 14000 1)))
set_option maxRecDepth 100000 in
theorem bd_s120_b : wbdE [(1, wD 9 [14348907, 28697814], some 18)] bT1 bC1 rW_s120 (wI 4294967295) bW_s120_b = true := by decide +kernel
def bW_s121_n : List WC := ((((rW_s121.take 15 ++ (wM0 ++ [])).set 11 (wX 14 ([wI 4294967295, wD 1 [0, 1, 2, 3, 4, 5], wI 0, wI 4294967295, wD 5 [0, 1, 2, 3], wI 0] ++ wub 10000 6))).set 15 (wO 6 [wA 0, wA 17, wD 10 [0, 1, 16, 17], wI 4, wZ, wZ, wU 910006, wU 910007, wU 910008, wA 16])).set 16 (wX 17 ([wI 4294967295] ++ wub 14000 1)))
set_option maxRecDepth 100000 in
theorem bd_s121_n : wbdE [(1, wD 9 [14348907, 28697814], none)] [] bC0 rW_s121 (wI 4) bW_s121_n = true := by decide +kernel
def bW_s121_a : List WC := ((((rW_s121.take 15 ++ (wM0 ++ bT0)).set 11 (wX 14 ([wI 1, wD 1 [0, 1, 2, 3, 4, 5], wI 0, wI 1, wD 5 [0, 1, 2, 3], wI 0] ++ wub 10000 6))).set 15 (wO 6 [wA 0, wA 17, wD 10 [0, 1, 16, 17], wI 4294967295, wA 18, wZ, wU 910006, wU 910007, wU 910008, wA 16])).set 16 (wX 17 ([wI 1] ++ wub 14000 1)))
set_option maxRecDepth 100000 in
theorem bd_s121_a : wbdE [(1, wD 9 [14348907, 28697814], some 18)] bT0 bC1 rW_s121 (wI 4294967295) bW_s121_a = true := by decide +kernel
def bW_s121_b : List WC := ((((rW_s121.take 15 ++ (wM0 ++ bT1)).set 11 (wX 14 ([wI 2, wD 1 [0, 1, 2, 3, 4, 5], wI 0, wI 2, wD 5 [0, 1, 2, 3], wI 0] ++ wub 10000 6))).set 15 (wO 6 [wA 0, wA 17, wD 10 [0, 1, 16, 17], wI 4294967295, wA 18, wZ, wU 910006, wU 910007, wU 910008, wA 16])).set 16 (wX 17 ([wI 2] ++ wub 14000 1)))
set_option maxRecDepth 100000 in
theorem bd_s121_b : wbdE [(1, wD 9 [14348907, 28697814], some 18)] bT1 bC1 rW_s121 (wI 4294967295) bW_s121_b = true := by decide +kernel
def bW_s122_n : List WC := ((((rW_s122.take 15 ++ (wM0 ++ [])).set 11 (wX 14 ([wI 4294967295, wD 1 [0, 1, 2, 3, 4, 5], wI 0, wI 172761660, wI 0, wI 0, wI 4294967295, wI 0, wI 0] ++ wub 10000 9))).set 15 (wO 6 [wA 0, wA 17, wD 10 [0, 1, 16, 17], wI 4, wZ, wZ, wU 910006, wU 910007, wU 910008, wA 16])).set 16 (wX 17 ([wI 4294967295] ++ wub 14000 1)))
set_option maxRecDepth 100000 in
theorem bd_s122_n : wbdE [(1, wD 9 [14348907, 28697814], none)] [] bC0 rW_s122 (wI 4) bW_s122_n = true := by decide +kernel
def bW_s122_a : List WC := ((((rW_s122.take 15 ++ (wM0 ++ bT0)).set 11 (wX 14 ([wI 1, wD 1 [0, 1, 2, 3, 4, 5], wI 0, wI 172761660, wI 0, wI 0, wI 1, wI 0, wI 0] ++ wub 10000 9))).set 15 (wO 6 [wA 0, wA 17, wD 10 [0, 1, 16, 17], wI 4294967295, wA 18, wZ, wU 910006, wU 910007, wU 910008, wA 16])).set 16 (wX 17 ([wI 1] ++ wub 14000 1)))
set_option maxRecDepth 100000 in
theorem bd_s122_a : wbdE [(1, wD 9 [14348907, 28697814], some 18)] bT0 bC1 rW_s122 (wI 4294967295) bW_s122_a = true := by decide +kernel
def bW_s122_b : List WC := ((((rW_s122.take 15 ++ (wM0 ++ bT1)).set 11 (wX 14 ([wI 2, wD 1 [0, 1, 2, 3, 4, 5], wI 0, wI 172761660, wI 0, wI 0, wI 2, wI 0, wI 0] ++ wub 10000 9))).set 15 (wO 6 [wA 0, wA 17, wD 10 [0, 1, 16, 17], wI 4294967295, wA 18, wZ, wU 910006, wU 910007, wU 910008, wA 16])).set 16 (wX 17 ([wI 2] ++ wub 14000 1)))
set_option maxRecDepth 100000 in
theorem bd_s122_b : wbdE [(1, wD 9 [14348907, 28697814], some 18)] bT1 bC1 rW_s122 (wI 4294967295) bW_s122_b = true := by decide +kernel
def bW_s123_n : List WC := ((((rW_s123.take 15 ++ (wM0 ++ [])).set 11 (wX 14 ([wI 4294967295, wD 1 [0, 1, 2, 3, 4, 5], wI 0] ++ wub 10000 3))).set 15 (wO 6 [wA 0, wA 17, wD 10 [0, 1, 16, 17], wI 4, wZ, wZ, wU 910006, wU 910007, wU 910008, wA 16])).set 16 (wX 17 ([wI 4294967295] ++ wub 14000 1)))
set_option maxRecDepth 100000 in
theorem bd_s123_n : wbdE [(1, wD 9 [14348907, 28697814], none)] [] bC0 rW_s123 (wI 4) bW_s123_n = true := by decide +kernel
def bW_s123_a : List WC := ((((rW_s123.take 15 ++ (wM0 ++ bT0)).set 11 (wX 14 ([wI 1, wD 1 [0, 1, 2, 3, 4, 5], wI 0] ++ wub 10000 3))).set 15 (wO 6 [wA 0, wA 17, wD 10 [0, 1, 16, 17], wI 4294967295, wA 18, wZ, wU 910006, wU 910007, wU 910008, wA 16])).set 16 (wX 17 ([wI 1] ++ wub 14000 1)))
set_option maxRecDepth 100000 in
theorem bd_s123_a : wbdE [(1, wD 9 [14348907, 28697814], some 18)] bT0 bC1 rW_s123 (wI 4294967295) bW_s123_a = true := by decide +kernel
def bW_s123_b : List WC := ((((rW_s123.take 15 ++ (wM0 ++ bT1)).set 11 (wX 14 ([wI 2, wD 1 [0, 1, 2, 3, 4, 5], wI 0] ++ wub 10000 3))).set 15 (wO 6 [wA 0, wA 17, wD 10 [0, 1, 16, 17], wI 4294967295, wA 18, wZ, wU 910006, wU 910007, wU 910008, wA 16])).set 16 (wX 17 ([wI 2] ++ wub 14000 1)))
set_option maxRecDepth 100000 in
theorem bd_s123_b : wbdE [(1, wD 9 [14348907, 28697814], some 18)] bT1 bC1 rW_s123 (wI 4294967295) bW_s123_b = true := by decide +kernel
def bW_c0_n : List WC := (((rW_c0.take 15 ++ (wM0 ++ [])).set 11 (wX 14 ([wI 4294967295, wD 5 [0, 1, 2, 3, 4, 5], wI 0] ++ wub 10000 3))).set 15 (wO 6 [wA 0, wA 17, wD 10 [0, 1, 16, 17], wI 4, wZ, wZ, wU 910006, wU 910007, wU 910008, wA 16]))
set_option maxRecDepth 100000 in
theorem bd_c0_n : wbdE [(1, wD 9 [14348907, 28697814], none)] [] bC0 rW_c0 (wI 4) bW_c0_n = true := by decide +kernel
def bW_c0_a : List WC := (((rW_c0.take 15 ++ (wM0 ++ bT0)).set 11 (wX 14 ([wI 0, wD 5 [0, 1, 2, 3, 4, 5], wI 0] ++ wub 10000 3))).set 15 (wO 6 [wA 0, wA 17, wD 10 [0, 1, 16, 17], wI 4294967295, wA 18, wZ, wU 910006, wU 910007, wU 910008, wA 16]))
set_option maxRecDepth 100000 in
theorem bd_c0_a : wbdE [(1, wD 9 [14348907, 28697814], some 18)] bT0 bC1 rW_c0 (wI 4294967295) bW_c0_a = true := by decide +kernel
def bW_c0_b : List WC := (((rW_c0.take 15 ++ (wM0 ++ bT1)).set 11 (wX 14 ([wI 0, wD 5 [0, 1, 2, 3, 4, 5], wI 0] ++ wub 10000 3))).set 15 (wO 6 [wA 0, wA 17, wD 10 [0, 1, 16, 17], wI 4294967295, wA 18, wZ, wU 910006, wU 910007, wU 910008, wA 16]))
set_option maxRecDepth 100000 in
theorem bd_c0_b : wbdE [(1, wD 9 [14348907, 28697814], some 18)] bT1 bC1 rW_c0 (wI 4294967295) bW_c0_b = true := by decide +kernel
def bW_c1_n : List WC := (((rW_c1.take 15 ++ (wM0 ++ [])).set 11 (wX 14 ([wI 4294967295, wD 5 [0, 1, 2, 3], wI 0] ++ wub 10000 3))).set 15 (wO 6 [wA 0, wA 17, wD 10 [0, 1, 16, 17], wI 4, wZ, wZ, wU 910006, wU 910007, wU 910008, wA 16]))
set_option maxRecDepth 100000 in
theorem bd_c1_n : wbdE [(1, wD 9 [14348907, 28697814], none)] [] bC0 rW_c1 (wI 4) bW_c1_n = true := by decide +kernel
def bW_c1_a : List WC := (((rW_c1.take 15 ++ (wM0 ++ bT0)).set 11 (wX 14 ([wI 1, wD 5 [0, 1, 2, 3], wI 0] ++ wub 10000 3))).set 15 (wO 6 [wA 0, wA 17, wD 10 [0, 1, 16, 17], wI 4294967295, wA 18, wZ, wU 910006, wU 910007, wU 910008, wA 16]))
set_option maxRecDepth 100000 in
theorem bd_c1_a : wbdE [(1, wD 9 [14348907, 28697814], some 18)] bT0 bC1 rW_c1 (wI 4294967295) bW_c1_a = true := by decide +kernel
def bW_c1_b : List WC := (((rW_c1.take 15 ++ (wM0 ++ bT1)).set 11 (wX 14 ([wI 2, wD 5 [0, 1, 2, 3], wI 0] ++ wub 10000 3))).set 15 (wO 6 [wA 0, wA 17, wD 10 [0, 1, 16, 17], wI 4294967295, wA 18, wZ, wU 910006, wU 910007, wU 910008, wA 16]))
set_option maxRecDepth 100000 in
theorem bd_c1_b : wbdE [(1, wD 9 [14348907, 28697814], some 18)] bT1 bC1 rW_c1 (wI 4294967295) bW_c1_b = true := by decide +kernel
def bW_c2_n : List WC := (((rW_c2.take 15 ++ (wM0 ++ [])).set 11 (wX 14 ([wI 172761660, wI 0, wI 0, wI 4294967295, wI 0, wI 0] ++ wub 10000 6))).set 15 (wO 6 [wA 0, wA 17, wD 10 [0, 1, 16, 17], wI 4, wZ, wZ, wU 910006, wU 910007, wU 910008, wA 16]))
set_option maxRecDepth 100000 in
theorem bd_c2_n : wbdE [(1, wD 9 [14348907, 28697814], none)] [] bC0 rW_c2 (wI 4) bW_c2_n = true := by decide +kernel
def bW_c2_a : List WC := (((rW_c2.take 15 ++ (wM0 ++ bT0)).set 11 (wX 14 ([wI 172761660, wI 0, wI 0, wI 1, wI 0, wI 0] ++ wub 10000 6))).set 15 (wO 6 [wA 0, wA 17, wD 10 [0, 1, 16, 17], wI 4294967295, wA 18, wZ, wU 910006, wU 910007, wU 910008, wA 16]))
set_option maxRecDepth 100000 in
theorem bd_c2_a : wbdE [(1, wD 9 [14348907, 28697814], some 18)] bT0 bC1 rW_c2 (wI 4294967295) bW_c2_a = true := by decide +kernel
def bW_c2_b : List WC := (((rW_c2.take 15 ++ (wM0 ++ bT1)).set 11 (wX 14 ([wI 172761660, wI 0, wI 0, wI 2, wI 0, wI 0] ++ wub 10000 6))).set 15 (wO 6 [wA 0, wA 17, wD 10 [0, 1, 16, 17], wI 4294967295, wA 18, wZ, wU 910006, wU 910007, wU 910008, wA 16]))
set_option maxRecDepth 100000 in
theorem bd_c2_b : wbdE [(1, wD 9 [14348907, 28697814], some 18)] bT1 bC1 rW_c2 (wI 4294967295) bW_c2_b = true := by decide +kernel
def bW_c3_n : List WC := ((rW_c3.take 15 ++ (wM0 ++ [])).set 15 (wO 6 [wA 0, wA 17, wD 10 [0, 1, 16, 17], wI 4, wZ, wZ, wU 910006, wU 910007, wU 910008, wA 16]))
set_option maxRecDepth 100000 in
theorem bd_c3_n : wbdE [(1, wD 9 [14348907, 28697814], none)] [] bC0 rW_c3 (wI 4) bW_c3_n = true := by decide +kernel
def bW_c3_a : List WC := ((rW_c3.take 15 ++ (wM0 ++ bT0)).set 15 (wO 6 [wA 0, wA 17, wD 10 [0, 1, 16, 17], wI 4294967295, wA 18, wZ, wU 910006, wU 910007, wU 910008, wA 16]))
set_option maxRecDepth 100000 in
theorem bd_c3_a : wbdE [(1, wD 9 [14348907, 28697814], some 18)] bT0 bC1 rW_c3 (wI 4294967295) bW_c3_a = true := by decide +kernel
def bW_c3_b : List WC := ((rW_c3.take 15 ++ (wM0 ++ bT1)).set 15 (wO 6 [wA 0, wA 17, wD 10 [0, 1, 16, 17], wI 4294967295, wA 18, wZ, wU 910006, wU 910007, wU 910008, wA 16]))
set_option maxRecDepth 100000 in
theorem bd_c3_b : wbdE [(1, wD 9 [14348907, 28697814], some 18)] bT1 bC1 rW_c3 (wI 4294967295) bW_c3_b = true := by decide +kernel
def bW_ga00_n : List WC := (((rW_ga00.take 15 ++ (wM0 ++ [])).set 11 (wX 14 ([wI 4294967295, wD 5 [0, 1, 2, 3, 4, 5], wI 0] ++ wub 10000 3))).set 15 (wO 6 [wA 0, wA 17, wD 10 [0, 1, 16, 17], wI 13, wZ, wZ, wI 0, wU 910007, wU 910008, wA 16]))
set_option maxRecDepth 100000 in
theorem bd_ga00_n : wbdE [(3, wD 9 [14348907, 28697814], none)] [] bC0 rW_ga00 (wI 13) bW_ga00_n = true := by decide +kernel
def bW_ga00_a : List WC := (((rW_ga00.take 15 ++ (wM0 ++ bT0)).set 11 (wX 14 ([wI 0, wD 5 [0, 1, 2, 3, 4, 5], wI 0] ++ wub 10000 3))).set 15 (wO 6 [wA 0, wA 17, wD 10 [0, 1, 16, 17], wI 4294967295, wA 18, wZ, wI 0, wU 910007, wU 910008, wA 16]))
set_option maxRecDepth 100000 in
theorem bd_ga00_a : wbdE [(3, wD 9 [14348907, 28697814], some 18)] bT0 bC1 rW_ga00 (wI 4294967295) bW_ga00_a = true := by decide +kernel
