/-! the law's texts, bound: some of them (written by wip/p27/c990.py) -/
def bW_ga00_b : List WC := (((rW_ga00.take 15 ++ (wM0 ++ bT1)).set 11 (wX 14 ([wI 0, wD 5 [0, 1, 2, 3, 4, 5], wI 0] ++ wub 10000 3))).set 15 (wO 6 [wA 0, wA 17, wD 10 [0, 1, 16, 17], wI 4294967295, wA 18, wZ, wI 0, wU 910007, wU 910008, wA 16]))
set_option maxRecDepth 100000 in
theorem bd_ga00_b : wbdE [(3, wD 9 [14348907, 28697814], some 18)] bT1 bC1 rW_ga00 (wI 4294967295) bW_ga00_b = true := by decide +kernel
def bW_ga01_n : List WC := (((rW_ga01.take 15 ++ (wM0 ++ [])).set 11 (wX 14 ([wI 4294967295, wD 5 [0, 1, 2, 3, 4, 5], wI 0] ++ wub 10000 3))).set 15 (wO 6 [wA 0, wA 17, wD 10 [0, 1, 16, 17], wI 13, wZ, wZ, wI 0, wU 910007, wU 910008, wA 16]))
set_option maxRecDepth 100000 in
theorem bd_ga01_n : wbdE [(3, wD 9 [14348907, 28697814], none)] [] bC0 rW_ga01 (wI 13) bW_ga01_n = true := by decide +kernel
def bW_ga01_a : List WC := (((rW_ga01.take 15 ++ (wM0 ++ bT0)).set 11 (wX 14 ([wI 0, wD 5 [0, 1, 2, 3, 4, 5], wI 0] ++ wub 10000 3))).set 15 (wO 6 [wA 0, wA 17, wD 10 [0, 1, 16, 17], wI 4294967295, wA 18, wZ, wI 0, wU 910007, wU 910008, wA 16]))
set_option maxRecDepth 100000 in
theorem bd_ga01_a : wbdE [(3, wD 9 [14348907, 28697814], some 18)] bT0 bC1 rW_ga01 (wI 4294967295) bW_ga01_a = true := by decide +kernel
def bW_ga01_b : List WC := (((rW_ga01.take 15 ++ (wM0 ++ bT1)).set 11 (wX 14 ([wI 0, wD 5 [0, 1, 2, 3, 4, 5], wI 0] ++ wub 10000 3))).set 15 (wO 6 [wA 0, wA 17, wD 10 [0, 1, 16, 17], wI 4294967295, wA 18, wZ, wI 0, wU 910007, wU 910008, wA 16]))
set_option maxRecDepth 100000 in
theorem bd_ga01_b : wbdE [(3, wD 9 [14348907, 28697814], some 18)] bT1 bC1 rW_ga01 (wI 4294967295) bW_ga01_b = true := by decide +kernel
def bW_ga10_n : List WC := (((rW_ga10.take 15 ++ (wM0 ++ [])).set 11 (wX 14 ([wI 4294967295, wD 5 [0, 1, 2, 3], wI 0] ++ wub 10000 3))).set 15 (wO 6 [wA 0, wA 17, wD 10 [0, 1, 16, 17], wI 13, wZ, wZ, wI 0, wU 910007, wU 910008, wA 16]))
set_option maxRecDepth 100000 in
theorem bd_ga10_n : wbdE [(3, wD 9 [14348907, 28697814], none)] [] bC0 rW_ga10 (wI 13) bW_ga10_n = true := by decide +kernel
def bW_ga10_a : List WC := (((rW_ga10.take 15 ++ (wM0 ++ bT0)).set 11 (wX 14 ([wI 1, wD 5 [0, 1, 2, 3], wI 0] ++ wub 10000 3))).set 15 (wO 6 [wA 0, wA 17, wD 10 [0, 1, 16, 17], wI 4294967295, wA 18, wZ, wI 0, wU 910007, wU 910008, wA 16]))
set_option maxRecDepth 100000 in
theorem bd_ga10_a : wbdE [(3, wD 9 [14348907, 28697814], some 18)] bT0 bC1 rW_ga10 (wI 4294967295) bW_ga10_a = true := by decide +kernel
def bW_ga10_b : List WC := (((rW_ga10.take 15 ++ (wM0 ++ bT1)).set 11 (wX 14 ([wI 2, wD 5 [0, 1, 2, 3], wI 0] ++ wub 10000 3))).set 15 (wO 6 [wA 0, wA 17, wD 10 [0, 1, 16, 17], wI 4294967295, wA 18, wZ, wI 0, wU 910007, wU 910008, wA 16]))
set_option maxRecDepth 100000 in
theorem bd_ga10_b : wbdE [(3, wD 9 [14348907, 28697814], some 18)] bT1 bC1 rW_ga10 (wI 4294967295) bW_ga10_b = true := by decide +kernel
def bW_ga11_n : List WC := (((rW_ga11.take 15 ++ (wM0 ++ [])).set 11 (wX 14 ([wI 4294967295, wD 5 [0, 1, 2, 3], wI 0] ++ wub 10000 3))).set 15 (wO 6 [wA 0, wA 17, wD 10 [0, 1, 16, 17], wI 13, wZ, wZ, wI 0, wU 910007, wU 910008, wA 16]))
set_option maxRecDepth 100000 in
theorem bd_ga11_n : wbdE [(3, wD 9 [14348907, 28697814], none)] [] bC0 rW_ga11 (wI 13) bW_ga11_n = true := by decide +kernel
def bW_ga11_a : List WC := (((rW_ga11.take 15 ++ (wM0 ++ bT0)).set 11 (wX 14 ([wI 1, wD 5 [0, 1, 2, 3], wI 0] ++ wub 10000 3))).set 15 (wO 6 [wA 0, wA 17, wD 10 [0, 1, 16, 17], wI 4294967295, wA 18, wZ, wI 0, wU 910007, wU 910008, wA 16]))
set_option maxRecDepth 100000 in
theorem bd_ga11_a : wbdE [(3, wD 9 [14348907, 28697814], some 18)] bT0 bC1 rW_ga11 (wI 4294967295) bW_ga11_a = true := by decide +kernel
def bW_ga11_b : List WC := (((rW_ga11.take 15 ++ (wM0 ++ bT1)).set 11 (wX 14 ([wI 2, wD 5 [0, 1, 2, 3], wI 0] ++ wub 10000 3))).set 15 (wO 6 [wA 0, wA 17, wD 10 [0, 1, 16, 17], wI 4294967295, wA 18, wZ, wI 0, wU 910007, wU 910008, wA 16]))
set_option maxRecDepth 100000 in
theorem bd_ga11_b : wbdE [(3, wD 9 [14348907, 28697814], some 18)] bT1 bC1 rW_ga11 (wI 4294967295) bW_ga11_b = true := by decide +kernel
def bW_ga20_n : List WC := (((rW_ga20.take 15 ++ (wM0 ++ [])).set 11 (wX 14 ([wI 172761660, wI 0, wI 0, wI 4294967295, wI 0, wI 0] ++ wub 10000 6))).set 15 (wO 6 [wA 0, wA 17, wD 10 [0, 1, 16, 17], wI 13, wZ, wZ, wI 0, wU 910007, wU 910008, wA 16]))
set_option maxRecDepth 100000 in
theorem bd_ga20_n : wbdE [(3, wD 9 [14348907, 28697814], none)] [] bC0 rW_ga20 (wI 13) bW_ga20_n = true := by decide +kernel
def bW_ga20_a : List WC := (((rW_ga20.take 15 ++ (wM0 ++ bT0)).set 11 (wX 14 ([wI 172761660, wI 0, wI 0, wI 1, wI 0, wI 0] ++ wub 10000 6))).set 15 (wO 6 [wA 0, wA 17, wD 10 [0, 1, 16, 17], wI 4294967295, wA 18, wZ, wI 0, wU 910007, wU 910008, wA 16]))
set_option maxRecDepth 100000 in
theorem bd_ga20_a : wbdE [(3, wD 9 [14348907, 28697814], some 18)] bT0 bC1 rW_ga20 (wI 4294967295) bW_ga20_a = true := by decide +kernel
def bW_ga20_b : List WC := (((rW_ga20.take 15 ++ (wM0 ++ bT1)).set 11 (wX 14 ([wI 172761660, wI 0, wI 0, wI 2, wI 0, wI 0] ++ wub 10000 6))).set 15 (wO 6 [wA 0, wA 17, wD 10 [0, 1, 16, 17], wI 4294967295, wA 18, wZ, wI 0, wU 910007, wU 910008, wA 16]))
set_option maxRecDepth 100000 in
theorem bd_ga20_b : wbdE [(3, wD 9 [14348907, 28697814], some 18)] bT1 bC1 rW_ga20 (wI 4294967295) bW_ga20_b = true := by decide +kernel
def bW_ga21_n : List WC := (((rW_ga21.take 15 ++ (wM0 ++ [])).set 11 (wX 14 ([wI 172761660, wI 0, wI 0, wI 4294967295, wI 0, wI 0] ++ wub 10000 6))).set 15 (wO 6 [wA 0, wA 17, wD 10 [0, 1, 16, 17], wI 13, wZ, wZ, wI 0, wU 910007, wU 910008, wA 16]))
set_option maxRecDepth 100000 in
theorem bd_ga21_n : wbdE [(3, wD 9 [14348907, 28697814], none)] [] bC0 rW_ga21 (wI 13) bW_ga21_n = true := by decide +kernel
def bW_ga21_a : List WC := (((rW_ga21.take 15 ++ (wM0 ++ bT0)).set 11 (wX 14 ([wI 172761660, wI 0, wI 0, wI 1, wI 0, wI 0] ++ wub 10000 6))).set 15 (wO 6 [wA 0, wA 17, wD 10 [0, 1, 16, 17], wI 4294967295, wA 18, wZ, wI 0, wU 910007, wU 910008, wA 16]))
set_option maxRecDepth 100000 in
theorem bd_ga21_a : wbdE [(3, wD 9 [14348907, 28697814], some 18)] bT0 bC1 rW_ga21 (wI 4294967295) bW_ga21_a = true := by decide +kernel
def bW_ga21_b : List WC := (((rW_ga21.take 15 ++ (wM0 ++ bT1)).set 11 (wX 14 ([wI 172761660, wI 0, wI 0, wI 2, wI 0, wI 0] ++ wub 10000 6))).set 15 (wO 6 [wA 0, wA 17, wD 10 [0, 1, 16, 17], wI 4294967295, wA 18, wZ, wI 0, wU 910007, wU 910008, wA 16]))
set_option maxRecDepth 100000 in
theorem bd_ga21_b : wbdE [(3, wD 9 [14348907, 28697814], some 18)] bT1 bC1 rW_ga21 (wI 4294967295) bW_ga21_b = true := by decide +kernel
def bW_ga30_n : List WC := ((rW_ga30.take 15 ++ (wM0 ++ [])).set 15 (wO 6 [wA 0, wA 17, wD 10 [0, 1, 16, 17], wI 13, wZ, wZ, wI 0, wU 910007, wU 910008, wA 16]))
set_option maxRecDepth 100000 in
theorem bd_ga30_n : wbdE [(3, wD 9 [14348907, 28697814], none)] [] bC0 rW_ga30 (wI 13) bW_ga30_n = true := by decide +kernel
def bW_ga30_a : List WC := ((rW_ga30.take 15 ++ (wM0 ++ bT0)).set 15 (wO 6 [wA 0, wA 17, wD 10 [0, 1, 16, 17], wI 4294967295, wA 18, wZ, wI 0, wU 910007, wU 910008, wA 16]))
set_option maxRecDepth 100000 in
theorem bd_ga30_a : wbdE [(3, wD 9 [14348907, 28697814], some 18)] bT0 bC1 rW_ga30 (wI 4294967295) bW_ga30_a = true := by decide +kernel
def bW_ga30_b : List WC := ((rW_ga30.take 15 ++ (wM0 ++ bT1)).set 15 (wO 6 [wA 0, wA 17, wD 10 [0, 1, 16, 17], wI 4294967295, wA 18, wZ, wI 0, wU 910007, wU 910008, wA 16]))
set_option maxRecDepth 100000 in
theorem bd_ga30_b : wbdE [(3, wD 9 [14348907, 28697814], some 18)] bT1 bC1 rW_ga30 (wI 4294967295) bW_ga30_b = true := by decide +kernel
def bW_ga31_n : List WC := ((rW_ga31.take 15 ++ (wM0 ++ [])).set 15 (wO 6 [wA 0, wA 17, wD 10 [0, 1, 16, 17], wI 13, wZ, wZ, wI 0, wU 910007, wU 910008, wA 16]))
set_option maxRecDepth 100000 in
theorem bd_ga31_n : wbdE [(3, wD 9 [14348907, 28697814], none)] [] bC0 rW_ga31 (wI 13) bW_ga31_n = true := by decide +kernel
def bW_ga31_a : List WC := ((rW_ga31.take 15 ++ (wM0 ++ bT0)).set 15 (wO 6 [wA 0, wA 17, wD 10 [0, 1, 16, 17], wI 4294967295, wA 18, wZ, wI 0, wU 910007, wU 910008, wA 16]))
set_option maxRecDepth 100000 in
theorem bd_ga31_a : wbdE [(3, wD 9 [14348907, 28697814], some 18)] bT0 bC1 rW_ga31 (wI 4294967295) bW_ga31_a = true := by decide +kernel
def bW_ga31_b : List WC := ((rW_ga31.take 15 ++ (wM0 ++ bT1)).set 15 (wO 6 [wA 0, wA 17, wD 10 [0, 1, 16, 17], wI 4294967295, wA 18, wZ, wI 0, wU 910007, wU 910008, wA 16]))
set_option maxRecDepth 100000 in
theorem bd_ga31_b : wbdE [(3, wD 9 [14348907, 28697814], some 18)] bT1 bC1 rW_ga31 (wI 4294967295) bW_ga31_b = true := by decide +kernel
def bW_geach_n : List WC := (((rW_geach.take 15 ++ (wM0 ++ [])).set 11 (wX 14 ([wI 4294967295, wI 4294967295, wI 172761660] ++ wub 10000 3))).set 15 (wO 6 [wA 0, wA 17, wD 10 [0, 1, 16, 17], wI 24, wZ, wZ, wI 0, wU 910007, wU 910008, wA 16]))
set_option maxRecDepth 100000 in
theorem bd_geach_n : wbdE [(8, wD 9 [14348907, 28697814], none)] [] bC0 rW_geach (wI 24) bW_geach_n = true := by decide +kernel
def bW_geach_a : List WC := (((rW_geach.take 15 ++ (wM0 ++ bT0)).set 11 (wX 14 ([wI 0, wI 1, wI 172761660] ++ wub 10000 3))).set 15 (wO 6 [wA 0, wA 17, wD 10 [0, 1, 16, 17], wI 4294967295, wA 18, wZ, wI 0, wU 910007, wU 910008, wA 16]))
set_option maxRecDepth 100000 in
theorem bd_geach_a : wbdE [(8, wD 9 [14348907, 28697814], some 18)] bT0 bC1 rW_geach (wI 4294967295) bW_geach_a = true := by decide +kernel
def bW_geach_b : List WC := (((rW_geach.take 15 ++ (wM0 ++ bT1)).set 11 (wX 14 ([wI 0, wI 2, wI 172761660] ++ wub 10000 3))).set 15 (wO 6 [wA 0, wA 17, wD 10 [0, 1, 16, 17], wI 4294967295, wA 18, wZ, wI 0, wU 910007, wU 910008, wA 16]))
set_option maxRecDepth 100000 in
theorem bd_geach_b : wbdE [(8, wD 9 [14348907, 28697814], some 18)] bT1 bC1 rW_geach (wI 4294967295) bW_geach_b = true := by decide +kernel
def bW_gjoin_nn : List WC := (((rW_gjoin.take 15 ++ (wM0 ++ [])).set 11 (wX 14 ([wI 4294967295] ++ wub 10000 1))).set 15 (wO 6 [wA 0, wA 17, wD 10 [0, 1, 16, 17], wI 11, wZ, wZ, wI 0, wI 4294967295, wI 4294967295, wA 16]))
set_option maxRecDepth 100000 in
theorem bd_gjoin_nn : wbdE [(3, wI 28697814, none), (5, wI 14348907, none)] [] bC0 rW_gjoin (wI 11) bW_gjoin_nn = true := by decide +kernel
def bW_gjoin_na : List WC := (((rW_gjoin.take 15 ++ (wM0 ++ bT0)).set 11 (wX 14 ([wI 4294967295] ++ wub 10000 1))).set 15 (wO 6 [wA 0, wA 17, wD 10 [0, 1, 16, 17], wI 11, wZ, wA 18, wI 0, wI 4294967295, wI 0, wA 16]))
set_option maxRecDepth 100000 in
theorem bd_gjoin_na : wbdE [(3, wI 28697814, none), (5, wI 14348907, some 18)] bT0 bC1 rW_gjoin (wI 11) bW_gjoin_na = true := by decide +kernel
def bW_gjoin_bn : List WC := (((rW_gjoin.take 15 ++ (wM0 ++ bT1)).set 11 (wX 14 ([wI 0] ++ wub 10000 1))).set 15 (wO 6 [wA 0, wA 17, wD 10 [0, 1, 16, 17], wI 18, wA 18, wZ, wI 0, wI 1, wI 4294967295, wA 16]))
set_option maxRecDepth 100000 in
theorem bd_gjoin_bn : wbdE [(3, wI 28697814, some 18), (5, wI 14348907, none)] bT1 bC1 rW_gjoin (wI 18) bW_gjoin_bn = true := by decide +kernel
def bW_gjoin_ba : List WC := (((rW_gjoin.take 15 ++ (wM0 ++ bT2)).set 11 (wX 14 ([wI 0] ++ wub 10000 1))).set 15 (wO 6 [wA 0, wA 17, wD 10 [0, 1, 16, 17], wI 4294967295, wA 18, wA 22, wI 0, wI 1, wI 0, wA 16]))
set_option maxRecDepth 100000 in
theorem bd_gjoin_ba : wbdE [(3, wI 28697814, some 18), (5, wI 14348907, some 22)] bT2 bC2 rW_gjoin (wI 4294967295) bW_gjoin_ba = true := by decide +kernel
def bW_gby_n : List WC := ((((rW_gby.take 15 ++ (wM0 ++ [])).set 11 (wX 14 ([wI 4294967295, wI 4294967295] ++ wub 10000 2))).set 15 (wO 6 [wA 0, wA 17, wD 10 [0, 1, 16, 17], wI 25, wZ, wZ, wI 1, wU 910007, wU 910008, wA 16])).set 16 (wX 17 ([wI 4294967295] ++ wub 14000 1)))
set_option maxRecDepth 100000 in
theorem bd_gby_n : wbdE [(10, wD 9 [14348907, 28697814], none)] [] bC0 rW_gby (wI 25) bW_gby_n = true := by decide +kernel
