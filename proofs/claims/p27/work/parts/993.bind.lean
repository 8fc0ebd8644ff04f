/-! the law's texts, bound: some of them (written by wip/p27/c990.py) -/
def bW_s020_b : List WC := ((((rW_s020.take 15 ++ (wM0 ++ bT1)).set 11 (wX 14 ([wD 1 [0, 1, 2, 3, 4, 5], wI 0, wD 5 [0, 1, 2, 3, 4, 5], wI 0] ++ wub 10000 4))).set 15 (wO 6 [wA 0, wA 17, wD 10 [0, 1, 16, 17], wI 4294967295, wA 18, wZ, wU 910006, wU 910007, wU 910008, wA 16])).set 16 (wX 17 ([wI 2] ++ wub 14000 1)))
set_option maxRecDepth 100000 in
theorem bd_s020_b : wbdE [(1, wD 9 [14348907, 28697814], some 18)] bT1 bC1 rW_s020 (wI 4294967295) bW_s020_b = true := by decide +kernel
def bW_s021_n : List WC := ((((rW_s021.take 15 ++ (wM0 ++ [])).set 11 (wX 14 ([wD 1 [0, 1, 2, 3, 4, 5], wI 4294967295, wD 5 [0, 1, 2, 3], wI 0] ++ wub 10000 4))).set 15 (wO 6 [wA 0, wA 17, wD 10 [0, 1, 16, 17], wI 4, wZ, wZ, wU 910006, wU 910007, wU 910008, wA 16])).set 16 (wX 17 ([wI 4294967295] ++ wub 14000 1)))
set_option maxRecDepth 100000 in
theorem bd_s021_n : wbdE [(1, wD 9 [14348907, 28697814], none)] [] bC0 rW_s021 (wI 4) bW_s021_n = true := by decide +kernel
def bW_s021_a : List WC := ((((rW_s021.take 15 ++ (wM0 ++ bT0)).set 11 (wX 14 ([wD 1 [0, 1, 2, 3, 4, 5], wI 1, wD 5 [0, 1, 2, 3], wI 0] ++ wub 10000 4))).set 15 (wO 6 [wA 0, wA 17, wD 10 [0, 1, 16, 17], wI 4294967295, wA 18, wZ, wU 910006, wU 910007, wU 910008, wA 16])).set 16 (wX 17 ([wI 1] ++ wub 14000 1)))
set_option maxRecDepth 100000 in
theorem bd_s021_a : wbdE [(1, wD 9 [14348907, 28697814], some 18)] bT0 bC1 rW_s021 (wI 4294967295) bW_s021_a = true := by decide +kernel
def bW_s021_b : List WC := ((((rW_s021.take 15 ++ (wM0 ++ bT1)).set 11 (wX 14 ([wD 1 [0, 1, 2, 3, 4, 5], wI 2, wD 5 [0, 1, 2, 3], wI 0] ++ wub 10000 4))).set 15 (wO 6 [wA 0, wA 17, wD 10 [0, 1, 16, 17], wI 4294967295, wA 18, wZ, wU 910006, wU 910007, wU 910008, wA 16])).set 16 (wX 17 ([wI 2] ++ wub 14000 1)))
set_option maxRecDepth 100000 in
theorem bd_s021_b : wbdE [(1, wD 9 [14348907, 28697814], some 18)] bT1 bC1 rW_s021 (wI 4294967295) bW_s021_b = true := by decide +kernel
def bW_s022_n : List WC := ((((rW_s022.take 15 ++ (wM0 ++ [])).set 11 (wX 14 ([wD 1 [0, 1, 2, 3, 4, 5], wI 172761660, wI 0, wI 0, wI 4294967295, wI 0, wI 0] ++ wub 10000 7))).set 15 (wO 6 [wA 0, wA 17, wD 10 [0, 1, 16, 17], wI 4, wZ, wZ, wU 910006, wU 910007, wU 910008, wA 16])).set 16 (wX 17 ([wI 4294967295] ++ wub 14000 1)))
set_option maxRecDepth 100000 in
theorem bd_s022_n : wbdE [(1, wD 9 [14348907, 28697814], none)] [] bC0 rW_s022 (wI 4) bW_s022_n = true := by decide +kernel
def bW_s022_a : List WC := ((((rW_s022.take 15 ++ (wM0 ++ bT0)).set 11 (wX 14 ([wD 1 [0, 1, 2, 3, 4, 5], wI 172761660, wI 0, wI 0, wI 1, wI 0, wI 0] ++ wub 10000 7))).set 15 (wO 6 [wA 0, wA 17, wD 10 [0, 1, 16, 17], wI 4294967295, wA 18, wZ, wU 910006, wU 910007, wU 910008, wA 16])).set 16 (wX 17 ([wI 1] ++ wub 14000 1)))
set_option maxRecDepth 100000 in
theorem bd_s022_a : wbdE [(1, wD 9 [14348907, 28697814], some 18)] bT0 bC1 rW_s022 (wI 4294967295) bW_s022_a = true := by decide +kernel
def bW_s022_b : List WC := ((((rW_s022.take 15 ++ (wM0 ++ bT1)).set 11 (wX 14 ([wD 1 [0, 1, 2, 3, 4, 5], wI 172761660, wI 0, wI 0, wI 2, wI 0, wI 0] ++ wub 10000 7))).set 15 (wO 6 [wA 0, wA 17, wD 10 [0, 1, 16, 17], wI 4294967295, wA 18, wZ, wU 910006, wU 910007, wU 910008, wA 16])).set 16 (wX 17 ([wI 2] ++ wub 14000 1)))
set_option maxRecDepth 100000 in
theorem bd_s022_b : wbdE [(1, wD 9 [14348907, 28697814], some 18)] bT1 bC1 rW_s022 (wI 4294967295) bW_s022_b = true := by decide +kernel
def bW_s023_n : List WC := (((rW_s023.take 15 ++ (wM0 ++ [])).set 15 (wO 6 [wA 0, wA 17, wD 10 [0, 1, 16, 17], wI 4, wZ, wZ, wU 910006, wU 910007, wU 910008, wA 16])).set 16 (wX 17 ([wI 4294967295] ++ wub 14000 1)))
set_option maxRecDepth 100000 in
theorem bd_s023_n : wbdE [(1, wD 9 [14348907, 28697814], none)] [] bC0 rW_s023 (wI 4) bW_s023_n = true := by decide +kernel
def bW_s023_a : List WC := (((rW_s023.take 15 ++ (wM0 ++ bT0)).set 15 (wO 6 [wA 0, wA 17, wD 10 [0, 1, 16, 17], wI 4294967295, wA 18, wZ, wU 910006, wU 910007, wU 910008, wA 16])).set 16 (wX 17 ([wI 1] ++ wub 14000 1)))
set_option maxRecDepth 100000 in
theorem bd_s023_a : wbdE [(1, wD 9 [14348907, 28697814], some 18)] bT0 bC1 rW_s023 (wI 4294967295) bW_s023_a = true := by decide +kernel
def bW_s023_b : List WC := (((rW_s023.take 15 ++ (wM0 ++ bT1)).set 15 (wO 6 [wA 0, wA 17, wD 10 [0, 1, 16, 17], wI 4294967295, wA 18, wZ, wU 910006, wU 910007, wU 910008, wA 16])).set 16 (wX 17 ([wI 2] ++ wub 14000 1)))
set_option maxRecDepth 100000 in
theorem bd_s023_b : wbdE [(1, wD 9 [14348907, 28697814], some 18)] bT1 bC1 rW_s023 (wI 4294967295) bW_s023_b = true := by decide +kernel
def bW_s100_n : List WC := ((((rW_s100.take 15 ++ (wM0 ++ [])).set 11 (wX 14 ([wI 4294967295, wI 209135520, wI 0, wI 4294967295, wD 5 [0, 1, 2, 3, 4, 5], wI 0] ++ wub 10000 6))).set 15 (wO 6 [wA 0, wA 17, wD 10 [0, 1, 16, 17], wI 4, wZ, wZ, wU 910006, wU 910007, wU 910008, wA 16])).set 16 (wX 17 ([wI 4294967295] ++ wub 14000 1)))
set_option maxRecDepth 100000 in
theorem bd_s100_n : wbdE [(1, wD 9 [14348907, 28697814], none)] [] bC0 rW_s100 (wI 4) bW_s100_n = true := by decide +kernel
def bW_s100_a : List WC := ((((rW_s100.take 15 ++ (wM0 ++ bT0)).set 11 (wX 14 ([wI 1, wI 209135520, wI 0, wI 0, wD 5 [0, 1, 2, 3, 4, 5], wI 0] ++ wub 10000 6))).set 15 (wO 6 [wA 0, wA 17, wD 10 [0, 1, 16, 17], wI 4294967295, wA 18, wZ, wU 910006, wU 910007, wU 910008, wA 16])).set 16 (wX 17 ([wI 1] ++ wub 14000 1)))
set_option maxRecDepth 100000 in
theorem bd_s100_a : wbdE [(1, wD 9 [14348907, 28697814], some 18)] bT0 bC1 rW_s100 (wI 4294967295) bW_s100_a = true := by decide +kernel
def bW_s100_b : List WC := ((((rW_s100.take 15 ++ (wM0 ++ bT1)).set 11 (wX 14 ([wI 2, wI 209135520, wI 0, wI 0, wD 5 [0, 1, 2, 3, 4, 5], wI 0] ++ wub 10000 6))).set 15 (wO 6 [wA 0, wA 17, wD 10 [0, 1, 16, 17], wI 4294967295, wA 18, wZ, wU 910006, wU 910007, wU 910008, wA 16])).set 16 (wX 17 ([wI 2] ++ wub 14000 1)))
set_option maxRecDepth 100000 in
theorem bd_s100_b : wbdE [(1, wD 9 [14348907, 28697814], some 18)] bT1 bC1 rW_s100 (wI 4294967295) bW_s100_b = true := by decide +kernel
def bW_s101_n : List WC := ((((rW_s101.take 15 ++ (wM0 ++ [])).set 11 (wX 14 ([wI 4294967295, wI 209135520, wI 0, wI 4294967295, wD 5 [0, 1, 2, 3], wI 0] ++ wub 10000 6))).set 15 (wO 6 [wA 0, wA 17, wD 10 [0, 1, 16, 17], wI 4, wZ, wZ, wU 910006, wU 910007, wU 910008, wA 16])).set 16 (wX 17 ([wI 4294967295] ++ wub 14000 1)))
set_option maxRecDepth 100000 in
theorem bd_s101_n : wbdE [(1, wD 9 [14348907, 28697814], none)] [] bC0 rW_s101 (wI 4) bW_s101_n = true := by decide +kernel
def bW_s101_a : List WC := ((((rW_s101.take 15 ++ (wM0 ++ bT0)).set 11 (wX 14 ([wI 1, wI 209135520, wI 0, wI 1, wD 5 [0, 1, 2, 3], wI 0] ++ wub 10000 6))).set 15 (wO 6 [wA 0, wA 17, wD 10 [0, 1, 16, 17], wI 4294967295, wA 18, wZ, wU 910006, wU 910007, wU 910008, wA 16])).set 16 (wX 17 ([wI 1] ++ wub 14000 1)))
set_option maxRecDepth 100000 in
theorem bd_s101_a : wbdE [(1, wD 9 [14348907, 28697814], some 18)] bT0 bC1 rW_s101 (wI 4294967295) bW_s101_a = true := by decide +kernel
def bW_s101_b : List WC := ((((rW_s101.take 15 ++ (wM0 ++ bT1)).set 11 (wX 14 ([wI 2, wI 209135520, wI 0, wI 2, wD 5 [0, 1, 2, 3], wI 0] ++ wub 10000 6))).set 15 (wO 6 [wA 0, wA 17, wD 10 [0, 1, 16, 17], wI 4294967295, wA 18, wZ, wU 910006, wU 910007, wU 910008, wA 16])).set 16 (wX 17 ([wI 2] ++ wub 14000 1)))
set_option maxRecDepth 100000 in
theorem bd_s101_b : wbdE [(1, wD 9 [14348907, 28697814], some 18)] bT1 bC1 rW_s101 (wI 4294967295) bW_s101_b = true := by decide +kernel
def bW_s102_n : List WC := ((((rW_s102.take 15 ++ (wM0 ++ [])).set 11 (wX 14 ([wI 4294967295, wI 209135520, wI 0, wI 172761660, wI 0, wI 0, wI 4294967295, wI 0, wI 0] ++ wub 10000 9))).set 15 (wO 6 [wA 0, wA 17, wD 10 [0, 1, 16, 17], wI 4, wZ, wZ, wU 910006, wU 910007, wU 910008, wA 16])).set 16 (wX 17 ([wI 4294967295] ++ wub 14000 1)))
set_option maxRecDepth 100000 in
theorem bd_s102_n : wbdE [(1, wD 9 [14348907, 28697814], none)] [] bC0 rW_s102 (wI 4) bW_s102_n = true := by decide +kernel
def bW_s102_a : List WC := ((((rW_s102.take 15 ++ (wM0 ++ bT0)).set 11 (wX 14 ([wI 1, wI 209135520, wI 0, wI 172761660, wI 0, wI 0, wI 1, wI 0, wI 0] ++ wub 10000 9))).set 15 (wO 6 [wA 0, wA 17, wD 10 [0, 1, 16, 17], wI 4294967295, wA 18, wZ, wU 910006, wU 910007, wU 910008, wA 16])).set 16 (wX 17 ([wI 1] ++ wub 14000 1)))
set_option maxRecDepth 100000 in
theorem bd_s102_a : wbdE [(1, wD 9 [14348907, 28697814], some 18)] bT0 bC1 rW_s102 (wI 4294967295) bW_s102_a = true := by decide +kernel
def bW_s102_b : List WC := ((((rW_s102.take 15 ++ (wM0 ++ bT1)).set 11 (wX 14 ([wI 2, wI 209135520, wI 0, wI 172761660, wI 0, wI 0, wI 2, wI 0, wI 0] ++ wub 10000 9))).set 15 (wO 6 [wA 0, wA 17, wD 10 [0, 1, 16, 17], wI 4294967295, wA 18, wZ, wU 910006, wU 910007, wU 910008, wA 16])).set 16 (wX 17 ([wI 2] ++ wub 14000 1)))
set_option maxRecDepth 100000 in
theorem bd_s102_b : wbdE [(1, wD 9 [14348907, 28697814], some 18)] bT1 bC1 rW_s102 (wI 4294967295) bW_s102_b = true := by decide +kernel
def bW_s103_n : List WC := ((((rW_s103.take 15 ++ (wM0 ++ [])).set 11 (wX 14 ([wI 4294967295, wI 209135520, wI 0] ++ wub 10000 3))).set 15 (wO 6 [wA 0, wA 17, wD 10 [0, 1, 16, 17], wI 4, wZ, wZ, wU 910006, wU 910007, wU 910008, wA 16])).set 16 (wX 17 ([wI 4294967295] ++ wub 14000 1)))
set_option maxRecDepth 100000 in
theorem bd_s103_n : wbdE [(1, wD 9 [14348907, 28697814], none)] [] bC0 rW_s103 (wI 4) bW_s103_n = true := by decide +kernel
def bW_s103_a : List WC := ((((rW_s103.take 15 ++ (wM0 ++ bT0)).set 11 (wX 14 ([wI 1, wI 209135520, wI 0] ++ wub 10000 3))).set 15 (wO 6 [wA 0, wA 17, wD 10 [0, 1, 16, 17], wI 4294967295, wA 18, wZ, wU 910006, wU 910007, wU 910008, wA 16])).set 16 (wX 17 ([wI 1] ++ wub 14000 1)))
set_option maxRecDepth 100000 in
theorem bd_s103_a : wbdE [(1, wD 9 [14348907, 28697814], some 18)] bT0 bC1 rW_s103 (wI 4294967295) bW_s103_a = true := by decide +kernel
def bW_s103_b : List WC := ((((rW_s103.take 15 ++ (wM0 ++ bT1)).set 11 (wX 14 ([wI 2, wI 209135520, wI 0] ++ wub 10000 3))).set 15 (wO 6 [wA 0, wA 17, wD 10 [0, 1, 16, 17], wI 4294967295, wA 18, wZ, wU 910006, wU 910007, wU 910008, wA 16])).set 16 (wX 17 ([wI 2] ++ wub 14000 1)))
set_option maxRecDepth 100000 in
theorem bd_s103_b : wbdE [(1, wD 9 [14348907, 28697814], some 18)] bT1 bC1 rW_s103 (wI 4294967295) bW_s103_b = true := by decide +kernel
def bW_s110_n : List WC := ((((rW_s110.take 15 ++ (wM0 ++ [])).set 11 (wX 14 ([wI 4294967295, wI 0, wD 1 [0, 1, 2, 3], wI 0, wI 0, wI 4294967295, wD 5 [0, 1, 2, 3, 4, 5], wI 0] ++ wub 10000 8))).set 15 (wO 6 [wA 0, wA 17, wD 10 [0, 1, 16, 17], wI 4, wZ, wZ, wU 910006, wU 910007, wU 910008, wA 16])).set 16 (wX 17 ([wI 4294967295] ++ wub 14000 1)))
set_option maxRecDepth 100000 in
theorem bd_s110_n : wbdE [(1, wD 9 [14348907, 28697814], none)] [] bC0 rW_s110 (wI 4) bW_s110_n = true := by decide +kernel
def bW_s110_a : List WC := ((((rW_s110.take 15 ++ (wM0 ++ bT0)).set 11 (wX 14 ([wI 1, wI 0, wD 1 [0, 1, 2, 3], wI 0, wI 0, wI 0, wD 5 [0, 1, 2, 3, 4, 5], wI 0] ++ wub 10000 8))).set 15 (wO 6 [wA 0, wA 17, wD 10 [0, 1, 16, 17], wI 4294967295, wA 18, wZ, wU 910006, wU 910007, wU 910008, wA 16])).set 16 (wX 17 ([wI 1] ++ wub 14000 1)))
set_option maxRecDepth 100000 in
theorem bd_s110_a : wbdE [(1, wD 9 [14348907, 28697814], some 18)] bT0 bC1 rW_s110 (wI 4294967295) bW_s110_a = true := by decide +kernel
def bW_s110_b : List WC := ((((rW_s110.take 15 ++ (wM0 ++ bT1)).set 11 (wX 14 ([wI 2, wI 0, wD 1 [0, 1, 2, 3], wI 0, wI 0, wI 0, wD 5 [0, 1, 2, 3, 4, 5], wI 0] ++ wub 10000 8))).set 15 (wO 6 [wA 0, wA 17, wD 10 [0, 1, 16, 17], wI 4294967295, wA 18, wZ, wU 910006, wU 910007, wU 910008, wA 16])).set 16 (wX 17 ([wI 2] ++ wub 14000 1)))
set_option maxRecDepth 100000 in
theorem bd_s110_b : wbdE [(1, wD 9 [14348907, 28697814], some 18)] bT1 bC1 rW_s110 (wI 4294967295) bW_s110_b = true := by decide +kernel
def bW_s111_n : List WC := ((((rW_s111.take 15 ++ (wM0 ++ [])).set 11 (wX 14 ([wI 4294967295, wI 0, wD 1 [0, 1, 2, 3], wI 0, wI 0, wI 4294967295, wD 5 [0, 1, 2, 3], wI 0] ++ wub 10000 8))).set 15 (wO 6 [wA 0, wA 17, wD 10 [0, 1, 16, 17], wI 4, wZ, wZ, wU 910006, wU 910007, wU 910008, wA 16])).set 16 (wX 17 ([wI 4294967295] ++ wub 14000 1)))
set_option maxRecDepth 100000 in
theorem bd_s111_n : wbdE [(1, wD 9 [14348907, 28697814], none)] [] bC0 rW_s111 (wI 4) bW_s111_n = true := by decide +kernel
def bW_s111_a : List WC := ((((rW_s111.take 15 ++ (wM0 ++ bT0)).set 11 (wX 14 ([wI 1, wI 0, wD 1 [0, 1, 2, 3], wI 0, wI 0, wI 1, wD 5 [0, 1, 2, 3], wI 0] ++ wub 10000 8))).set 15 (wO 6 [wA 0, wA 17, wD 10 [0, 1, 16, 17], wI 4294967295, wA 18, wZ, wU 910006, wU 910007, wU 910008, wA 16])).set 16 (wX 17 ([wI 1] ++ wub 14000 1)))
set_option maxRecDepth 100000 in
theorem bd_s111_a : wbdE [(1, wD 9 [14348907, 28697814], some 18)] bT0 bC1 rW_s111 (wI 4294967295) bW_s111_a = true := by decide +kernel
def bW_s111_b : List WC := ((((rW_s111.take 15 ++ (wM0 ++ bT1)).set 11 (wX 14 ([wI 2, wI 0, wD 1 [0, 1, 2, 3], wI 0, wI 0, wI 2, wD 5 [0, 1, 2, 3], wI 0] ++ wub 10000 8))).set 15 (wO 6 [wA 0, wA 17, wD 10 [0, 1, 16, 17], wI 4294967295, wA 18, wZ, wU 910006, wU 910007, wU 910008, wA 16])).set 16 (wX 17 ([wI 2] ++ wub 14000 1)))
set_option maxRecDepth 100000 in
theorem bd_s111_b : wbdE [(1, wD 9 [14348907, 28697814], some 18)] bT1 bC1 rW_s111 (wI 4294967295) bW_s111_b = true := by decide +kernel
def bW_s112_n : List WC := ((((rW_s112.take 15 ++ (wM0 ++ [])).set 11 (wX 14 ([wI 4294967295, wI 0, wD 1 [0, 1, 2, 3], wI 0, wI 0, wI 172761660, wI 0, wI 0, wI 4294967295, wI 0, wI 0] ++ wub 10000 11))).set 15 (wO 6 [wA 0, wA 17, wD 10 [0, 1, 16, 17], wI 4, wZ, wZ, wU 910006, wU 910007, wU 910008, wA 16])).set 16 (wX 17 ([wI 4294967295] ++ wub 14000 1)))
set_option maxRecDepth 100000 in
theorem bd_s112_n : wbdE [(1, wD 9 [14348907, 28697814], none)] [] bC0 rW_s112 (wI 4) bW_s112_n = true := by decide +kernel
def bW_s112_a : List WC := ((((rW_s112.take 15 ++ (wM0 ++ bT0)).set 11 (wX 14 ([wI 1, wI 0, wD 1 [0, 1, 2, 3], wI 0, wI 0, wI 172761660, wI 0, wI 0, wI 1, wI 0, wI 0] ++ wub 10000 11))).set 15 (wO 6 [wA 0, wA 17, wD 10 [0, 1, 16, 17], wI 4294967295, wA 18, wZ, wU 910006, wU 910007, wU 910008, wA 16])).set 16 (wX 17 ([wI 1] ++ wub 14000 1)))
set_option maxRecDepth 100000 in
theorem bd_s112_a : wbdE [(1, wD 9 [14348907, 28697814], some 18)] bT0 bC1 rW_s112 (wI 4294967295) bW_s112_a = true := by decide +kernel
