/-! the law's texts, bound: some of them (written by wip/p27/c990.py) -/
def bW_pb21_n : List WC := ((rW_pb21.take 15 ++ (wM0 ++ [])).set 15 (wO 6 [wA 0, wA 17, wD 10 [0, 1, 16, 17], wI 4, wZ, wZ, wU 910006, wU 910007, wU 910008, wA 16]))
set_option maxRecDepth 100000 in
theorem bd_pb21_n : wbdE [(1, wI 28697814, none)] [] bC0 rW_pb21 (wI 4) bW_pb21_n = true := by decide +kernel
def bW_pb21_b : List WC := ((rW_pb21.take 15 ++ (wM0 ++ bT1)).set 15 (wO 6 [wA 0, wA 17, wD 10 [0, 1, 16, 17], wI 4294967295, wA 18, wZ, wU 910006, wU 910007, wU 910008, wA 16]))
set_option maxRecDepth 100000 in
theorem bd_pb21_b : wbdE [(1, wI 28697814, some 18)] bT1 bC1 rW_pb21 (wI 4294967295) bW_pb21_b = true := by decide +kernel
def bW_pb22_n : List WC := ((rW_pb22.take 15 ++ (wM0 ++ [])).set 15 (wO 6 [wA 0, wA 17, wD 10 [0, 1, 16, 17], wI 4, wZ, wZ, wU 910006, wU 910007, wU 910008, wA 16]))
set_option maxRecDepth 100000 in
theorem bd_pb22_n : wbdE [(1, wI 28697814, none)] [] bC0 rW_pb22 (wI 4) bW_pb22_n = true := by decide +kernel
def bW_pb22_b : List WC := ((rW_pb22.take 15 ++ (wM0 ++ bT1)).set 15 (wO 6 [wA 0, wA 17, wD 10 [0, 1, 16, 17], wI 4294967295, wA 18, wZ, wU 910006, wU 910007, wU 910008, wA 16]))
set_option maxRecDepth 100000 in
theorem bd_pb22_b : wbdE [(1, wI 28697814, some 18)] bT1 bC1 rW_pb22 (wI 4294967295) bW_pb22_b = true := by decide +kernel
def bW_s000_n : List WC := ((((rW_s000.take 15 ++ (wM0 ++ [])).set 11 (wX 14 ([wI 209135520, wI 4294967295, wD 5 [0, 1, 2, 3, 4, 5], wI 0] ++ wub 10000 4))).set 15 (wO 6 [wA 0, wA 17, wD 10 [0, 1, 16, 17], wI 4, wZ, wZ, wU 910006, wU 910007, wU 910008, wA 16])).set 16 (wX 17 ([wI 4294967295] ++ wub 14000 1)))
set_option maxRecDepth 100000 in
theorem bd_s000_n : wbdE [(1, wD 9 [14348907, 28697814], none)] [] bC0 rW_s000 (wI 4) bW_s000_n = true := by decide +kernel
def bW_s000_a : List WC := ((((rW_s000.take 15 ++ (wM0 ++ bT0)).set 11 (wX 14 ([wI 209135520, wI 0, wD 5 [0, 1, 2, 3, 4, 5], wI 0] ++ wub 10000 4))).set 15 (wO 6 [wA 0, wA 17, wD 10 [0, 1, 16, 17], wI 4294967295, wA 18, wZ, wU 910006, wU 910007, wU 910008, wA 16])).set 16 (wX 17 ([wI 1] ++ wub 14000 1)))
set_option maxRecDepth 100000 in
theorem bd_s000_a : wbdE [(1, wD 9 [14348907, 28697814], some 18)] bT0 bC1 rW_s000 (wI 4294967295) bW_s000_a = true := by decide +kernel
def bW_s000_b : List WC := ((((rW_s000.take 15 ++ (wM0 ++ bT1)).set 11 (wX 14 ([wI 209135520, wI 0, wD 5 [0, 1, 2, 3, 4, 5], wI 0] ++ wub 10000 4))).set 15 (wO 6 [wA 0, wA 17, wD 10 [0, 1, 16, 17], wI 4294967295, wA 18, wZ, wU 910006, wU 910007, wU 910008, wA 16])).set 16 (wX 17 ([wI 2] ++ wub 14000 1)))
set_option maxRecDepth 100000 in
theorem bd_s000_b : wbdE [(1, wD 9 [14348907, 28697814], some 18)] bT1 bC1 rW_s000 (wI 4294967295) bW_s000_b = true := by decide +kernel
def bW_s001_n : List WC := ((((rW_s001.take 15 ++ (wM0 ++ [])).set 11 (wX 14 ([wI 209135520, wI 4294967295, wD 5 [0, 1, 2, 3], wI 0] ++ wub 10000 4))).set 15 (wO 6 [wA 0, wA 17, wD 10 [0, 1, 16, 17], wI 4, wZ, wZ, wU 910006, wU 910007, wU 910008, wA 16])).set 16 (wX 17 ([wI 4294967295] ++ wub 14000 1)))
set_option maxRecDepth 100000 in
theorem bd_s001_n : wbdE [(1, wD 9 [14348907, 28697814], none)] [] bC0 rW_s001 (wI 4) bW_s001_n = true := by decide +kernel
def bW_s001_a : List WC := ((((rW_s001.take 15 ++ (wM0 ++ bT0)).set 11 (wX 14 ([wI 209135520, wI 1, wD 5 [0, 1, 2, 3], wI 0] ++ wub 10000 4))).set 15 (wO 6 [wA 0, wA 17, wD 10 [0, 1, 16, 17], wI 4294967295, wA 18, wZ, wU 910006, wU 910007, wU 910008, wA 16])).set 16 (wX 17 ([wI 1] ++ wub 14000 1)))
set_option maxRecDepth 100000 in
theorem bd_s001_a : wbdE [(1, wD 9 [14348907, 28697814], some 18)] bT0 bC1 rW_s001 (wI 4294967295) bW_s001_a = true := by decide +kernel
def bW_s001_b : List WC := ((((rW_s001.take 15 ++ (wM0 ++ bT1)).set 11 (wX 14 ([wI 209135520, wI 2, wD 5 [0, 1, 2, 3], wI 0] ++ wub 10000 4))).set 15 (wO 6 [wA 0, wA 17, wD 10 [0, 1, 16, 17], wI 4294967295, wA 18, wZ, wU 910006, wU 910007, wU 910008, wA 16])).set 16 (wX 17 ([wI 2] ++ wub 14000 1)))
set_option maxRecDepth 100000 in
theorem bd_s001_b : wbdE [(1, wD 9 [14348907, 28697814], some 18)] bT1 bC1 rW_s001 (wI 4294967295) bW_s001_b = true := by decide +kernel
def bW_s002_n : List WC := ((((rW_s002.take 15 ++ (wM0 ++ [])).set 11 (wX 14 ([wI 209135520, wI 172761660, wI 0, wI 0, wI 4294967295, wI 0, wI 0] ++ wub 10000 7))).set 15 (wO 6 [wA 0, wA 17, wD 10 [0, 1, 16, 17], wI 4, wZ, wZ, wU 910006, wU 910007, wU 910008, wA 16])).set 16 (wX 17 ([wI 4294967295] ++ wub 14000 1)))
set_option maxRecDepth 100000 in
theorem bd_s002_n : wbdE [(1, wD 9 [14348907, 28697814], none)] [] bC0 rW_s002 (wI 4) bW_s002_n = true := by decide +kernel
def bW_s002_a : List WC := ((((rW_s002.take 15 ++ (wM0 ++ bT0)).set 11 (wX 14 ([wI 209135520, wI 172761660, wI 0, wI 0, wI 1, wI 0, wI 0] ++ wub 10000 7))).set 15 (wO 6 [wA 0, wA 17, wD 10 [0, 1, 16, 17], wI 4294967295, wA 18, wZ, wU 910006, wU 910007, wU 910008, wA 16])).set 16 (wX 17 ([wI 1] ++ wub 14000 1)))
set_option maxRecDepth 100000 in
theorem bd_s002_a : wbdE [(1, wD 9 [14348907, 28697814], some 18)] bT0 bC1 rW_s002 (wI 4294967295) bW_s002_a = true := by decide +kernel
def bW_s002_b : List WC := ((((rW_s002.take 15 ++ (wM0 ++ bT1)).set 11 (wX 14 ([wI 209135520, wI 172761660, wI 0, wI 0, wI 2, wI 0, wI 0] ++ wub 10000 7))).set 15 (wO 6 [wA 0, wA 17, wD 10 [0, 1, 16, 17], wI 4294967295, wA 18, wZ, wU 910006, wU 910007, wU 910008, wA 16])).set 16 (wX 17 ([wI 2] ++ wub 14000 1)))
set_option maxRecDepth 100000 in
theorem bd_s002_b : wbdE [(1, wD 9 [14348907, 28697814], some 18)] bT1 bC1 rW_s002 (wI 4294967295) bW_s002_b = true := by decide +kernel
def bW_s003_n : List WC := (((rW_s003.take 15 ++ (wM0 ++ [])).set 15 (wO 6 [wA 0, wA 17, wD 10 [0, 1, 16, 17], wI 4, wZ, wZ, wU 910006, wU 910007, wU 910008, wA 16])).set 16 (wX 17 ([wI 4294967295] ++ wub 14000 1)))
set_option maxRecDepth 100000 in
theorem bd_s003_n : wbdE [(1, wD 9 [14348907, 28697814], none)] [] bC0 rW_s003 (wI 4) bW_s003_n = true := by decide +kernel
def bW_s003_a : List WC := (((rW_s003.take 15 ++ (wM0 ++ bT0)).set 15 (wO 6 [wA 0, wA 17, wD 10 [0, 1, 16, 17], wI 4294967295, wA 18, wZ, wU 910006, wU 910007, wU 910008, wA 16])).set 16 (wX 17 ([wI 1] ++ wub 14000 1)))
set_option maxRecDepth 100000 in
theorem bd_s003_a : wbdE [(1, wD 9 [14348907, 28697814], some 18)] bT0 bC1 rW_s003 (wI 4294967295) bW_s003_a = true := by decide +kernel
def bW_s003_b : List WC := (((rW_s003.take 15 ++ (wM0 ++ bT1)).set 15 (wO 6 [wA 0, wA 17, wD 10 [0, 1, 16, 17], wI 4294967295, wA 18, wZ, wU 910006, wU 910007, wU 910008, wA 16])).set 16 (wX 17 ([wI 2] ++ wub 14000 1)))
set_option maxRecDepth 100000 in
theorem bd_s003_b : wbdE [(1, wD 9 [14348907, 28697814], some 18)] bT1 bC1 rW_s003 (wI 4294967295) bW_s003_b = true := by decide +kernel
def bW_s010_n : List WC := ((((rW_s010.take 15 ++ (wM0 ++ [])).set 11 (wX 14 ([wI 0, wD 1 [0, 1, 2, 3], wI 0, wI 4294967295, wD 5 [0, 1, 2, 3, 4, 5], wI 0] ++ wub 10000 6))).set 15 (wO 6 [wA 0, wA 17, wD 10 [0, 1, 16, 17], wI 4, wZ, wZ, wU 910006, wU 910007, wU 910008, wA 16])).set 16 (wX 17 ([wI 4294967295] ++ wub 14000 1)))
set_option maxRecDepth 100000 in
theorem bd_s010_n : wbdE [(1, wD 9 [14348907, 28697814], none)] [] bC0 rW_s010 (wI 4) bW_s010_n = true := by decide +kernel
def bW_s010_a : List WC := ((((rW_s010.take 15 ++ (wM0 ++ bT0)).set 11 (wX 14 ([wI 0, wD 1 [0, 1, 2, 3], wI 0, wI 0, wD 5 [0, 1, 2, 3, 4, 5], wI 0] ++ wub 10000 6))).set 15 (wO 6 [wA 0, wA 17, wD 10 [0, 1, 16, 17], wI 4294967295, wA 18, wZ, wU 910006, wU 910007, wU 910008, wA 16])).set 16 (wX 17 ([wI 1] ++ wub 14000 1)))
set_option maxRecDepth 100000 in
theorem bd_s010_a : wbdE [(1, wD 9 [14348907, 28697814], some 18)] bT0 bC1 rW_s010 (wI 4294967295) bW_s010_a = true := by decide +kernel
def bW_s010_b : List WC := ((((rW_s010.take 15 ++ (wM0 ++ bT1)).set 11 (wX 14 ([wI 0, wD 1 [0, 1, 2, 3], wI 0, wI 0, wD 5 [0, 1, 2, 3, 4, 5], wI 0] ++ wub 10000 6))).set 15 (wO 6 [wA 0, wA 17, wD 10 [0, 1, 16, 17], wI 4294967295, wA 18, wZ, wU 910006, wU 910007, wU 910008, wA 16])).set 16 (wX 17 ([wI 2] ++ wub 14000 1)))
set_option maxRecDepth 100000 in
theorem bd_s010_b : wbdE [(1, wD 9 [14348907, 28697814], some 18)] bT1 bC1 rW_s010 (wI 4294967295) bW_s010_b = true := by decide +kernel
def bW_s011_n : List WC := ((((rW_s011.take 15 ++ (wM0 ++ [])).set 11 (wX 14 ([wI 0, wD 1 [0, 1, 2, 3], wI 0, wI 4294967295, wD 5 [0, 1, 2, 3], wI 0] ++ wub 10000 6))).set 15 (wO 6 [wA 0, wA 17, wD 10 [0, 1, 16, 17], wI 4, wZ, wZ, wU 910006, wU 910007, wU 910008, wA 16])).set 16 (wX 17 ([wI 4294967295] ++ wub 14000 1)))
set_option maxRecDepth 100000 in
theorem bd_s011_n : wbdE [(1, wD 9 [14348907, 28697814], none)] [] bC0 rW_s011 (wI 4) bW_s011_n = true := by decide +kernel
def bW_s011_a : List WC := ((((rW_s011.take 15 ++ (wM0 ++ bT0)).set 11 (wX 14 ([wI 0, wD 1 [0, 1, 2, 3], wI 0, wI 1, wD 5 [0, 1, 2, 3], wI 0] ++ wub 10000 6))).set 15 (wO 6 [wA 0, wA 17, wD 10 [0, 1, 16, 17], wI 4294967295, wA 18, wZ, wU 910006, wU 910007, wU 910008, wA 16])).set 16 (wX 17 ([wI 1] ++ wub 14000 1)))
set_option maxRecDepth 100000 in
theorem bd_s011_a : wbdE [(1, wD 9 [14348907, 28697814], some 18)] bT0 bC1 rW_s011 (wI 4294967295) bW_s011_a = true := by decide +kernel
def bW_s011_b : List WC := ((((rW_s011.take 15 ++ (wM0 ++ bT1)).set 11 (wX 14 ([wI 0, wD 1 [0, 1, 2, 3], wI 0, wI 2, wD 5 [0, 1, 2, 3], wI 0] ++ wub 10000 6))).set 15 (wO 6 [wA 0, wA 17, wD 10 [0, 1, 16, 17], wI 4294967295, wA 18, wZ, wU 910006, wU 910007, wU 910008, wA 16])).set 16 (wX 17 ([wI 2] ++ wub 14000 1)))
set_option maxRecDepth 100000 in
theorem bd_s011_b : wbdE [(1, wD 9 [14348907, 28697814], some 18)] bT1 bC1 rW_s011 (wI 4294967295) bW_s011_b = true := by decide +kernel
def bW_s012_n : List WC := ((((rW_s012.take 15 ++ (wM0 ++ [])).set 11 (wX 14 ([wI 0, wD 1 [0, 1, 2, 3], wI 0, wI 172761660, wI 0, wI 0, wI 4294967295, wI 0, wI 0] ++ wub 10000 9))).set 15 (wO 6 [wA 0, wA 17, wD 10 [0, 1, 16, 17], wI 4, wZ, wZ, wU 910006, wU 910007, wU 910008, wA 16])).set 16 (wX 17 ([wI 4294967295] ++ wub 14000 1)))
set_option maxRecDepth 100000 in
theorem bd_s012_n : wbdE [(1, wD 9 [14348907, 28697814], none)] [] bC0 rW_s012 (wI 4) bW_s012_n = true := by decide +kernel
def bW_s012_a : List WC := ((((rW_s012.take 15 ++ (wM0 ++ bT0)).set 11 (wX 14 ([wI 0, wD 1 [0, 1, 2, 3], wI 0, wI 172761660, wI 0, wI 0, wI 1, wI 0, wI 0] ++ wub 10000 9))).set 15 (wO 6 [wA 0, wA 17, wD 10 [0, 1, 16, 17], wI 4294967295, wA 18, wZ, wU 910006, wU 910007, wU 910008, wA 16])).set 16 (wX 17 ([wI 1] ++ wub 14000 1)))
set_option maxRecDepth 100000 in
theorem bd_s012_a : wbdE [(1, wD 9 [14348907, 28697814], some 18)] bT0 bC1 rW_s012 (wI 4294967295) bW_s012_a = true := by decide +kernel
def bW_s012_b : List WC := ((((rW_s012.take 15 ++ (wM0 ++ bT1)).set 11 (wX 14 ([wI 0, wD 1 [0, 1, 2, 3], wI 0, wI 172761660, wI 0, wI 0, wI 2, wI 0, wI 0] ++ wub 10000 9))).set 15 (wO 6 [wA 0, wA 17, wD 10 [0, 1, 16, 17], wI 4294967295, wA 18, wZ, wU 910006, wU 910007, wU 910008, wA 16])).set 16 (wX 17 ([wI 2] ++ wub 14000 1)))
set_option maxRecDepth 100000 in
theorem bd_s012_b : wbdE [(1, wD 9 [14348907, 28697814], some 18)] bT1 bC1 rW_s012 (wI 4294967295) bW_s012_b = true := by decide +kernel
def bW_s013_n : List WC := (((rW_s013.take 15 ++ (wM0 ++ [])).set 15 (wO 6 [wA 0, wA 17, wD 10 [0, 1, 16, 17], wI 4, wZ, wZ, wU 910006, wU 910007, wU 910008, wA 16])).set 16 (wX 17 ([wI 4294967295] ++ wub 14000 1)))
set_option maxRecDepth 100000 in
theorem bd_s013_n : wbdE [(1, wD 9 [14348907, 28697814], none)] [] bC0 rW_s013 (wI 4) bW_s013_n = true := by decide +kernel
def bW_s013_a : List WC := (((rW_s013.take 15 ++ (wM0 ++ bT0)).set 15 (wO 6 [wA 0, wA 17, wD 10 [0, 1, 16, 17], wI 4294967295, wA 18, wZ, wU 910006, wU 910007, wU 910008, wA 16])).set 16 (wX 17 ([wI 1] ++ wub 14000 1)))
set_option maxRecDepth 100000 in
theorem bd_s013_a : wbdE [(1, wD 9 [14348907, 28697814], some 18)] bT0 bC1 rW_s013 (wI 4294967295) bW_s013_a = true := by decide +kernel
def bW_s013_b : List WC := (((rW_s013.take 15 ++ (wM0 ++ bT1)).set 15 (wO 6 [wA 0, wA 17, wD 10 [0, 1, 16, 17], wI 4294967295, wA 18, wZ, wU 910006, wU 910007, wU 910008, wA 16])).set 16 (wX 17 ([wI 2] ++ wub 14000 1)))
set_option maxRecDepth 100000 in
theorem bd_s013_b : wbdE [(1, wD 9 [14348907, 28697814], some 18)] bT1 bC1 rW_s013 (wI 4294967295) bW_s013_b = true := by decide +kernel
def bW_s020_n : List WC := ((((rW_s020.take 15 ++ (wM0 ++ [])).set 11 (wX 14 ([wD 1 [0, 1, 2, 3, 4, 5], wI 4294967295, wD 5 [0, 1, 2, 3, 4, 5], wI 0] ++ wub 10000 4))).set 15 (wO 6 [wA 0, wA 17, wD 10 [0, 1, 16, 17], wI 4, wZ, wZ, wU 910006, wU 910007, wU 910008, wA 16])).set 16 (wX 17 ([wI 4294967295] ++ wub 14000 1)))
set_option maxRecDepth 100000 in
theorem bd_s020_n : wbdE [(1, wD 9 [14348907, 28697814], none)] [] bC0 rW_s020 (wI 4) bW_s020_n = true := by decide +kernel
def bW_s020_a : List WC := ((((rW_s020.take 15 ++ (wM0 ++ bT0)).set 11 (wX 14 ([wD 1 [0, 1, 2, 3, 4, 5], wI 0, wD 5 [0, 1, 2, 3, 4, 5], wI 0] ++ wub 10000 4))).set 15 (wO 6 [wA 0, wA 17, wD 10 [0, 1, 16, 17], wI 4294967295, wA 18, wZ, wU 910006, wU 910007, wU 910008, wA 16])).set 16 (wX 17 ([wI 1] ++ wub 14000 1)))
set_option maxRecDepth 100000 in
theorem bd_s020_a : wbdE [(1, wD 9 [14348907, 28697814], some 18)] bT0 bC1 rW_s020 (wI 4294967295) bW_s020_a = true := by decide +kernel
