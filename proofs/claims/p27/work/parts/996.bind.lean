/-! the law's texts, bound: some of them (written by wip/p27/c990.py) -/
def bW_gby_a : List WC := ((((rW_gby.take 15 ++ (wM0 ++ bT0)).set 11 (wX 14 ([wI 1, wI 0] ++ wub 10000 2))).set 15 (wO 6 [wA 0, wA 17, wD 10 [0, 1, 16, 17], wI 4294967295, wA 18, wZ, wI 1, wU 910007, wU 910008, wA 16])).set 16 (wX 17 ([wI 1] ++ wub 14000 1)))
set_option maxRecDepth 100000 in
theorem bd_gby_a : wbdE [(10, wD 9 [14348907, 28697814], some 18)] bT0 bC1 rW_gby (wI 4294967295) bW_gby_a = true := by decide +kernel
def bW_gby_b : List WC := ((((rW_gby.take 15 ++ (wM0 ++ bT1)).set 11 (wX 14 ([wI 2, wI 0] ++ wub 10000 2))).set 15 (wO 6 [wA 0, wA 17, wD 10 [0, 1, 16, 17], wI 4294967295, wA 18, wZ, wI 1, wU 910007, wU 910008, wA 16])).set 16 (wX 17 ([wI 2] ++ wub 14000 1)))
set_option maxRecDepth 100000 in
theorem bd_gby_b : wbdE [(10, wD 9 [14348907, 28697814], some 18)] bT1 bC1 rW_gby (wI 4294967295) bW_gby_b = true := by decide +kernel
def bW_lo0_n : List WC := ((rW_lo0.take 15 ++ (wM0 ++ [])).set 15 (wO 6 [wA 0, wA 17, wD 10 [0, 1, 16, 17], wI 6, wZ, wZ, wU 910006, wU 910007, wU 910008, wA 16]))
set_option maxRecDepth 100000 in
theorem bd_lo0_n : wbdE [(1, wI 14348907, none)] [] bC0 rW_lo0 (wI 6) bW_lo0_n = true := by decide +kernel
def bW_lo0_a : List WC := ((rW_lo0.take 15 ++ (wM0 ++ bT0)).set 15 (wO 6 [wA 0, wA 17, wD 10 [0, 1, 16, 17], wI 4294967295, wA 18, wZ, wU 910006, wU 910007, wU 910008, wA 16]))
set_option maxRecDepth 100000 in
theorem bd_lo0_a : wbdE [(1, wI 14348907, some 18)] bT0 bC1 rW_lo0 (wI 4294967295) bW_lo0_a = true := by decide +kernel
def bW_lo16_n : List WC := ((rW_lo16.take 15 ++ (wM0 ++ [])).set 15 (wO 6 [wA 0, wA 17, wD 10 [0, 1, 16, 17], wI 6, wZ, wZ, wU 910006, wU 910007, wU 910008, wA 16]))
set_option maxRecDepth 100000 in
theorem bd_lo16_n : wbdE [(1, wI 14348907, none)] [] bC0 rW_lo16 (wI 6) bW_lo16_n = true := by decide +kernel
def bW_lo16_a : List WC := ((rW_lo16.take 15 ++ (wM0 ++ bT0)).set 15 (wO 6 [wA 0, wA 17, wD 10 [0, 1, 16, 17], wI 4294967295, wA 18, wZ, wU 910006, wU 910007, wU 910008, wA 16]))
set_option maxRecDepth 100000 in
theorem bd_lo16_a : wbdE [(1, wI 14348907, some 18)] bT0 bC1 rW_lo16 (wI 4294967295) bW_lo16_a = true := by decide +kernel
def bW_glab_n : List WC := ((rW_glab.take 15 ++ (wM0 ++ [])).set 15 (wO 6 [wA 0, wA 17, wD 10 [0, 1, 16, 17], wI 15, wZ, wZ, wI 0, wU 910007, wU 910008, wA 16]))
set_option maxRecDepth 100000 in
theorem bd_glab_n : wbdE [(3, wD 9 [14348907, 28697814], none)] [] bC0 rW_glab (wI 15) bW_glab_n = true := by decide +kernel
def bW_glab_a : List WC := ((rW_glab.take 15 ++ (wM0 ++ bT0)).set 15 (wO 6 [wA 0, wA 17, wD 10 [0, 1, 16, 17], wI 4294967295, wA 18, wZ, wI 0, wU 910007, wU 910008, wA 16]))
set_option maxRecDepth 100000 in
theorem bd_glab_a : wbdE [(3, wD 9 [14348907, 28697814], some 18)] bT0 bC1 rW_glab (wI 4294967295) bW_glab_a = true := by decide +kernel
def bW_glab_b : List WC := ((rW_glab.take 15 ++ (wM0 ++ bT1)).set 15 (wO 6 [wA 0, wA 17, wD 10 [0, 1, 16, 17], wI 4294967295, wA 18, wZ, wI 0, wU 910007, wU 910008, wA 16]))
set_option maxRecDepth 100000 in
theorem bd_glab_b : wbdE [(3, wD 9 [14348907, 28697814], some 18)] bT1 bC1 rW_glab (wI 4294967295) bW_glab_b = true := by decide +kernel
def bW_pbad_n : List WC := ((rW_pbad.take 15 ++ (wM0 ++ [])).set 15 (wO 6 [wA 0, wA 17, wD 10 [0, 1, 16, 17], wI 4, wZ, wZ, wU 910006, wU 910007, wU 910008, wA 16]))
set_option maxRecDepth 100000 in
theorem bd_pbad_n : wbdE [(1, wI 14348907, none)] [] bC0 rW_pbad (wI 4) bW_pbad_n = true := by decide +kernel
def bW_pbad_a : List WC := ((rW_pbad.take 15 ++ (wM0 ++ bT0)).set 15 (wO 6 [wA 0, wA 17, wD 10 [0, 1, 16, 17], wI 7, wA 18, wZ, wU 910006, wU 910007, wU 910008, wA 16]))
set_option maxRecDepth 100000 in
theorem bd_pbad_a : wbdE [(1, wI 14348907, some 18)] bT0 bC1 rW_pbad (wI 7) bW_pbad_a = true := by decide +kernel
def bW_m1_n : List WC := (((rW_m1.take 15 ++ (wM0 ++ [])).set 11 (wX 14 ([wI 4294967295, wI 4294967295, wI 0] ++ wub 10000 3))).set 15 (wO 6 [wA 0, wA 17, wD 10 [0, 1, 16, 17], wI 11, wZ, wZ, wI 0, wU 910007, wU 910008, wA 16]))
set_option maxRecDepth 100000 in
theorem bd_m1_n : wbdE [(3, wI 28697814, none)] [] bC0 rW_m1 (wI 11) bW_m1_n = true := by decide +kernel
def bW_m1_b : List WC := (((rW_m1.take 15 ++ (wM0 ++ bT1)).set 11 (wX 14 ([wI 1, wI 1, wI 0] ++ wub 10000 3))).set 15 (wO 6 [wA 0, wA 17, wD 10 [0, 1, 16, 17], wI 4294967295, wA 18, wZ, wI 0, wU 910007, wU 910008, wA 16]))
set_option maxRecDepth 100000 in
theorem bd_m1_b : wbdE [(3, wI 28697814, some 18)] bT1 bC1 rW_m1 (wI 4294967295) bW_m1_b = true := by decide +kernel
def bW_m2_nn : List WC := ((((rW_m2.take 15 ++ (wM0 ++ [])).set 11 (wX 14 ([wI 4294967295] ++ wub 10000 1))).set 15 (wO 6 [wA 0, wA 17, wD 10 [0, 1, 16, 17], wI 17, wZ, wZ, wI 1, wI 4294967295, wI 4294967295, wA 16])).set 16 (wX 17 ([wI 4294967295] ++ wub 14000 1)))
set_option maxRecDepth 100000 in
theorem bd_m2_nn : wbdE [(5, wI 28697814, none), (7, wI 14348907, none)] [] bC0 rW_m2 (wI 17) bW_m2_nn = true := by decide +kernel
def bW_m2_na : List WC := ((((rW_m2.take 15 ++ (wM0 ++ bT0)).set 11 (wX 14 ([wI 4294967295] ++ wub 10000 1))).set 15 (wO 6 [wA 0, wA 17, wD 10 [0, 1, 16, 17], wI 17, wZ, wA 18, wI 1, wI 4294967295, wI 0, wA 16])).set 16 (wX 17 ([wI 4294967295] ++ wub 14000 1)))
set_option maxRecDepth 100000 in
theorem bd_m2_na : wbdE [(5, wI 28697814, none), (7, wI 14348907, some 18)] bT0 bC1 rW_m2 (wI 17) bW_m2_na = true := by decide +kernel
def bW_m2_bn : List WC := ((((rW_m2.take 15 ++ (wM0 ++ bT1)).set 11 (wX 14 ([wI 1] ++ wub 10000 1))).set 15 (wO 6 [wA 0, wA 17, wD 10 [0, 1, 16, 17], wI 24, wA 18, wZ, wI 1, wI 1, wI 4294967295, wA 16])).set 16 (wX 17 ([wI 1] ++ wub 14000 1)))
set_option maxRecDepth 100000 in
theorem bd_m2_bn : wbdE [(5, wI 28697814, some 18), (7, wI 14348907, none)] bT1 bC1 rW_m2 (wI 24) bW_m2_bn = true := by decide +kernel
def bW_m2_ba : List WC := ((((rW_m2.take 15 ++ (wM0 ++ bT2)).set 11 (wX 14 ([wI 1] ++ wub 10000 1))).set 15 (wO 6 [wA 0, wA 17, wD 10 [0, 1, 16, 17], wI 4294967295, wA 18, wA 22, wI 1, wI 1, wI 0, wA 16])).set 16 (wX 17 ([wI 1] ++ wub 14000 1)))
set_option maxRecDepth 100000 in
theorem bd_m2_ba : wbdE [(5, wI 28697814, some 18), (7, wI 14348907, some 22)] bT2 bC2 rW_m2 (wI 4294967295) bW_m2_ba = true := by decide +kernel
def bW_m3_n : List WC := ((((rW_m3.take 15 ++ (wM0 ++ [])).set 11 (wX 14 ([wI 4294967295, wI 4294967295, wI 0] ++ wub 10000 3))).set 15 (wO 6 [wA 0, wA 17, wD 10 [0, 1, 16, 17], wI 17, wZ, wZ, wI 1, wU 910007, wU 910008, wA 16])).set 16 (wX 17 ([wI 4294967295] ++ wub 14000 1)))
set_option maxRecDepth 100000 in
theorem bd_m3_n : wbdE [(5, wI 28697814, none)] [] bC0 rW_m3 (wI 17) bW_m3_n = true := by decide +kernel
def bW_m3_b : List WC := ((((rW_m3.take 15 ++ (wM0 ++ bT1)).set 11 (wX 14 ([wI 1, wI 1, wI 0] ++ wub 10000 3))).set 15 (wO 6 [wA 0, wA 17, wD 10 [0, 1, 16, 17], wI 4294967295, wA 18, wZ, wI 1, wU 910007, wU 910008, wA 16])).set 16 (wX 17 ([wI 1] ++ wub 14000 1)))
set_option maxRecDepth 100000 in
theorem bd_m3_b : wbdE [(5, wI 28697814, some 18)] bT1 bC1 rW_m3 (wI 4294967295) bW_m3_b = true := by decide +kernel
