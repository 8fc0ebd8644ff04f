/-! the law's texts, bound: some of them (written by wip/p27/c990.py) -/
def bW_tan_ : List WC := ((rW_tan.take 15 ++ (wM0 ++ [])).set 15 (wO 6 [wA 0, wA 17, wD 10 [0, 1, 16, 17], wI 4294967295, wZ, wZ, wU 910006, wU 910007, wU 910008, wA 16]))
set_option maxRecDepth 100000 in
theorem bd_tan_ : wbdE [] [] bC0 rW_tan (wI 4294967295) bW_tan_ = true := by decide +kernel
def bW_tau_ : List WC := (((rW_tau.take 15 ++ (wM0 ++ [])).set 11 (wX 14 ([wI 1, wI 9, wI 0] ++ wub 10000 3))).set 15 (wO 6 [wA 0, wA 17, wD 10 [0, 1, 16, 17], wI 4294967295, wZ, wZ, wU 910006, wU 910007, wU 910008, wA 16]))
set_option maxRecDepth 100000 in
theorem bd_tau_ : wbdE [] [] bC0 rW_tau (wI 4294967295) bW_tau_ = true := by decide +kernel
def bW_tb_n : List WC := ((rW_tb.take 15 ++ (wM0 ++ [])).set 15 (wO 6 [wA 0, wA 17, wD 10 [0, 1, 16, 17], wI 21, wZ, wZ, wU 910006, wU 910007, wU 910008, wA 16]))
set_option maxRecDepth 100000 in
theorem bd_tb_n : wbdE [(8, wI 14348907, none)] [] bC0 rW_tb (wI 21) bW_tb_n = true := by decide +kernel
def bW_tb_a : List WC := ((rW_tb.take 15 ++ (wM0 ++ bT0)).set 15 (wO 6 [wA 0, wA 17, wD 10 [0, 1, 16, 17], wI 4294967295, wZ, wZ, wU 910006, wU 910007, wU 910008, wA 16]))
set_option maxRecDepth 100000 in
theorem bd_tb_a : wbdE [(8, wI 14348907, some 18)] bT0 bC1 rW_tb (wI 4294967295) bW_tb_a = true := by decide +kernel
def bW_drop_n : List WC := ((rW_drop.take 15 ++ (wM0 ++ [])).set 15 (wO 6 [wA 0, wA 17, wD 10 [0, 1, 16, 17], wI 5, wZ, wZ, wU 910006, wU 910007, wU 910008, wA 16]))
set_option maxRecDepth 100000 in
theorem bd_drop_n : wbdE [(1, wD 9 [14348907, 28697814], none)] [] bC0 rW_drop (wI 5) bW_drop_n = true := by decide +kernel
def bW_drop_a : List WC := ((rW_drop.take 15 ++ (wM0 ++ bT0)).set 15 (wO 6 [wA 0, wA 17, wD 10 [0, 1, 16, 17], wI 4294967295, wA 18, wZ, wU 910006, wU 910007, wU 910008, wA 16]))
set_option maxRecDepth 100000 in
theorem bd_drop_a : wbdE [(1, wD 9 [14348907, 28697814], some 18)] bT0 bC1 rW_drop (wI 4294967295) bW_drop_a = true := by decide +kernel
def bW_drop_b : List WC := ((rW_drop.take 15 ++ (wM0 ++ bT1)).set 15 (wO 6 [wA 0, wA 17, wD 10 [0, 1, 16, 17], wI 4294967295, wA 18, wZ, wU 910006, wU 910007, wU 910008, wA 16]))
set_option maxRecDepth 100000 in
theorem bd_drop_b : wbdE [(1, wD 9 [14348907, 28697814], some 18)] bT1 bC1 rW_drop (wI 4294967295) bW_drop_b = true := by decide +kernel
def bW_gsum_n : List WC := (((rW_gsum.take 15 ++ (wM0 ++ [])).set 11 (wX 14 ([wI 4294967295] ++ wub 10000 1))).set 15 (wO 6 [wA 0, wA 17, wD 10 [0, 1, 16, 17], wI 22, wZ, wZ, wI 1, wU 910007, wU 910008, wA 16]))
set_option maxRecDepth 100000 in
theorem bd_gsum_n : wbdE [(8, wD 9 [14348907, 28697814], none)] [] bC0 rW_gsum (wI 22) bW_gsum_n = true := by decide +kernel
def bW_gsum_a : List WC := (((rW_gsum.take 15 ++ (wM0 ++ bT0)).set 11 (wX 14 ([wI 1] ++ wub 10000 1))).set 15 (wO 6 [wA 0, wA 17, wD 10 [0, 1, 16, 17], wI 4294967295, wA 18, wZ, wI 1, wU 910007, wU 910008, wA 16]))
set_option maxRecDepth 100000 in
theorem bd_gsum_a : wbdE [(8, wD 9 [14348907, 28697814], some 18)] bT0 bC1 rW_gsum (wI 4294967295) bW_gsum_a = true := by decide +kernel
def bW_gsum_b : List WC := (((rW_gsum.take 15 ++ (wM0 ++ bT1)).set 11 (wX 14 ([wI 2] ++ wub 10000 1))).set 15 (wO 6 [wA 0, wA 17, wD 10 [0, 1, 16, 17], wI 4294967295, wA 18, wZ, wI 1, wU 910007, wU 910008, wA 16]))
set_option maxRecDepth 100000 in
theorem bd_gsum_b : wbdE [(8, wD 9 [14348907, 28697814], some 18)] bT1 bC1 rW_gsum (wI 4294967295) bW_gsum_b = true := by decide +kernel
def bW_pa0_n : List WC := ((rW_pa0.take 15 ++ (wM0 ++ [])).set 15 (wO 6 [wA 0, wA 17, wD 10 [0, 1, 16, 17], wI 4, wZ, wZ, wU 910006, wU 910007, wU 910008, wA 16]))
set_option maxRecDepth 100000 in
theorem bd_pa0_n : wbdE [(1, wI 14348907, none)] [] bC0 rW_pa0 (wI 4) bW_pa0_n = true := by decide +kernel
def bW_pa0_a : List WC := ((rW_pa0.take 15 ++ (wM0 ++ bT0)).set 15 (wO 6 [wA 0, wA 17, wD 10 [0, 1, 16, 17], wI 4294967295, wA 18, wZ, wU 910006, wU 910007, wU 910008, wA 16]))
set_option maxRecDepth 100000 in
theorem bd_pa0_a : wbdE [(1, wI 14348907, some 18)] bT0 bC1 rW_pa0 (wI 4294967295) bW_pa0_a = true := by decide +kernel
def bW_pa1_n : List WC := ((rW_pa1.take 15 ++ (wM0 ++ [])).set 15 (wO 6 [wA 0, wA 17, wD 10 [0, 1, 16, 17], wI 4, wZ, wZ, wU 910006, wU 910007, wU 910008, wA 16]))
set_option maxRecDepth 100000 in
theorem bd_pa1_n : wbdE [(1, wI 14348907, none)] [] bC0 rW_pa1 (wI 4) bW_pa1_n = true := by decide +kernel
def bW_pa1_a : List WC := ((rW_pa1.take 15 ++ (wM0 ++ bT0)).set 15 (wO 6 [wA 0, wA 17, wD 10 [0, 1, 16, 17], wI 4294967295, wA 18, wZ, wU 910006, wU 910007, wU 910008, wA 16]))
set_option maxRecDepth 100000 in
theorem bd_pa1_a : wbdE [(1, wI 14348907, some 18)] bT0 bC1 rW_pa1 (wI 4294967295) bW_pa1_a = true := by decide +kernel
def bW_pa2_n : List WC := ((rW_pa2.take 15 ++ (wM0 ++ [])).set 15 (wO 6 [wA 0, wA 17, wD 10 [0, 1, 16, 17], wI 4, wZ, wZ, wU 910006, wU 910007, wU 910008, wA 16]))
set_option maxRecDepth 100000 in
theorem bd_pa2_n : wbdE [(1, wI 14348907, none)] [] bC0 rW_pa2 (wI 4) bW_pa2_n = true := by decide +kernel
def bW_pa2_a : List WC := ((rW_pa2.take 15 ++ (wM0 ++ bT0)).set 15 (wO 6 [wA 0, wA 17, wD 10 [0, 1, 16, 17], wI 4294967295, wA 18, wZ, wU 910006, wU 910007, wU 910008, wA 16]))
set_option maxRecDepth 100000 in
theorem bd_pa2_a : wbdE [(1, wI 14348907, some 18)] bT0 bC1 rW_pa2 (wI 4294967295) bW_pa2_a = true := by decide +kernel
def bW_pb00_n : List WC := ((rW_pb00.take 15 ++ (wM0 ++ [])).set 15 (wO 6 [wA 0, wA 17, wD 10 [0, 1, 16, 17], wI 4, wZ, wZ, wU 910006, wU 910007, wU 910008, wA 16]))
set_option maxRecDepth 100000 in
theorem bd_pb00_n : wbdE [(1, wI 28697814, none)] [] bC0 rW_pb00 (wI 4) bW_pb00_n = true := by decide +kernel
def bW_pb00_b : List WC := ((rW_pb00.take 15 ++ (wM0 ++ bT1)).set 15 (wO 6 [wA 0, wA 17, wD 10 [0, 1, 16, 17], wI 4294967295, wA 18, wZ, wU 910006, wU 910007, wU 910008, wA 16]))
set_option maxRecDepth 100000 in
theorem bd_pb00_b : wbdE [(1, wI 28697814, some 18)] bT1 bC1 rW_pb00 (wI 4294967295) bW_pb00_b = true := by decide +kernel
def bW_pb01_n : List WC := ((rW_pb01.take 15 ++ (wM0 ++ [])).set 15 (wO 6 [wA 0, wA 17, wD 10 [0, 1, 16, 17], wI 4, wZ, wZ, wU 910006, wU 910007, wU 910008, wA 16]))
set_option maxRecDepth 100000 in
theorem bd_pb01_n : wbdE [(1, wI 28697814, none)] [] bC0 rW_pb01 (wI 4) bW_pb01_n = true := by decide +kernel
def bW_pb01_b : List WC := ((rW_pb01.take 15 ++ (wM0 ++ bT1)).set 15 (wO 6 [wA 0, wA 17, wD 10 [0, 1, 16, 17], wI 4294967295, wA 18, wZ, wU 910006, wU 910007, wU 910008, wA 16]))
set_option maxRecDepth 100000 in
theorem bd_pb01_b : wbdE [(1, wI 28697814, some 18)] bT1 bC1 rW_pb01 (wI 4294967295) bW_pb01_b = true := by decide +kernel
def bW_pb02_n : List WC := ((rW_pb02.take 15 ++ (wM0 ++ [])).set 15 (wO 6 [wA 0, wA 17, wD 10 [0, 1, 16, 17], wI 4, wZ, wZ, wU 910006, wU 910007, wU 910008, wA 16]))
set_option maxRecDepth 100000 in
theorem bd_pb02_n : wbdE [(1, wI 28697814, none)] [] bC0 rW_pb02 (wI 4) bW_pb02_n = true := by decide +kernel
def bW_pb02_b : List WC := ((rW_pb02.take 15 ++ (wM0 ++ bT1)).set 15 (wO 6 [wA 0, wA 17, wD 10 [0, 1, 16, 17], wI 4294967295, wA 18, wZ, wU 910006, wU 910007, wU 910008, wA 16]))
set_option maxRecDepth 100000 in
theorem bd_pb02_b : wbdE [(1, wI 28697814, some 18)] bT1 bC1 rW_pb02 (wI 4294967295) bW_pb02_b = true := by decide +kernel
def bW_pb10_n : List WC := ((rW_pb10.take 15 ++ (wM0 ++ [])).set 15 (wO 6 [wA 0, wA 17, wD 10 [0, 1, 16, 17], wI 4, wZ, wZ, wU 910006, wU 910007, wU 910008, wA 16]))
set_option maxRecDepth 100000 in
theorem bd_pb10_n : wbdE [(1, wI 28697814, none)] [] bC0 rW_pb10 (wI 4) bW_pb10_n = true := by decide +kernel
def bW_pb10_b : List WC := ((rW_pb10.take 15 ++ (wM0 ++ bT1)).set 15 (wO 6 [wA 0, wA 17, wD 10 [0, 1, 16, 17], wI 4294967295, wA 18, wZ, wU 910006, wU 910007, wU 910008, wA 16]))
set_option maxRecDepth 100000 in
theorem bd_pb10_b : wbdE [(1, wI 28697814, some 18)] bT1 bC1 rW_pb10 (wI 4294967295) bW_pb10_b = true := by decide +kernel
def bW_pb11_n : List WC := ((rW_pb11.take 15 ++ (wM0 ++ [])).set 15 (wO 6 [wA 0, wA 17, wD 10 [0, 1, 16, 17], wI 4, wZ, wZ, wU 910006, wU 910007, wU 910008, wA 16]))
set_option maxRecDepth 100000 in
theorem bd_pb11_n : wbdE [(1, wI 28697814, none)] [] bC0 rW_pb11 (wI 4) bW_pb11_n = true := by decide +kernel
def bW_pb11_b : List WC := ((rW_pb11.take 15 ++ (wM0 ++ bT1)).set 15 (wO 6 [wA 0, wA 17, wD 10 [0, 1, 16, 17], wI 4294967295, wA 18, wZ, wU 910006, wU 910007, wU 910008, wA 16]))
set_option maxRecDepth 100000 in
theorem bd_pb11_b : wbdE [(1, wI 28697814, some 18)] bT1 bC1 rW_pb11 (wI 4294967295) bW_pb11_b = true := by decide +kernel
def bW_pb12_n : List WC := ((rW_pb12.take 15 ++ (wM0 ++ [])).set 15 (wO 6 [wA 0, wA 17, wD 10 [0, 1, 16, 17], wI 4, wZ, wZ, wU 910006, wU 910007, wU 910008, wA 16]))
set_option maxRecDepth 100000 in
theorem bd_pb12_n : wbdE [(1, wI 28697814, none)] [] bC0 rW_pb12 (wI 4) bW_pb12_n = true := by decide +kernel
def bW_pb12_b : List WC := ((rW_pb12.take 15 ++ (wM0 ++ bT1)).set 15 (wO 6 [wA 0, wA 17, wD 10 [0, 1, 16, 17], wI 4294967295, wA 18, wZ, wU 910006, wU 910007, wU 910008, wA 16]))
set_option maxRecDepth 100000 in
theorem bd_pb12_b : wbdE [(1, wI 28697814, some 18)] bT1 bC1 rW_pb12 (wI 4294967295) bW_pb12_b = true := by decide +kernel
def bW_pb20_n : List WC := ((rW_pb20.take 15 ++ (wM0 ++ [])).set 15 (wO 6 [wA 0, wA 17, wD 10 [0, 1, 16, 17], wI 4, wZ, wZ, wU 910006, wU 910007, wU 910008, wA 16]))
set_option maxRecDepth 100000 in
theorem bd_pb20_n : wbdE [(1, wI 28697814, none)] [] bC0 rW_pb20 (wI 4) bW_pb20_n = true := by decide +kernel
def bW_pb20_b : List WC := ((rW_pb20.take 15 ++ (wM0 ++ bT1)).set 15 (wO 6 [wA 0, wA 17, wD 10 [0, 1, 16, 17], wI 4294967295, wA 18, wZ, wU 910006, wU 910007, wU 910008, wA 16]))
set_option maxRecDepth 100000 in
theorem bd_pb20_b : wbdE [(1, wI 28697814, some 18)] bT1 bC1 rW_pb20 (wI 4294967295) bW_pb20_b = true := by decide +kernel
