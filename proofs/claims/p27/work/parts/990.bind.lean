/-! the law's texts, bound (written by wip/p27/c990.py) -/
def wM0 : List WC := [wO 6 [wU 910000, wU 910001, wU 910002, wU 910003, wU 910004, wU 910005, wU 910006, wU 910007, wU 910008, wA 16], wX 17 (wub 14000 0), wO 2 [wU 910010, wU 910011, wU 910012]]
def wLb : WV := wD 10 [0, 1, 16, 17]
def wbdE (tb : List (Nat × WV × Option Nat)) (T : List WC) (ck : List (Nat × WC)) (R : List WC) (ret : WV) (W : List WC) : Bool := wrd (wrun (wbt tb wLb ck) 9000 8 76 300000 0 [(0, wA 15), (1, wA 0), (2, wA 17), (3, wLb)] [] (R.take 15 ++ (wM0 ++ T)) 0 0) 100000 [ret] W 0 0
def bT0 : List WC := [wO 13 [wU 910020, wU 910021, wU 910022, wA 19, wA 20, wA 21, wU 910023, wU 910024, wU 910025], wX 23 [wI 157837977, wI 315675954], wX 29 [wK 22, wU 910026], wX 6 [wZ, wZ]]
def bT1 : List WC := [wO 13 [wU 910020, wU 910021, wU 910022, wA 19, wA 20, wA 21, wU 910023, wU 910024, wU 910025], wX 23 [wI 157837977, wI 258280326, wI 315675954], wX 29 [wK 23, wK 26, wK 24], wX 6 [wZ, wU 910027, wZ]]
def bT2 : List WC := [wO 13 [wU 910020, wU 910021, wU 910022, wA 19, wA 20, wA 21, wU 910023, wU 910024, wU 910025], wX 23 [wI 157837977, wI 258280326, wI 315675954], wX 29 [wK 23, wK 26, wK 24], wX 6 [wZ, wU 910027, wZ], wO 13 [wU 910030, wU 910031, wU 910032, wA 23, wA 24, wA 25, wU 910033, wU 910034, wU 910035], wX 23 [wI 157837977, wI 315675954], wX 29 [wK 22, wU 910036], wX 6 [wZ, wZ]]
def bC0 : List (Nat × WC) := [(17, wO 2 [wU 910010, wU 910011, wU 910012])]
def bC1 : List (Nat × WC) := [(17, wO 2 [wU 910010, wU 910011, wU 910012]), (18, wO 13 [wU 910020, wU 910021, wU 910022, wA 19, wA 20, wA 21, wU 910023, wU 910024, wU 910025])]
def bC2 : List (Nat × WC) := [(17, wO 2 [wU 910010, wU 910011, wU 910012]), (18, wO 13 [wU 910020, wU 910021, wU 910022, wA 19, wA 20, wA 21, wU 910023, wU 910024, wU 910025]), (22, wO 13 [wU 910030, wU 910031, wU 910032, wA 23, wA 24, wA 25, wU 910033, wU 910034, wU 910035])]
