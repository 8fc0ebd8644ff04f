/-! the premises at the law's entry as a flat list; what they say of the texts (written by wip/p27/emit.py) -/
def xfl : List Cond := flatC (Cond.and given_1 narrow_1)
def xtextC (o : String) (i : Nat) (bs : List Int32) : List Cond := [.exactly (.string o i) "java/lang/String", .eq (.field (.string o i) "java/lang/String" "coder" "B") (.int 0), .arrayOf (.field (.string o i) "java/lang/String" "value" "[B") .byte, .eq (.length (.field (.string o i) "java/lang/String" "value" "[B")) (.int (Int32.ofNat bs.length))] ++ (List.range bs.length).map (fun j => Cond.eq (.elem (.field (.string o i) "java/lang/String" "value" "[B") (.int (Int32.ofNat j))) (.int (bs.getD j 0)))
def xbytes (k : Nat) : List Int32 := match xKC[k + 1]? with
  | some (.inl (_, es)) => es.map xint
  | _ => []
def xtp : List Nat := [657, 681, 686, 691, 723, 756, 765, 791, 801, 806, 814, 821, 826, 830, 845, 853, 860, 866, 876, 886, 909, 917, 934, 945, 973, 1003, 1032, 1046, 1058, 1066, 1085, 1101, 1113, 1120, 1128, 1137, 1164, 1205, 1243, 1248, 1256, 1263, 1269, 1277, 1286, 1293, 1302, 1310, 1317, 1325, 1330, 1336, 1344, 1352, 1358, 1363, 1369, 1375, 1381, 1389, 1396, 1403, 1410, 1418, 1425, 1433, 1439, 1449, 1458, 1467, 1472, 1477, 1484, 1491, 1500, 1509, 1518, 1523, 1528, 1533, 1538, 1543, 1548, 1553, 1558]
theorem xtx_chk : xNC.2.1.all (fun q => decide ((xfl.drop (xtp.getD ((q.2.2.2 - 51) / 2) 0)).take (4 + (xbytes q.2.2.2).length) = xtextC q.1 q.2.1 (xbytes q.2.2.2))) = true := by decide +kernel
theorem xtx_in {q : String × Nat × String × Nat} (hq : q ∈ xNC.2.1) : ∀ c ∈ xtextC q.1 q.2.1 (xbytes q.2.2.2), c ∈ xfl := fun c hc => by
  have h := of_decide_eq_true (List.all_eq_true.mp xtx_chk q hq)
  rw [← h] at hc
  exact List.mem_of_mem_drop (List.mem_of_mem_take hc)
