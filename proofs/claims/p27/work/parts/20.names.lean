/-! methods by their numbers (written by wip/p27/emit.py) -/
theorem n0 : xMT 0 = xm0 := rfl
theorem p0 : (parseMethodDescriptor (xmN xm0).desc).map (fun d => d.parameters.length) = some 0 := by decide +kernel
theorem n1 : xMT 1 = xm1 := rfl
theorem p1 : (parseMethodDescriptor (xmN xm1).desc).map (fun d => d.parameters.length) = some 0 := by decide +kernel
theorem n2 : xMT 2 = xm2 := rfl
theorem p2 : (parseMethodDescriptor (xmN xm2).desc).map (fun d => d.parameters.length) = some 0 := by decide +kernel
theorem n3 : xMT 3 = xm3 := rfl
theorem p3 : (parseMethodDescriptor (xmN xm3).desc).map (fun d => d.parameters.length) = some 0 := by decide +kernel
theorem n4 : xMT 4 = xm4 := rfl
theorem p4 : (parseMethodDescriptor (xmN xm4).desc).map (fun d => d.parameters.length) = some 0 := by decide +kernel
theorem n5 : xMT 5 = xm5 := rfl
theorem p5 : (parseMethodDescriptor (xmN xm5).desc).map (fun d => d.parameters.length) = some 0 := by decide +kernel
theorem n6 : xMT 6 = xm6 := rfl
theorem p6 : (parseMethodDescriptor (xmN xm6).desc).map (fun d => d.parameters.length) = some 0 := by decide +kernel
theorem n7 : xMT 7 = xm7 := rfl
theorem p7 : (parseMethodDescriptor (xmN xm7).desc).map (fun d => d.parameters.length) = some 0 := by decide +kernel
theorem n8 : xMT 8 = xm8 := rfl
theorem p8 : (parseMethodDescriptor (xmN xm8).desc).map (fun d => d.parameters.length) = some 1 := by decide +kernel
theorem n9 : xMT 9 = xm9 := rfl
theorem p9 : (parseMethodDescriptor (xmN xm9).desc).map (fun d => d.parameters.length) = some 0 := by decide +kernel
theorem n10 : xMT 10 = xm10 := rfl
theorem p10 : (parseMethodDescriptor (xmN xm10).desc).map (fun d => d.parameters.length) = some 0 := by decide +kernel
theorem n11 : xMT 11 = xm11 := rfl
theorem p11 : (parseMethodDescriptor (xmN xm11).desc).map (fun d => d.parameters.length) = some 0 := by decide +kernel
theorem n12 : xMT 12 = xm12 := rfl
theorem p12 : (parseMethodDescriptor (xmN xm12).desc).map (fun d => d.parameters.length) = some 0 := by decide +kernel
theorem n13 : xMT 13 = xm13 := rfl
theorem p13 : (parseMethodDescriptor (xmN xm13).desc).map (fun d => d.parameters.length) = some 0 := by decide +kernel
theorem n14 : xMT 14 = xm14 := rfl
theorem p14 : (parseMethodDescriptor (xmN xm14).desc).map (fun d => d.parameters.length) = some 1 := by decide +kernel
theorem n15 : xMT 15 = xm15 := rfl
theorem p15 : (parseMethodDescriptor (xmN xm15).desc).map (fun d => d.parameters.length) = some 1 := by decide +kernel
theorem n16 : xMT 16 = xm16 := rfl
theorem p16 : (parseMethodDescriptor (xmN xm16).desc).map (fun d => d.parameters.length) = some 1 := by decide +kernel
theorem n17 : xMT 17 = xm17 := rfl
theorem p17 : (parseMethodDescriptor (xmN xm17).desc).map (fun d => d.parameters.length) = some 2 := by decide +kernel
theorem n18 : xMT 18 = xm18 := rfl
theorem p18 : (parseMethodDescriptor (xmN xm18).desc).map (fun d => d.parameters.length) = some 2 := by decide +kernel
theorem n19 : xMT 19 = xm19 := rfl
theorem p19 : (parseMethodDescriptor (xmN xm19).desc).map (fun d => d.parameters.length) = some 2 := by decide +kernel
theorem n20 : xMT 20 = xm20 := rfl
theorem p20 : (parseMethodDescriptor (xmN xm20).desc).map (fun d => d.parameters.length) = some 1 := by decide +kernel
theorem n21 : xMT 21 = xm21 := rfl
theorem p21 : (parseMethodDescriptor (xmN xm21).desc).map (fun d => d.parameters.length) = some 1 := by decide +kernel
theorem n22 : xMT 22 = xm22 := rfl
theorem p22 : (parseMethodDescriptor (xmN xm22).desc).map (fun d => d.parameters.length) = some 1 := by decide +kernel
theorem n23 : xMT 23 = xm23 := rfl
theorem p23 : (parseMethodDescriptor (xmN xm23).desc).map (fun d => d.parameters.length) = some 0 := by decide +kernel
theorem n24 : xMT 24 = xm24 := rfl
theorem p24 : (parseMethodDescriptor (xmN xm24).desc).map (fun d => d.parameters.length) = some 0 := by decide +kernel
theorem n25 : xMT 25 = xm25 := rfl
theorem p25 : (parseMethodDescriptor (xmN xm25).desc).map (fun d => d.parameters.length) = some 0 := by decide +kernel
theorem n26 : xMT 26 = xm26 := rfl
theorem p26 : (parseMethodDescriptor (xmN xm26).desc).map (fun d => d.parameters.length) = some 1 := by decide +kernel
theorem n27 : xMT 27 = xm27 := rfl
theorem p27 : (parseMethodDescriptor (xmN xm27).desc).map (fun d => d.parameters.length) = some 3 := by decide +kernel
theorem n28 : xMT 28 = xm28 := rfl
theorem p28 : (parseMethodDescriptor (xmN xm28).desc).map (fun d => d.parameters.length) = some 3 := by decide +kernel
theorem n29 : xMT 29 = xm29 := rfl
theorem p29 : (parseMethodDescriptor (xmN xm29).desc).map (fun d => d.parameters.length) = some 1 := by decide +kernel
theorem n30 : xMT 30 = xm30 := rfl
theorem p30 : (parseMethodDescriptor (xmN xm30).desc).map (fun d => d.parameters.length) = some 0 := by decide +kernel
theorem n31 : xMT 31 = xm31 := rfl
theorem p31 : (parseMethodDescriptor (xmN xm31).desc).map (fun d => d.parameters.length) = some 0 := by decide +kernel
theorem n32 : xMT 32 = xm32 := rfl
theorem p32 : (parseMethodDescriptor (xmN xm32).desc).map (fun d => d.parameters.length) = some 1 := by decide +kernel
theorem n33 : xMT 33 = xm33 := rfl
theorem p33 : (parseMethodDescriptor (xmN xm33).desc).map (fun d => d.parameters.length) = some 0 := by decide +kernel
theorem n34 : xMT 34 = xm34 := rfl
theorem p34 : (parseMethodDescriptor (xmN xm34).desc).map (fun d => d.parameters.length) = some 2 := by decide +kernel
theorem n35 : xMT 35 = xm35 := rfl
theorem p35 : (parseMethodDescriptor (xmN xm35).desc).map (fun d => d.parameters.length) = some 2 := by decide +kernel
theorem n36 : xMT 36 = xm36 := rfl
theorem p36 : (parseMethodDescriptor (xmN xm36).desc).map (fun d => d.parameters.length) = some 3 := by decide +kernel
theorem n37 : xMT 37 = xm37 := rfl
theorem p37 : (parseMethodDescriptor (xmN xm37).desc).map (fun d => d.parameters.length) = some 2 := by decide +kernel
theorem n38 : xMT 38 = xm38 := rfl
theorem p38 : (parseMethodDescriptor (xmN xm38).desc).map (fun d => d.parameters.length) = some 1 := by decide +kernel
theorem n39 : xMT 39 = xm39 := rfl
theorem p39 : (parseMethodDescriptor (xmN xm39).desc).map (fun d => d.parameters.length) = some 1 := by decide +kernel
theorem n40 : xMT 40 = xm40 := rfl
theorem p40 : (parseMethodDescriptor (xmN xm40).desc).map (fun d => d.parameters.length) = some 1 := by decide +kernel
theorem n41 : xMT 41 = xm41 := rfl
theorem p41 : (parseMethodDescriptor (xmN xm41).desc).map (fun d => d.parameters.length) = some 2 := by decide +kernel
theorem n42 : xMT 42 = xm42 := rfl
theorem p42 : (parseMethodDescriptor (xmN xm42).desc).map (fun d => d.parameters.length) = some 0 := by decide +kernel
theorem n43 : xMT 43 = xm43 := rfl
theorem p43 : (parseMethodDescriptor (xmN xm43).desc).map (fun d => d.parameters.length) = some 2 := by decide +kernel
theorem n44 : xMT 44 = xm44 := rfl
theorem p44 : (parseMethodDescriptor (xmN xm44).desc).map (fun d => d.parameters.length) = some 2 := by decide +kernel
theorem n45 : xMT 45 = xm45 := rfl
theorem p45 : (parseMethodDescriptor (xmN xm45).desc).map (fun d => d.parameters.length) = some 4 := by decide +kernel
theorem n46 : xMT 46 = xm46 := rfl
theorem p46 : (parseMethodDescriptor (xmN xm46).desc).map (fun d => d.parameters.length) = some 3 := by decide +kernel
theorem n47 : xMT 47 = xm47 := rfl
theorem p47 : (parseMethodDescriptor (xmN xm47).desc).map (fun d => d.parameters.length) = some 4 := by decide +kernel
theorem n48 : xMT 48 = xm48 := rfl
theorem p48 : (parseMethodDescriptor (xmN xm48).desc).map (fun d => d.parameters.length) = some 3 := by decide +kernel
theorem n49 : xMT 49 = xm49 := rfl
theorem p49 : (parseMethodDescriptor (xmN xm49).desc).map (fun d => d.parameters.length) = some 3 := by decide +kernel
theorem n50 : xMT 50 = xm50 := rfl
theorem p50 : (parseMethodDescriptor (xmN xm50).desc).map (fun d => d.parameters.length) = some 3 := by decide +kernel
theorem n51 : xMT 51 = xm51 := rfl
theorem p51 : (parseMethodDescriptor (xmN xm51).desc).map (fun d => d.parameters.length) = some 0 := by decide +kernel
theorem n52 : xMT 52 = xm52 := rfl
theorem p52 : (parseMethodDescriptor (xmN xm52).desc).map (fun d => d.parameters.length) = some 1 := by decide +kernel
theorem n53 : xMT 53 = xm53 := rfl
theorem p53 : (parseMethodDescriptor (xmN xm53).desc).map (fun d => d.parameters.length) = some 1 := by decide +kernel
theorem n54 : xMT 54 = xm54 := rfl
theorem p54 : (parseMethodDescriptor (xmN xm54).desc).map (fun d => d.parameters.length) = some 0 := by decide +kernel
theorem n55 : xMT 55 = xm55 := rfl
theorem p55 : (parseMethodDescriptor (xmN xm55).desc).map (fun d => d.parameters.length) = some 0 := by decide +kernel
theorem n56 : xMT 56 = xm56 := rfl
theorem p56 : (parseMethodDescriptor (xmN xm56).desc).map (fun d => d.parameters.length) = some 1 := by decide +kernel
theorem n57 : xMT 57 = xm57 := rfl
theorem p57 : (parseMethodDescriptor (xmN xm57).desc).map (fun d => d.parameters.length) = some 0 := by decide +kernel
theorem n58 : xMT 58 = xm58 := rfl
theorem p58 : (parseMethodDescriptor (xmN xm58).desc).map (fun d => d.parameters.length) = some 1 := by decide +kernel
theorem n59 : xMT 59 = xm59 := rfl
theorem p59 : (parseMethodDescriptor (xmN xm59).desc).map (fun d => d.parameters.length) = some 1 := by decide +kernel
theorem n60 : xMT 60 = xm60 := rfl
theorem p60 : (parseMethodDescriptor (xmN xm60).desc).map (fun d => d.parameters.length) = some 1 := by decide +kernel
theorem n61 : xMT 61 = xm61 := rfl
theorem p61 : (parseMethodDescriptor (xmN xm61).desc).map (fun d => d.parameters.length) = some 2 := by decide +kernel
theorem n62 : xMT 62 = xm62 := rfl
theorem p62 : (parseMethodDescriptor (xmN xm62).desc).map (fun d => d.parameters.length) = some 1 := by decide +kernel
theorem n63 : xMT 63 = xm63 := rfl
theorem p63 : (parseMethodDescriptor (xmN xm63).desc).map (fun d => d.parameters.length) = some 1 := by decide +kernel
theorem n64 : xMT 64 = xm64 := rfl
theorem p64 : (parseMethodDescriptor (xmN xm64).desc).map (fun d => d.parameters.length) = some 3 := by decide +kernel
theorem n65 : xMT 65 = xm65 := rfl
theorem p65 : (parseMethodDescriptor (xmN xm65).desc).map (fun d => d.parameters.length) = some 1 := by decide +kernel
theorem n66 : xMT 66 = xm66 := rfl
theorem p66 : (parseMethodDescriptor (xmN xm66).desc).map (fun d => d.parameters.length) = some 0 := by decide +kernel
theorem n67 : xMT 67 = xm67 := rfl
theorem p67 : (parseMethodDescriptor (xmN xm67).desc).map (fun d => d.parameters.length) = some 2 := by decide +kernel
theorem n68 : xMT 68 = xm68 := rfl
theorem p68 : (parseMethodDescriptor (xmN xm68).desc).map (fun d => d.parameters.length) = some 1 := by decide +kernel
theorem n69 : xMT 69 = xm69 := rfl
theorem p69 : (parseMethodDescriptor (xmN xm69).desc).map (fun d => d.parameters.length) = some 0 := by decide +kernel
theorem n70 : xMT 70 = xm70 := rfl
theorem p70 : (parseMethodDescriptor (xmN xm70).desc).map (fun d => d.parameters.length) = some 1 := by decide +kernel
theorem n71 : xMT 71 = xm71 := rfl
theorem p71 : (parseMethodDescriptor (xmN xm71).desc).map (fun d => d.parameters.length) = some 0 := by decide +kernel
theorem n72 : xMT 72 = xm72 := rfl
theorem p72 : (parseMethodDescriptor (xmN xm72).desc).map (fun d => d.parameters.length) = some 1 := by decide +kernel
theorem n73 : xMT 73 = xm73 := rfl
theorem p73 : (parseMethodDescriptor (xmN xm73).desc).map (fun d => d.parameters.length) = some 0 := by decide +kernel
theorem n74 : xMT 74 = xm74 := rfl
theorem p74 : (parseMethodDescriptor (xmN xm74).desc).map (fun d => d.parameters.length) = some 0 := by decide +kernel
theorem n75 : xMT 75 = xm75 := rfl
theorem p75 : (parseMethodDescriptor (xmN xm75).desc).map (fun d => d.parameters.length) = some 0 := by decide +kernel
theorem n76 : xMT 76 = xm76 := rfl
theorem p76 : (parseMethodDescriptor (xmN xm76).desc).map (fun d => d.parameters.length) = some 3 := by decide +kernel
theorem n77 : xMT 77 = xm77 := rfl
theorem p77 : (parseMethodDescriptor (xmN xm77).desc).map (fun d => d.parameters.length) = some 0 := by decide +kernel
theorem n78 : xMT 78 = xm78 := rfl
theorem p78 : (parseMethodDescriptor (xmN xm78).desc).map (fun d => d.parameters.length) = some 1 := by decide +kernel
theorem n79 : xMT 79 = xm79 := rfl
theorem p79 : (parseMethodDescriptor (xmN xm79).desc).map (fun d => d.parameters.length) = some 1 := by decide +kernel
theorem n80 : xMT 80 = xm80 := rfl
theorem p80 : (parseMethodDescriptor (xmN xm80).desc).map (fun d => d.parameters.length) = some 1 := by decide +kernel
theorem n81 : xMT 81 = xm81 := rfl
theorem p81 : (parseMethodDescriptor (xmN xm81).desc).map (fun d => d.parameters.length) = some 1 := by decide +kernel
theorem n82 : xMT 82 = xm82 := rfl
theorem p82 : (parseMethodDescriptor (xmN xm82).desc).map (fun d => d.parameters.length) = some 1 := by decide +kernel
theorem n83 : xMT 83 = xm83 := rfl
theorem p83 : (parseMethodDescriptor (xmN xm83).desc).map (fun d => d.parameters.length) = some 1 := by decide +kernel
theorem n84 : xMT 84 = xm84 := rfl
theorem p84 : (parseMethodDescriptor (xmN xm84).desc).map (fun d => d.parameters.length) = some 0 := by decide +kernel
theorem n85 : xMT 85 = xm85 := rfl
theorem p85 : (parseMethodDescriptor (xmN xm85).desc).map (fun d => d.parameters.length) = some 1 := by decide +kernel
theorem n86 : xMT 86 = xm86 := rfl
theorem p86 : (parseMethodDescriptor (xmN xm86).desc).map (fun d => d.parameters.length) = some 2 := by decide +kernel
theorem n87 : xMT 87 = xm87 := rfl
theorem p87 : (parseMethodDescriptor (xmN xm87).desc).map (fun d => d.parameters.length) = some 1 := by decide +kernel
theorem n88 : xMT 88 = xm88 := rfl
theorem p88 : (parseMethodDescriptor (xmN xm88).desc).map (fun d => d.parameters.length) = some 2 := by decide +kernel
theorem n89 : xMT 89 = xm89 := rfl
theorem p89 : (parseMethodDescriptor (xmN xm89).desc).map (fun d => d.parameters.length) = some 1 := by decide +kernel
theorem n90 : xMT 90 = xm90 := rfl
theorem p90 : (parseMethodDescriptor (xmN xm90).desc).map (fun d => d.parameters.length) = some 1 := by decide +kernel
theorem n91 : xMT 91 = xm91 := rfl
theorem p91 : (parseMethodDescriptor (xmN xm91).desc).map (fun d => d.parameters.length) = some 1 := by decide +kernel
theorem n92 : xMT 92 = xm92 := rfl
theorem p92 : (parseMethodDescriptor (xmN xm92).desc).map (fun d => d.parameters.length) = some 2 := by decide +kernel
theorem n93 : xMT 93 = xm93 := rfl
theorem p93 : (parseMethodDescriptor (xmN xm93).desc).map (fun d => d.parameters.length) = some 0 := by decide +kernel
theorem n94 : xMT 94 = xm94 := rfl
theorem p94 : (parseMethodDescriptor (xmN xm94).desc).map (fun d => d.parameters.length) = some 1 := by decide +kernel
theorem n95 : xMT 95 = xm95 := rfl
theorem p95 : (parseMethodDescriptor (xmN xm95).desc).map (fun d => d.parameters.length) = some 0 := by decide +kernel
theorem n96 : xMT 96 = xm96 := rfl
theorem p96 : (parseMethodDescriptor (xmN xm96).desc).map (fun d => d.parameters.length) = some 1 := by decide +kernel
theorem n97 : xMT 97 = xm97 := rfl
theorem p97 : (parseMethodDescriptor (xmN xm97).desc).map (fun d => d.parameters.length) = some 1 := by decide +kernel
theorem n98 : xMT 98 = xm98 := rfl
theorem p98 : (parseMethodDescriptor (xmN xm98).desc).map (fun d => d.parameters.length) = some 2 := by decide +kernel
theorem n99 : xMT 99 = xm99 := rfl
theorem p99 : (parseMethodDescriptor (xmN xm99).desc).map (fun d => d.parameters.length) = some 2 := by decide +kernel
theorem n100 : xMT 100 = xm100 := rfl
theorem p100 : (parseMethodDescriptor (xmN xm100).desc).map (fun d => d.parameters.length) = some 1 := by decide +kernel
theorem n101 : xMT 101 = xm101 := rfl
theorem p101 : (parseMethodDescriptor (xmN xm101).desc).map (fun d => d.parameters.length) = some 1 := by decide +kernel
theorem n102 : xMT 102 = xm102 := rfl
theorem p102 : (parseMethodDescriptor (xmN xm102).desc).map (fun d => d.parameters.length) = some 0 := by decide +kernel
theorem n103 : xMT 103 = xm103 := rfl
theorem p103 : (parseMethodDescriptor (xmN xm103).desc).map (fun d => d.parameters.length) = some 0 := by decide +kernel
theorem n104 : xMT 104 = xm104 := rfl
theorem p104 : (parseMethodDescriptor (xmN xm104).desc).map (fun d => d.parameters.length) = some 0 := by decide +kernel
theorem n105 : xMT 105 = xm105 := rfl
theorem p105 : (parseMethodDescriptor (xmN xm105).desc).map (fun d => d.parameters.length) = some 0 := by decide +kernel
theorem n106 : xMT 106 = xm106 := rfl
theorem p106 : (parseMethodDescriptor (xmN xm106).desc).map (fun d => d.parameters.length) = some 0 := by decide +kernel
theorem n107 : xMT 107 = xm107 := rfl
theorem p107 : (parseMethodDescriptor (xmN xm107).desc).map (fun d => d.parameters.length) = some 0 := by decide +kernel
theorem n108 : xMT 108 = xm108 := rfl
theorem p108 : (parseMethodDescriptor (xmN xm108).desc).map (fun d => d.parameters.length) = some 1 := by decide +kernel
theorem n109 : xMT 109 = xm109 := rfl
theorem p109 : (parseMethodDescriptor (xmN xm109).desc).map (fun d => d.parameters.length) = some 0 := by decide +kernel
theorem n110 : xMT 110 = xm110 := rfl
theorem p110 : (parseMethodDescriptor (xmN xm110).desc).map (fun d => d.parameters.length) = some 0 := by decide +kernel
theorem n111 : xMT 111 = xm111 := rfl
theorem p111 : (parseMethodDescriptor (xmN xm111).desc).map (fun d => d.parameters.length) = some 1 := by decide +kernel
theorem n112 : xMT 112 = xm112 := rfl
theorem p112 : (parseMethodDescriptor (xmN xm112).desc).map (fun d => d.parameters.length) = some 1 := by decide +kernel
theorem n113 : xMT 113 = xm113 := rfl
theorem p113 : (parseMethodDescriptor (xmN xm113).desc).map (fun d => d.parameters.length) = some 2 := by decide +kernel
theorem n114 : xMT 114 = xm114 := rfl
theorem p114 : (parseMethodDescriptor (xmN xm114).desc).map (fun d => d.parameters.length) = some 2 := by decide +kernel
theorem n115 : xMT 115 = xm115 := rfl
theorem p115 : (parseMethodDescriptor (xmN xm115).desc).map (fun d => d.parameters.length) = some 1 := by decide +kernel
theorem n116 : xMT 116 = xm116 := rfl
theorem p116 : (parseMethodDescriptor (xmN xm116).desc).map (fun d => d.parameters.length) = some 1 := by decide +kernel
theorem n117 : xMT 117 = xm117 := rfl
theorem p117 : (parseMethodDescriptor (xmN xm117).desc).map (fun d => d.parameters.length) = some 1 := by decide +kernel
theorem n118 : xMT 118 = xm118 := rfl
theorem p118 : (parseMethodDescriptor (xmN xm118).desc).map (fun d => d.parameters.length) = some 2 := by decide +kernel
theorem n119 : xMT 119 = xm119 := rfl
theorem p119 : (parseMethodDescriptor (xmN xm119).desc).map (fun d => d.parameters.length) = some 0 := by decide +kernel
theorem n120 : xMT 120 = xm120 := rfl
theorem p120 : (parseMethodDescriptor (xmN xm120).desc).map (fun d => d.parameters.length) = some 1 := by decide +kernel
theorem n121 : xMT 121 = xm121 := rfl
theorem p121 : (parseMethodDescriptor (xmN xm121).desc).map (fun d => d.parameters.length) = some 1 := by decide +kernel
theorem n122 : xMT 122 = xm122 := rfl
theorem p122 : (parseMethodDescriptor (xmN xm122).desc).map (fun d => d.parameters.length) = some 1 := by decide +kernel
theorem n123 : xMT 123 = xm123 := rfl
theorem p123 : (parseMethodDescriptor (xmN xm123).desc).map (fun d => d.parameters.length) = some 4 := by decide +kernel
theorem n124 : xMT 124 = xm124 := rfl
theorem p124 : (parseMethodDescriptor (xmN xm124).desc).map (fun d => d.parameters.length) = some 1 := by decide +kernel
theorem n125 : xMT 125 = xm125 := rfl
theorem p125 : (parseMethodDescriptor (xmN xm125).desc).map (fun d => d.parameters.length) = some 1 := by decide +kernel
theorem n126 : xMT 126 = xm126 := rfl
theorem p126 : (parseMethodDescriptor (xmN xm126).desc).map (fun d => d.parameters.length) = some 1 := by decide +kernel
theorem n127 : xMT 127 = xm127 := rfl
theorem p127 : (parseMethodDescriptor (xmN xm127).desc).map (fun d => d.parameters.length) = some 4 := by decide +kernel
theorem n128 : xMT 128 = xm128 := rfl
theorem p128 : (parseMethodDescriptor (xmN xm128).desc).map (fun d => d.parameters.length) = some 3 := by decide +kernel
theorem n129 : xMT 129 = xm129 := rfl
theorem p129 : (parseMethodDescriptor (xmN xm129).desc).map (fun d => d.parameters.length) = some 1 := by decide +kernel
theorem n130 : xMT 130 = xm130 := rfl
theorem p130 : (parseMethodDescriptor (xmN xm130).desc).map (fun d => d.parameters.length) = some 1 := by decide +kernel
theorem n131 : xMT 131 = xm131 := rfl
theorem p131 : (parseMethodDescriptor (xmN xm131).desc).map (fun d => d.parameters.length) = some 3 := by decide +kernel
theorem n132 : xMT 132 = xm132 := rfl
theorem p132 : (parseMethodDescriptor (xmN xm132).desc).map (fun d => d.parameters.length) = some 0 := by decide +kernel
theorem n133 : xMT 133 = xm133 := rfl
theorem p133 : (parseMethodDescriptor (xmN xm133).desc).map (fun d => d.parameters.length) = some 1 := by decide +kernel
theorem n134 : xMT 134 = xm134 := rfl
theorem p134 : (parseMethodDescriptor (xmN xm134).desc).map (fun d => d.parameters.length) = some 3 := by decide +kernel
theorem n135 : xMT 135 = xm135 := rfl
theorem p135 : (parseMethodDescriptor (xmN xm135).desc).map (fun d => d.parameters.length) = some 2 := by decide +kernel
theorem n136 : xMT 136 = xm136 := rfl
theorem p136 : (parseMethodDescriptor (xmN xm136).desc).map (fun d => d.parameters.length) = some 2 := by decide +kernel
theorem n137 : xMT 137 = xm137 := rfl
theorem p137 : (parseMethodDescriptor (xmN xm137).desc).map (fun d => d.parameters.length) = some 3 := by decide +kernel
theorem n138 : xMT 138 = xm138 := rfl
theorem p138 : (parseMethodDescriptor (xmN xm138).desc).map (fun d => d.parameters.length) = some 0 := by decide +kernel
theorem n139 : xMT 139 = xm139 := rfl
theorem p139 : (parseMethodDescriptor (xmN xm139).desc).map (fun d => d.parameters.length) = some 4 := by decide +kernel
theorem n140 : xMT 140 = xm140 := rfl
theorem p140 : (parseMethodDescriptor (xmN xm140).desc).map (fun d => d.parameters.length) = some 4 := by decide +kernel
theorem n141 : xMT 141 = xm141 := rfl
theorem p141 : (parseMethodDescriptor (xmN xm141).desc).map (fun d => d.parameters.length) = some 0 := by decide +kernel
theorem n142 : xMT 142 = xm142 := rfl
theorem p142 : (parseMethodDescriptor (xmN xm142).desc).map (fun d => d.parameters.length) = some 2 := by decide +kernel
theorem n143 : xMT 143 = xm143 := rfl
theorem p143 : (parseMethodDescriptor (xmN xm143).desc).map (fun d => d.parameters.length) = some 4 := by decide +kernel
theorem n144 : xMT 144 = xm144 := rfl
theorem p144 : (parseMethodDescriptor (xmN xm144).desc).map (fun d => d.parameters.length) = some 2 := by decide +kernel
theorem n145 : xMT 145 = xm145 := rfl
theorem p145 : (parseMethodDescriptor (xmN xm145).desc).map (fun d => d.parameters.length) = some 3 := by decide +kernel
theorem n146 : xMT 146 = xm146 := rfl
theorem p146 : (parseMethodDescriptor (xmN xm146).desc).map (fun d => d.parameters.length) = some 2 := by decide +kernel
theorem n147 : xMT 147 = xm147 := rfl
theorem p147 : (parseMethodDescriptor (xmN xm147).desc).map (fun d => d.parameters.length) = some 3 := by decide +kernel
theorem n148 : xMT 148 = xm148 := rfl
theorem p148 : (parseMethodDescriptor (xmN xm148).desc).map (fun d => d.parameters.length) = some 1 := by decide +kernel
theorem n149 : xMT 149 = xm149 := rfl
theorem p149 : (parseMethodDescriptor (xmN xm149).desc).map (fun d => d.parameters.length) = some 2 := by decide +kernel
theorem n150 : xMT 150 = xm150 := rfl
theorem p150 : (parseMethodDescriptor (xmN xm150).desc).map (fun d => d.parameters.length) = some 0 := by decide +kernel
theorem n151 : xMT 151 = xm151 := rfl
theorem p151 : (parseMethodDescriptor (xmN xm151).desc).map (fun d => d.parameters.length) = some 2 := by decide +kernel
theorem n152 : xMT 152 = xm152 := rfl
theorem p152 : (parseMethodDescriptor (xmN xm152).desc).map (fun d => d.parameters.length) = some 1 := by decide +kernel
theorem n153 : xMT 153 = xm153 := rfl
theorem p153 : (parseMethodDescriptor (xmN xm153).desc).map (fun d => d.parameters.length) = some 1 := by decide +kernel
theorem n154 : xMT 154 = xm154 := rfl
theorem p154 : (parseMethodDescriptor (xmN xm154).desc).map (fun d => d.parameters.length) = some 1 := by decide +kernel
theorem n155 : xMT 155 = xm155 := rfl
theorem p155 : (parseMethodDescriptor (xmN xm155).desc).map (fun d => d.parameters.length) = some 3 := by decide +kernel
theorem n156 : xMT 156 = xm156 := rfl
theorem p156 : (parseMethodDescriptor (xmN xm156).desc).map (fun d => d.parameters.length) = some 4 := by decide +kernel
theorem n157 : xMT 157 = xm157 := rfl
theorem p157 : (parseMethodDescriptor (xmN xm157).desc).map (fun d => d.parameters.length) = some 0 := by decide +kernel
theorem n158 : xMT 158 = xm158 := rfl
theorem p158 : (parseMethodDescriptor (xmN xm158).desc).map (fun d => d.parameters.length) = some 1 := by decide +kernel
theorem n159 : xMT 159 = xm159 := rfl
theorem p159 : (parseMethodDescriptor (xmN xm159).desc).map (fun d => d.parameters.length) = some 0 := by decide +kernel
theorem n160 : xMT 160 = xm160 := rfl
theorem p160 : (parseMethodDescriptor (xmN xm160).desc).map (fun d => d.parameters.length) = some 2 := by decide +kernel
theorem n161 : xMT 161 = xm161 := rfl
theorem p161 : (parseMethodDescriptor (xmN xm161).desc).map (fun d => d.parameters.length) = some 2 := by decide +kernel
theorem n162 : xMT 162 = xm162 := rfl
theorem p162 : (parseMethodDescriptor (xmN xm162).desc).map (fun d => d.parameters.length) = some 2 := by decide +kernel
theorem n163 : xMT 163 = xm163 := rfl
theorem p163 : (parseMethodDescriptor (xmN xm163).desc).map (fun d => d.parameters.length) = some 3 := by decide +kernel
theorem n164 : xMT 164 = xm164 := rfl
theorem p164 : (parseMethodDescriptor (xmN xm164).desc).map (fun d => d.parameters.length) = some 1 := by decide +kernel
theorem n165 : xMT 165 = xm165 := rfl
theorem p165 : (parseMethodDescriptor (xmN xm165).desc).map (fun d => d.parameters.length) = some 1 := by decide +kernel
theorem n166 : xMT 166 = xm166 := rfl
theorem p166 : (parseMethodDescriptor (xmN xm166).desc).map (fun d => d.parameters.length) = some 5 := by decide +kernel
theorem n167 : xMT 167 = xm167 := rfl
theorem p167 : (parseMethodDescriptor (xmN xm167).desc).map (fun d => d.parameters.length) = some 4 := by decide +kernel
theorem n168 : xMT 168 = xm168 := rfl
theorem p168 : (parseMethodDescriptor (xmN xm168).desc).map (fun d => d.parameters.length) = some 2 := by decide +kernel
theorem n169 : xMT 169 = xm169 := rfl
theorem p169 : (parseMethodDescriptor (xmN xm169).desc).map (fun d => d.parameters.length) = some 1 := by decide +kernel
theorem n170 : xMT 170 = xm170 := rfl
theorem p170 : (parseMethodDescriptor (xmN xm170).desc).map (fun d => d.parameters.length) = some 1 := by decide +kernel
theorem n171 : xMT 171 = xm171 := rfl
theorem p171 : (parseMethodDescriptor (xmN xm171).desc).map (fun d => d.parameters.length) = some 1 := by decide +kernel
theorem n172 : xMT 172 = xm172 := rfl
theorem p172 : (parseMethodDescriptor (xmN xm172).desc).map (fun d => d.parameters.length) = some 2 := by decide +kernel
theorem n173 : xMT 173 = xm173 := rfl
theorem p173 : (parseMethodDescriptor (xmN xm173).desc).map (fun d => d.parameters.length) = some 1 := by decide +kernel
theorem n174 : xMT 174 = xm174 := rfl
theorem p174 : (parseMethodDescriptor (xmN xm174).desc).map (fun d => d.parameters.length) = some 2 := by decide +kernel
theorem n175 : xMT 175 = xm175 := rfl
theorem p175 : (parseMethodDescriptor (xmN xm175).desc).map (fun d => d.parameters.length) = some 1 := by decide +kernel
theorem n176 : xMT 176 = xm176 := rfl
theorem p176 : (parseMethodDescriptor (xmN xm176).desc).map (fun d => d.parameters.length) = some 2 := by decide +kernel
theorem n177 : xMT 177 = xm177 := rfl
theorem p177 : (parseMethodDescriptor (xmN xm177).desc).map (fun d => d.parameters.length) = some 1 := by decide +kernel
theorem n178 : xMT 178 = xm178 := rfl
theorem p178 : (parseMethodDescriptor (xmN xm178).desc).map (fun d => d.parameters.length) = some 2 := by decide +kernel
theorem n179 : xMT 179 = xm179 := rfl
theorem p179 : (parseMethodDescriptor (xmN xm179).desc).map (fun d => d.parameters.length) = some 2 := by decide +kernel
theorem n180 : xMT 180 = xm180 := rfl
theorem p180 : (parseMethodDescriptor (xmN xm180).desc).map (fun d => d.parameters.length) = some 3 := by decide +kernel
theorem n181 : xMT 181 = xm181 := rfl
theorem p181 : (parseMethodDescriptor (xmN xm181).desc).map (fun d => d.parameters.length) = some 5 := by decide +kernel
theorem n182 : xMT 182 = xm182 := rfl
theorem p182 : (parseMethodDescriptor (xmN xm182).desc).map (fun d => d.parameters.length) = some 1 := by decide +kernel
theorem n183 : xMT 183 = xm183 := rfl
theorem p183 : (parseMethodDescriptor (xmN xm183).desc).map (fun d => d.parameters.length) = some 1 := by decide +kernel
theorem n184 : xMT 184 = xm184 := rfl
theorem p184 : (parseMethodDescriptor (xmN xm184).desc).map (fun d => d.parameters.length) = some 1 := by decide +kernel
theorem n185 : xMT 185 = xm185 := rfl
theorem p185 : (parseMethodDescriptor (xmN xm185).desc).map (fun d => d.parameters.length) = some 2 := by decide +kernel
theorem n186 : xMT 186 = xm186 := rfl
theorem p186 : (parseMethodDescriptor (xmN xm186).desc).map (fun d => d.parameters.length) = some 1 := by decide +kernel
theorem n187 : xMT 187 = xm187 := rfl
theorem p187 : (parseMethodDescriptor (xmN xm187).desc).map (fun d => d.parameters.length) = some 1 := by decide +kernel
theorem n188 : xMT 188 = xm188 := rfl
theorem p188 : (parseMethodDescriptor (xmN xm188).desc).map (fun d => d.parameters.length) = some 1 := by decide +kernel
theorem n189 : xMT 189 = xm189 := rfl
theorem p189 : (parseMethodDescriptor (xmN xm189).desc).map (fun d => d.parameters.length) = some 1 := by decide +kernel
theorem n190 : xMT 190 = xm190 := rfl
theorem p190 : (parseMethodDescriptor (xmN xm190).desc).map (fun d => d.parameters.length) = some 1 := by decide +kernel
theorem n191 : xMT 191 = xm191 := rfl
theorem p191 : (parseMethodDescriptor (xmN xm191).desc).map (fun d => d.parameters.length) = some 2 := by decide +kernel
theorem n192 : xMT 192 = xm192 := rfl
theorem p192 : (parseMethodDescriptor (xmN xm192).desc).map (fun d => d.parameters.length) = some 1 := by decide +kernel
theorem n193 : xMT 193 = xm193 := rfl
theorem p193 : (parseMethodDescriptor (xmN xm193).desc).map (fun d => d.parameters.length) = some 3 := by decide +kernel
theorem n194 : xMT 194 = xm194 := rfl
theorem p194 : (parseMethodDescriptor (xmN xm194).desc).map (fun d => d.parameters.length) = some 3 := by decide +kernel
theorem n195 : xMT 195 = xm195 := rfl
theorem p195 : (parseMethodDescriptor (xmN xm195).desc).map (fun d => d.parameters.length) = some 1 := by decide +kernel
theorem n196 : xMT 196 = xm196 := rfl
theorem p196 : (parseMethodDescriptor (xmN xm196).desc).map (fun d => d.parameters.length) = some 3 := by decide +kernel
theorem n197 : xMT 197 = xm197 := rfl
theorem p197 : (parseMethodDescriptor (xmN xm197).desc).map (fun d => d.parameters.length) = some 3 := by decide +kernel
theorem n198 : xMT 198 = xm198 := rfl
theorem p198 : (parseMethodDescriptor (xmN xm198).desc).map (fun d => d.parameters.length) = some 1 := by decide +kernel
theorem n199 : xMT 199 = xm199 := rfl
theorem p199 : (parseMethodDescriptor (xmN xm199).desc).map (fun d => d.parameters.length) = some 2 := by decide +kernel
theorem n200 : xMT 200 = xm200 := rfl
theorem p200 : (parseMethodDescriptor (xmN xm200).desc).map (fun d => d.parameters.length) = some 3 := by decide +kernel
theorem n201 : xMT 201 = xm201 := rfl
theorem p201 : (parseMethodDescriptor (xmN xm201).desc).map (fun d => d.parameters.length) = some 2 := by decide +kernel
theorem n202 : xMT 202 = xm202 := rfl
theorem p202 : (parseMethodDescriptor (xmN xm202).desc).map (fun d => d.parameters.length) = some 1 := by decide +kernel
theorem n203 : xMT 203 = xm203 := rfl
theorem p203 : (parseMethodDescriptor (xmN xm203).desc).map (fun d => d.parameters.length) = some 0 := by decide +kernel
theorem n204 : xMT 204 = xm204 := rfl
theorem p204 : (parseMethodDescriptor (xmN xm204).desc).map (fun d => d.parameters.length) = some 1 := by decide +kernel
theorem n205 : xMT 205 = xm205 := rfl
theorem p205 : (parseMethodDescriptor (xmN xm205).desc).map (fun d => d.parameters.length) = some 0 := by decide +kernel
theorem n206 : xMT 206 = xm206 := rfl
theorem p206 : (parseMethodDescriptor (xmN xm206).desc).map (fun d => d.parameters.length) = some 1 := by decide +kernel
theorem n207 : xMT 207 = xm207 := rfl
theorem p207 : (parseMethodDescriptor (xmN xm207).desc).map (fun d => d.parameters.length) = some 1 := by decide +kernel
theorem n208 : xMT 208 = xm208 := rfl
theorem p208 : (parseMethodDescriptor (xmN xm208).desc).map (fun d => d.parameters.length) = some 1 := by decide +kernel
theorem n209 : xMT 209 = xm209 := rfl
theorem p209 : (parseMethodDescriptor (xmN xm209).desc).map (fun d => d.parameters.length) = some 0 := by decide +kernel
theorem n210 : xMT 210 = xm210 := rfl
theorem p210 : (parseMethodDescriptor (xmN xm210).desc).map (fun d => d.parameters.length) = some 1 := by decide +kernel
theorem n211 : xMT 211 = xm211 := rfl
theorem p211 : (parseMethodDescriptor (xmN xm211).desc).map (fun d => d.parameters.length) = some 1 := by decide +kernel
theorem n212 : xMT 212 = xm212 := rfl
theorem p212 : (parseMethodDescriptor (xmN xm212).desc).map (fun d => d.parameters.length) = some 2 := by decide +kernel
theorem n213 : xMT 213 = xm213 := rfl
theorem p213 : (parseMethodDescriptor (xmN xm213).desc).map (fun d => d.parameters.length) = some 0 := by decide +kernel
theorem n214 : xMT 214 = xm214 := rfl
theorem p214 : (parseMethodDescriptor (xmN xm214).desc).map (fun d => d.parameters.length) = some 3 := by decide +kernel
theorem n215 : xMT 215 = xm215 := rfl
theorem p215 : (parseMethodDescriptor (xmN xm215).desc).map (fun d => d.parameters.length) = some 4 := by decide +kernel
theorem n216 : xMT 216 = xm216 := rfl
theorem p216 : (parseMethodDescriptor (xmN xm216).desc).map (fun d => d.parameters.length) = some 2 := by decide +kernel
theorem n217 : xMT 217 = xm217 := rfl
theorem p217 : (parseMethodDescriptor (xmN xm217).desc).map (fun d => d.parameters.length) = some 1 := by decide +kernel
theorem n218 : xMT 218 = xm218 := rfl
theorem p218 : (parseMethodDescriptor (xmN xm218).desc).map (fun d => d.parameters.length) = some 0 := by decide +kernel
theorem n219 : xMT 219 = xm219 := rfl
theorem p219 : (parseMethodDescriptor (xmN xm219).desc).map (fun d => d.parameters.length) = some 5 := by decide +kernel
theorem n220 : xMT 220 = xm220 := rfl
theorem p220 : (parseMethodDescriptor (xmN xm220).desc).map (fun d => d.parameters.length) = some 3 := by decide +kernel
theorem n221 : xMT 221 = xm221 := rfl
theorem p221 : (parseMethodDescriptor (xmN xm221).desc).map (fun d => d.parameters.length) = some 4 := by decide +kernel
theorem n222 : xMT 222 = xm222 := rfl
theorem p222 : (parseMethodDescriptor (xmN xm222).desc).map (fun d => d.parameters.length) = some 3 := by decide +kernel
theorem n223 : xMT 223 = xm223 := rfl
theorem p223 : (parseMethodDescriptor (xmN xm223).desc).map (fun d => d.parameters.length) = some 0 := by decide +kernel
theorem n224 : xMT 224 = xm224 := rfl
theorem p224 : (parseMethodDescriptor (xmN xm224).desc).map (fun d => d.parameters.length) = some 1 := by decide +kernel
theorem n225 : xMT 225 = xm225 := rfl
theorem p225 : (parseMethodDescriptor (xmN xm225).desc).map (fun d => d.parameters.length) = some 2 := by decide +kernel
theorem n226 : xMT 226 = xm226 := rfl
theorem p226 : (parseMethodDescriptor (xmN xm226).desc).map (fun d => d.parameters.length) = some 0 := by decide +kernel
theorem n227 : xMT 227 = xm227 := rfl
theorem p227 : (parseMethodDescriptor (xmN xm227).desc).map (fun d => d.parameters.length) = some 0 := by decide +kernel
theorem n228 : xMT 228 = xm228 := rfl
theorem p228 : (parseMethodDescriptor (xmN xm228).desc).map (fun d => d.parameters.length) = some 0 := by decide +kernel
theorem n229 : xMT 229 = xm229 := rfl
theorem p229 : (parseMethodDescriptor (xmN xm229).desc).map (fun d => d.parameters.length) = some 3 := by decide +kernel
theorem n230 : xMT 230 = xm230 := rfl
theorem p230 : (parseMethodDescriptor (xmN xm230).desc).map (fun d => d.parameters.length) = some 3 := by decide +kernel
theorem n231 : xMT 231 = xm231 := rfl
theorem p231 : (parseMethodDescriptor (xmN xm231).desc).map (fun d => d.parameters.length) = some 2 := by decide +kernel
theorem n232 : xMT 232 = xm232 := rfl
theorem p232 : (parseMethodDescriptor (xmN xm232).desc).map (fun d => d.parameters.length) = some 1 := by decide +kernel
theorem n233 : xMT 233 = xm233 := rfl
theorem p233 : (parseMethodDescriptor (xmN xm233).desc).map (fun d => d.parameters.length) = some 1 := by decide +kernel
theorem n234 : xMT 234 = xm234 := rfl
theorem p234 : (parseMethodDescriptor (xmN xm234).desc).map (fun d => d.parameters.length) = some 1 := by decide +kernel
theorem n235 : xMT 235 = xm235 := rfl
theorem p235 : (parseMethodDescriptor (xmN xm235).desc).map (fun d => d.parameters.length) = some 3 := by decide +kernel
theorem n236 : xMT 236 = xm236 := rfl
theorem p236 : (parseMethodDescriptor (xmN xm236).desc).map (fun d => d.parameters.length) = some 0 := by decide +kernel
theorem n237 : xMT 237 = xm237 := rfl
theorem p237 : (parseMethodDescriptor (xmN xm237).desc).map (fun d => d.parameters.length) = some 0 := by decide +kernel
theorem n238 : xMT 238 = xm238 := rfl
theorem p238 : (parseMethodDescriptor (xmN xm238).desc).map (fun d => d.parameters.length) = some 1 := by decide +kernel
theorem n239 : xMT 239 = xm239 := rfl
theorem p239 : (parseMethodDescriptor (xmN xm239).desc).map (fun d => d.parameters.length) = some 2 := by decide +kernel
theorem n240 : xMT 240 = xm240 := rfl
theorem p240 : (parseMethodDescriptor (xmN xm240).desc).map (fun d => d.parameters.length) = some 5 := by decide +kernel
theorem n241 : xMT 241 = xm241 := rfl
theorem p241 : (parseMethodDescriptor (xmN xm241).desc).map (fun d => d.parameters.length) = some 6 := by decide +kernel
theorem n242 : xMT 242 = xm242 := rfl
theorem p242 : (parseMethodDescriptor (xmN xm242).desc).map (fun d => d.parameters.length) = some 1 := by decide +kernel
theorem n243 : xMT 243 = xm243 := rfl
theorem p243 : (parseMethodDescriptor (xmN xm243).desc).map (fun d => d.parameters.length) = some 1 := by decide +kernel
theorem n244 : xMT 244 = xm244 := rfl
theorem p244 : (parseMethodDescriptor (xmN xm244).desc).map (fun d => d.parameters.length) = some 1 := by decide +kernel
theorem n245 : xMT 245 = xm245 := rfl
theorem p245 : (parseMethodDescriptor (xmN xm245).desc).map (fun d => d.parameters.length) = some 2 := by decide +kernel
theorem n246 : xMT 246 = xm246 := rfl
theorem p246 : (parseMethodDescriptor (xmN xm246).desc).map (fun d => d.parameters.length) = some 2 := by decide +kernel
theorem n247 : xMT 247 = xm247 := rfl
theorem p247 : (parseMethodDescriptor (xmN xm247).desc).map (fun d => d.parameters.length) = some 0 := by decide +kernel
theorem n248 : xMT 248 = xm248 := rfl
theorem p248 : (parseMethodDescriptor (xmN xm248).desc).map (fun d => d.parameters.length) = some 2 := by decide +kernel
theorem n249 : xMT 249 = xm249 := rfl
theorem p249 : (parseMethodDescriptor (xmN xm249).desc).map (fun d => d.parameters.length) = some 1 := by decide +kernel
theorem n250 : xMT 250 = xm250 := rfl
theorem p250 : (parseMethodDescriptor (xmN xm250).desc).map (fun d => d.parameters.length) = some 4 := by decide +kernel
theorem n251 : xMT 251 = xm251 := rfl
theorem p251 : (parseMethodDescriptor (xmN xm251).desc).map (fun d => d.parameters.length) = some 1 := by decide +kernel
theorem n252 : xMT 252 = xm252 := rfl
theorem p252 : (parseMethodDescriptor (xmN xm252).desc).map (fun d => d.parameters.length) = some 2 := by decide +kernel
theorem n253 : xMT 253 = xm253 := rfl
theorem p253 : (parseMethodDescriptor (xmN xm253).desc).map (fun d => d.parameters.length) = some 1 := by decide +kernel
theorem n254 : xMT 254 = xm254 := rfl
theorem p254 : (parseMethodDescriptor (xmN xm254).desc).map (fun d => d.parameters.length) = some 3 := by decide +kernel
theorem n255 : xMT 255 = xm255 := rfl
theorem p255 : (parseMethodDescriptor (xmN xm255).desc).map (fun d => d.parameters.length) = some 2 := by decide +kernel
theorem n256 : xMT 256 = xm256 := rfl
theorem p256 : (parseMethodDescriptor (xmN xm256).desc).map (fun d => d.parameters.length) = some 1 := by decide +kernel
theorem n257 : xMT 257 = xm257 := rfl
theorem p257 : (parseMethodDescriptor (xmN xm257).desc).map (fun d => d.parameters.length) = some 1 := by decide +kernel
theorem n258 : xMT 258 = xm258 := rfl
theorem p258 : (parseMethodDescriptor (xmN xm258).desc).map (fun d => d.parameters.length) = some 1 := by decide +kernel
theorem n259 : xMT 259 = xm259 := rfl
theorem p259 : (parseMethodDescriptor (xmN xm259).desc).map (fun d => d.parameters.length) = some 1 := by decide +kernel
theorem n260 : xMT 260 = xm260 := rfl
theorem p260 : (parseMethodDescriptor (xmN xm260).desc).map (fun d => d.parameters.length) = some 2 := by decide +kernel
theorem n261 : xMT 261 = xm261 := rfl
theorem p261 : (parseMethodDescriptor (xmN xm261).desc).map (fun d => d.parameters.length) = some 1 := by decide +kernel
theorem n262 : xMT 262 = xm262 := rfl
theorem p262 : (parseMethodDescriptor (xmN xm262).desc).map (fun d => d.parameters.length) = some 1 := by decide +kernel
theorem n263 : xMT 263 = xm263 := rfl
theorem p263 : (parseMethodDescriptor (xmN xm263).desc).map (fun d => d.parameters.length) = some 3 := by decide +kernel
theorem n264 : xMT 264 = xm264 := rfl
theorem p264 : (parseMethodDescriptor (xmN xm264).desc).map (fun d => d.parameters.length) = some 2 := by decide +kernel
theorem n265 : xMT 265 = xm265 := rfl
theorem p265 : (parseMethodDescriptor (xmN xm265).desc).map (fun d => d.parameters.length) = some 2 := by decide +kernel
theorem n266 : xMT 266 = xm266 := rfl
theorem p266 : (parseMethodDescriptor (xmN xm266).desc).map (fun d => d.parameters.length) = some 3 := by decide +kernel
theorem n267 : xMT 267 = xm267 := rfl
theorem p267 : (parseMethodDescriptor (xmN xm267).desc).map (fun d => d.parameters.length) = some 1 := by decide +kernel
theorem n268 : xMT 268 = xm268 := rfl
theorem p268 : (parseMethodDescriptor (xmN xm268).desc).map (fun d => d.parameters.length) = some 3 := by decide +kernel
theorem n269 : xMT 269 = xm269 := rfl
theorem p269 : (parseMethodDescriptor (xmN xm269).desc).map (fun d => d.parameters.length) = some 1 := by decide +kernel
theorem n270 : xMT 270 = xm270 := rfl
theorem p270 : (parseMethodDescriptor (xmN xm270).desc).map (fun d => d.parameters.length) = some 0 := by decide +kernel
theorem n271 : xMT 271 = xm271 := rfl
theorem p271 : (parseMethodDescriptor (xmN xm271).desc).map (fun d => d.parameters.length) = some 0 := by decide +kernel
theorem n272 : xMT 272 = xm272 := rfl
theorem p272 : (parseMethodDescriptor (xmN xm272).desc).map (fun d => d.parameters.length) = some 0 := by decide +kernel
