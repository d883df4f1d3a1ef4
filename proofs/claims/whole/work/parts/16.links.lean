/-! fields and calls as the tables have them -/
theorem fr_5_15 : FR RX5 15 5 0 := ⟨_, rfl, rfl, (inT1 (List.mem_of_getElem? (i := 46) rfl) rfl), rfl⟩
theorem pf_5_15 : PF RX5 15 5 0 false := ⟨_, rfl, rfl, (inT1 (List.mem_of_getElem? (i := 46) rfl) rfl), rfl, fun h => by cases h⟩
theorem fr_9_33 : FR RX9 33 5 0 := ⟨_, rfl, rfl, (inT1 (List.mem_of_getElem? (i := 47) rfl) rfl), rfl⟩
theorem pf_9_33 : PF RX9 33 5 0 false := ⟨_, rfl, rfl, (inT1 (List.mem_of_getElem? (i := 47) rfl) rfl), rfl, fun h => by cases h⟩
theorem fr_0_101 : FR RX0 101 5 0 := ⟨_, rfl, rfl, (inT1 (List.mem_of_getElem? (i := 48) rfl) rfl), rfl⟩
theorem pf_0_101 : PF RX0 101 5 0 false := ⟨_, rfl, rfl, (inT1 (List.mem_of_getElem? (i := 48) rfl) rfl), rfl, fun h => by cases h⟩
theorem fi_5_19 : FI RX5 19 5 1 := ⟨_, rfl, rfl, (inT1 (List.mem_of_getElem? (i := 49) rfl) rfl), rfl⟩
theorem pf_5_19 : PF RX5 19 5 1 false := ⟨_, rfl, rfl, (inT1 (List.mem_of_getElem? (i := 49) rfl) rfl), rfl, fun h => by cases h⟩
theorem fi_9_56 : FI RX9 56 5 1 := ⟨_, rfl, rfl, (inT1 (List.mem_of_getElem? (i := 50) rfl) rfl), rfl⟩
theorem pf_9_56 : PF RX9 56 5 1 false := ⟨_, rfl, rfl, (inT1 (List.mem_of_getElem? (i := 50) rfl) rfl), rfl, fun h => by cases h⟩
theorem fi_0_107 : FI RX0 107 5 1 := ⟨_, rfl, rfl, (inT1 (List.mem_of_getElem? (i := 51) rfl) rfl), rfl⟩
theorem pf_0_107 : PF RX0 107 5 1 false := ⟨_, rfl, rfl, (inT1 (List.mem_of_getElem? (i := 51) rfl) rfl), rfl, fun h => by cases h⟩
theorem fi_5_22 : FI RX5 22 5 2 := ⟨_, rfl, rfl, (inT1 (List.mem_of_getElem? (i := 52) rfl) rfl), rfl⟩
theorem pf_5_22 : PF RX5 22 5 2 false := ⟨_, rfl, rfl, (inT1 (List.mem_of_getElem? (i := 52) rfl) rfl), rfl, fun h => by cases h⟩
theorem fi_5_25 : FI RX5 25 5 3 := ⟨_, rfl, rfl, (inT1 (List.mem_of_getElem? (i := 53) rfl) rfl), rfl⟩
theorem pf_5_25 : PF RX5 25 5 3 false := ⟨_, rfl, rfl, (inT1 (List.mem_of_getElem? (i := 53) rfl) rfl), rfl, fun h => by cases h⟩
theorem fi_9_39 : FI RX9 39 5 3 := ⟨_, rfl, rfl, (inT1 (List.mem_of_getElem? (i := 54) rfl) rfl), rfl⟩
theorem pf_9_39 : PF RX9 39 5 3 false := ⟨_, rfl, rfl, (inT1 (List.mem_of_getElem? (i := 54) rfl) rfl), rfl, fun h => by cases h⟩
theorem fi_5_28 : FI RX5 28 5 4 := ⟨_, rfl, rfl, (inT1 (List.mem_of_getElem? (i := 55) rfl) rfl), rfl⟩
theorem pf_5_28 : PF RX5 28 5 4 false := ⟨_, rfl, rfl, (inT1 (List.mem_of_getElem? (i := 55) rfl) rfl), rfl, fun h => by cases h⟩
theorem fi_9_43 : FI RX9 43 5 4 := ⟨_, rfl, rfl, (inT1 (List.mem_of_getElem? (i := 56) rfl) rfl), rfl⟩
theorem pf_9_43 : PF RX9 43 5 4 false := ⟨_, rfl, rfl, (inT1 (List.mem_of_getElem? (i := 56) rfl) rfl), rfl, fun h => by cases h⟩
theorem fi_0_110 : FI RX0 110 5 4 := ⟨_, rfl, rfl, (inT1 (List.mem_of_getElem? (i := 57) rfl) rfl), rfl⟩
theorem pf_0_110 : PF RX0 110 5 4 false := ⟨_, rfl, rfl, (inT1 (List.mem_of_getElem? (i := 57) rfl) rfl), rfl, fun h => by cases h⟩
theorem fi_5_34 : FI RX5 34 5 5 := ⟨_, rfl, rfl, (inT1 (List.mem_of_getElem? (i := 58) rfl) rfl), rfl⟩
theorem pf_5_34 : PF RX5 34 5 5 false := ⟨_, rfl, rfl, (inT1 (List.mem_of_getElem? (i := 58) rfl) rfl), rfl, fun h => by cases h⟩
theorem fi_0_124 : FI RX0 124 5 5 := ⟨_, rfl, rfl, (inT1 (List.mem_of_getElem? (i := 59) rfl) rfl), rfl⟩
theorem pf_0_124 : PF RX0 124 5 5 false := ⟨_, rfl, rfl, (inT1 (List.mem_of_getElem? (i := 59) rfl) rfl), rfl, fun h => by cases h⟩
theorem fi_8_76 : FI RX8 76 5 5 := ⟨_, rfl, rfl, (inT1 (List.mem_of_getElem? (i := 60) rfl) rfl), rfl⟩
theorem pf_8_76 : PF RX8 76 5 5 false := ⟨_, rfl, rfl, (inT1 (List.mem_of_getElem? (i := 60) rfl) rfl), rfl, fun h => by cases h⟩
theorem fi_11_243 : FI RX11 243 5 5 := ⟨_, rfl, rfl, (inT1 (List.mem_of_getElem? (i := 61) rfl) rfl), rfl⟩
theorem pf_11_243 : PF RX11 243 5 5 false := ⟨_, rfl, rfl, (inT1 (List.mem_of_getElem? (i := 61) rfl) rfl), rfl, fun h => by cases h⟩
theorem fi_5_37 : FI RX5 37 5 6 := ⟨_, rfl, rfl, (inT1 (List.mem_of_getElem? (i := 62) rfl) rfl), rfl⟩
theorem pf_5_37 : PF RX5 37 5 6 false := ⟨_, rfl, rfl, (inT1 (List.mem_of_getElem? (i := 62) rfl) rfl), rfl, fun h => by cases h⟩
theorem fi_0_116 : FI RX0 116 5 6 := ⟨_, rfl, rfl, (inT1 (List.mem_of_getElem? (i := 63) rfl) rfl), rfl⟩
theorem pf_0_116 : PF RX0 116 5 6 false := ⟨_, rfl, rfl, (inT1 (List.mem_of_getElem? (i := 63) rfl) rfl), rfl, fun h => by cases h⟩
theorem fi_11_246 : FI RX11 246 5 6 := ⟨_, rfl, rfl, (inT1 (List.mem_of_getElem? (i := 64) rfl) rfl), rfl⟩
theorem pf_11_246 : PF RX11 246 5 6 false := ⟨_, rfl, rfl, (inT1 (List.mem_of_getElem? (i := 64) rfl) rfl), rfl, fun h => by cases h⟩
theorem fi_5_40 : FI RX5 40 5 7 := ⟨_, rfl, rfl, (inT1 (List.mem_of_getElem? (i := 65) rfl) rfl), rfl⟩
theorem pf_5_40 : PF RX5 40 5 7 false := ⟨_, rfl, rfl, (inT1 (List.mem_of_getElem? (i := 65) rfl) rfl), rfl, fun h => by cases h⟩
theorem fi_0_113 : FI RX0 113 5 7 := ⟨_, rfl, rfl, (inT1 (List.mem_of_getElem? (i := 66) rfl) rfl), rfl⟩
theorem pf_0_113 : PF RX0 113 5 7 false := ⟨_, rfl, rfl, (inT1 (List.mem_of_getElem? (i := 66) rfl) rfl), rfl, fun h => by cases h⟩
theorem fi_11_249 : FI RX11 249 5 7 := ⟨_, rfl, rfl, (inT1 (List.mem_of_getElem? (i := 67) rfl) rfl), rfl⟩
theorem pf_11_249 : PF RX11 249 5 7 false := ⟨_, rfl, rfl, (inT1 (List.mem_of_getElem? (i := 67) rfl) rfl), rfl, fun h => by cases h⟩
theorem fi_5_9 : FI RX5 9 5 8 := ⟨_, rfl, rfl, (inT1 (List.mem_of_getElem? (i := 68) rfl) rfl), rfl⟩
theorem pf_5_9 : PF RX5 9 5 8 false := ⟨_, rfl, rfl, (inT1 (List.mem_of_getElem? (i := 68) rfl) rfl), rfl, fun h => by cases h⟩
theorem fi_0_127 : FI RX0 127 5 8 := ⟨_, rfl, rfl, (inT1 (List.mem_of_getElem? (i := 69) rfl) rfl), rfl⟩
theorem pf_0_127 : PF RX0 127 5 8 false := ⟨_, rfl, rfl, (inT1 (List.mem_of_getElem? (i := 69) rfl) rfl), rfl, fun h => by cases h⟩
theorem fi_11_252 : FI RX11 252 5 8 := ⟨_, rfl, rfl, (inT1 (List.mem_of_getElem? (i := 70) rfl) rfl), rfl⟩
theorem pf_11_252 : PF RX11 252 5 8 false := ⟨_, rfl, rfl, (inT1 (List.mem_of_getElem? (i := 70) rfl) rfl), rfl, fun h => by cases h⟩
theorem fi_5_43 : FI RX5 43 5 9 := ⟨_, rfl, rfl, (inT1 (List.mem_of_getElem? (i := 71) rfl) rfl), rfl⟩
theorem pf_5_43 : PF RX5 43 5 9 false := ⟨_, rfl, rfl, (inT1 (List.mem_of_getElem? (i := 71) rfl) rfl), rfl, fun h => by cases h⟩
theorem fi_0_137 : FI RX0 137 5 9 := ⟨_, rfl, rfl, (inT1 (List.mem_of_getElem? (i := 72) rfl) rfl), rfl⟩
theorem pf_0_137 : PF RX0 137 5 9 false := ⟨_, rfl, rfl, (inT1 (List.mem_of_getElem? (i := 72) rfl) rfl), rfl, fun h => by cases h⟩
theorem fi_11_259 : FI RX11 259 5 9 := ⟨_, rfl, rfl, (inT1 (List.mem_of_getElem? (i := 73) rfl) rfl), rfl⟩
theorem pf_11_259 : PF RX11 259 5 9 false := ⟨_, rfl, rfl, (inT1 (List.mem_of_getElem? (i := 73) rfl) rfl), rfl, fun h => by cases h⟩
theorem fi_5_46 : FI RX5 46 5 10 := ⟨_, rfl, rfl, (inT1 (List.mem_of_getElem? (i := 74) rfl) rfl), rfl⟩
theorem pf_5_46 : PF RX5 46 5 10 false := ⟨_, rfl, rfl, (inT1 (List.mem_of_getElem? (i := 74) rfl) rfl), rfl, fun h => by cases h⟩
theorem fi_0_140 : FI RX0 140 5 10 := ⟨_, rfl, rfl, (inT1 (List.mem_of_getElem? (i := 75) rfl) rfl), rfl⟩
theorem pf_0_140 : PF RX0 140 5 10 false := ⟨_, rfl, rfl, (inT1 (List.mem_of_getElem? (i := 75) rfl) rfl), rfl, fun h => by cases h⟩
theorem fi_11_301 : FI RX11 301 5 10 := ⟨_, rfl, rfl, (inT1 (List.mem_of_getElem? (i := 76) rfl) rfl), rfl⟩
theorem pf_11_301 : PF RX11 301 5 10 false := ⟨_, rfl, rfl, (inT1 (List.mem_of_getElem? (i := 76) rfl) rfl), rfl, fun h => by cases h⟩
theorem fi_5_49 : FI RX5 49 5 11 := ⟨_, rfl, rfl, (inT1 (List.mem_of_getElem? (i := 77) rfl) rfl), rfl⟩
theorem pf_5_49 : PF RX5 49 5 11 false := ⟨_, rfl, rfl, (inT1 (List.mem_of_getElem? (i := 77) rfl) rfl), rfl, fun h => by cases h⟩
theorem fi_0_123 : FI RX0 123 5 11 := ⟨_, rfl, rfl, (inT1 (List.mem_of_getElem? (i := 78) rfl) rfl), rfl⟩
theorem pf_0_123 : PF RX0 123 5 11 false := ⟨_, rfl, rfl, (inT1 (List.mem_of_getElem? (i := 78) rfl) rfl), rfl, fun h => by cases h⟩
theorem fi_8_43 : FI RX8 43 8 0 := ⟨_, rfl, rfl, (inT1 (List.mem_of_getElem? (i := 105) rfl) rfl), rfl⟩
theorem pf_8_43 : PF RX8 43 8 0 false := ⟨_, rfl, rfl, (inT1 (List.mem_of_getElem? (i := 105) rfl) rfl), rfl, fun h => by cases h⟩
theorem fi_7_34 : FI RX7 34 8 0 := ⟨_, rfl, rfl, (inT1 (List.mem_of_getElem? (i := 106) rfl) rfl), rfl⟩
theorem pf_7_34 : PF RX7 34 8 0 false := ⟨_, rfl, rfl, (inT1 (List.mem_of_getElem? (i := 106) rfl) rfl), rfl, fun h => by cases h⟩
theorem fi_0_56 : FI RX0 56 8 0 := ⟨_, rfl, rfl, (inT1 (List.mem_of_getElem? (i := 107) rfl) rfl), rfl⟩
theorem pf_0_56 : PF RX0 56 8 0 false := ⟨_, rfl, rfl, (inT1 (List.mem_of_getElem? (i := 107) rfl) rfl), rfl, fun h => by cases h⟩
theorem fi_11_111 : FI RX11 111 8 0 := ⟨_, rfl, rfl, (inT1 (List.mem_of_getElem? (i := 108) rfl) rfl), rfl⟩
theorem pf_11_111 : PF RX11 111 8 0 false := ⟨_, rfl, rfl, (inT1 (List.mem_of_getElem? (i := 108) rfl) rfl), rfl, fun h => by cases h⟩
theorem fr_8_9 : FR RX8 9 8 1 := ⟨_, rfl, rfl, (inT1 (List.mem_of_getElem? (i := 109) rfl) rfl), rfl⟩
theorem pf_8_9 : PF RX8 9 8 1 true := ⟨_, rfl, rfl, (inT1 (List.mem_of_getElem? (i := 109) rfl) rfl), rfl, fun _ => rfl⟩
theorem fr_7_39 : FR RX7 39 8 1 := ⟨_, rfl, rfl, (inT1 (List.mem_of_getElem? (i := 110) rfl) rfl), rfl⟩
theorem fr_11_114 : FR RX11 114 8 1 := ⟨_, rfl, rfl, (inT1 (List.mem_of_getElem? (i := 111) rfl) rfl), rfl⟩
theorem fi_8_47 : FI RX8 47 8 2 := ⟨_, rfl, rfl, (inT1 (List.mem_of_getElem? (i := 112) rfl) rfl), rfl⟩
theorem pf_8_47 : PF RX8 47 8 2 false := ⟨_, rfl, rfl, (inT1 (List.mem_of_getElem? (i := 112) rfl) rfl), rfl, fun h => by cases h⟩
theorem fi_11_100 : FI RX11 100 8 2 := ⟨_, rfl, rfl, (inT1 (List.mem_of_getElem? (i := 113) rfl) rfl), rfl⟩
theorem pf_11_100 : PF RX11 100 8 2 false := ⟨_, rfl, rfl, (inT1 (List.mem_of_getElem? (i := 113) rfl) rfl), rfl, fun h => by cases h⟩
theorem fr_8_15 : FR RX8 15 8 3 := ⟨_, rfl, rfl, (inT1 (List.mem_of_getElem? (i := 114) rfl) rfl), rfl⟩
theorem pf_8_15 : PF RX8 15 8 3 true := ⟨_, rfl, rfl, (inT1 (List.mem_of_getElem? (i := 114) rfl) rfl), rfl, fun _ => rfl⟩
theorem fr_11_104 : FR RX11 104 8 3 := ⟨_, rfl, rfl, (inT1 (List.mem_of_getElem? (i := 115) rfl) rfl), rfl⟩
theorem fr_0_134 : FR RX0 134 8 3 := ⟨_, rfl, rfl, (inT1 (List.mem_of_getElem? (i := 116) rfl) rfl), rfl⟩
theorem fi_8_50 : FI RX8 50 8 4 := ⟨_, rfl, rfl, (inT1 (List.mem_of_getElem? (i := 117) rfl) rfl), rfl⟩
theorem pf_8_50 : PF RX8 50 8 4 false := ⟨_, rfl, rfl, (inT1 (List.mem_of_getElem? (i := 117) rfl) rfl), rfl, fun h => by cases h⟩
theorem fi_6_31 : FI RX6 31 8 4 := ⟨_, rfl, rfl, (inT1 (List.mem_of_getElem? (i := 118) rfl) rfl), rfl⟩
theorem pf_6_31 : PF RX6 31 8 4 false := ⟨_, rfl, rfl, (inT1 (List.mem_of_getElem? (i := 118) rfl) rfl), rfl, fun h => by cases h⟩
theorem fi_11_121 : FI RX11 121 8 4 := ⟨_, rfl, rfl, (inT1 (List.mem_of_getElem? (i := 119) rfl) rfl), rfl⟩
theorem pf_11_121 : PF RX11 121 8 4 false := ⟨_, rfl, rfl, (inT1 (List.mem_of_getElem? (i := 119) rfl) rfl), rfl, fun h => by cases h⟩
theorem fr_8_18 : FR RX8 18 8 5 := ⟨_, rfl, rfl, (inT1 (List.mem_of_getElem? (i := 120) rfl) rfl), rfl⟩
theorem pf_8_18 : PF RX8 18 8 5 true := ⟨_, rfl, rfl, (inT1 (List.mem_of_getElem? (i := 120) rfl) rfl), rfl, fun _ => rfl⟩
theorem fr_6_36 : FR RX6 36 8 5 := ⟨_, rfl, rfl, (inT1 (List.mem_of_getElem? (i := 121) rfl) rfl), rfl⟩
theorem fr_8_21 : FR RX8 21 8 6 := ⟨_, rfl, rfl, (inT1 (List.mem_of_getElem? (i := 122) rfl) rfl), rfl⟩
theorem pf_8_21 : PF RX8 21 8 6 true := ⟨_, rfl, rfl, (inT1 (List.mem_of_getElem? (i := 122) rfl) rfl), rfl, fun _ => rfl⟩
theorem fr_0_70 : FR RX0 70 8 6 := ⟨_, rfl, rfl, (inT1 (List.mem_of_getElem? (i := 123) rfl) rfl), rfl⟩
theorem fr_11_138 : FR RX11 138 8 6 := ⟨_, rfl, rfl, (inT1 (List.mem_of_getElem? (i := 124) rfl) rfl), rfl⟩
theorem fr_8_24 : FR RX8 24 8 7 := ⟨_, rfl, rfl, (inT1 (List.mem_of_getElem? (i := 125) rfl) rfl), rfl⟩
theorem pf_8_24 : PF RX8 24 8 7 true := ⟨_, rfl, rfl, (inT1 (List.mem_of_getElem? (i := 125) rfl) rfl), rfl, fun _ => rfl⟩
theorem fr_11_144 : FR RX11 144 8 7 := ⟨_, rfl, rfl, (inT1 (List.mem_of_getElem? (i := 126) rfl) rfl), rfl⟩
theorem fi_8_53 : FI RX8 53 8 8 := ⟨_, rfl, rfl, (inT1 (List.mem_of_getElem? (i := 127) rfl) rfl), rfl⟩
theorem pf_8_53 : PF RX8 53 8 8 false := ⟨_, rfl, rfl, (inT1 (List.mem_of_getElem? (i := 127) rfl) rfl), rfl, fun h => by cases h⟩
theorem fi_0_143 : FI RX0 143 8 8 := ⟨_, rfl, rfl, (inT1 (List.mem_of_getElem? (i := 128) rfl) rfl), rfl⟩
theorem pf_0_143 : PF RX0 143 8 8 false := ⟨_, rfl, rfl, (inT1 (List.mem_of_getElem? (i := 128) rfl) rfl), rfl, fun h => by cases h⟩
theorem fi_11_224 : FI RX11 224 8 8 := ⟨_, rfl, rfl, (inT1 (List.mem_of_getElem? (i := 129) rfl) rfl), rfl⟩
theorem pf_11_224 : PF RX11 224 8 8 false := ⟨_, rfl, rfl, (inT1 (List.mem_of_getElem? (i := 129) rfl) rfl), rfl, fun h => by cases h⟩
theorem fr_8_29 : FR RX8 29 8 9 := ⟨_, rfl, rfl, (inT1 (List.mem_of_getElem? (i := 130) rfl) rfl), rfl⟩
theorem pf_8_29 : PF RX8 29 8 9 true := ⟨_, rfl, rfl, (inT1 (List.mem_of_getElem? (i := 130) rfl) rfl), rfl, fun _ => rfl⟩
theorem fr_0_146 : FR RX0 146 8 9 := ⟨_, rfl, rfl, (inT1 (List.mem_of_getElem? (i := 131) rfl) rfl), rfl⟩
theorem fr_11_227 : FR RX11 227 8 9 := ⟨_, rfl, rfl, (inT1 (List.mem_of_getElem? (i := 132) rfl) rfl), rfl⟩
theorem fi_8_56 : FI RX8 56 8 10 := ⟨_, rfl, rfl, (inT1 (List.mem_of_getElem? (i := 133) rfl) rfl), rfl⟩
theorem pf_8_56 : PF RX8 56 8 10 false := ⟨_, rfl, rfl, (inT1 (List.mem_of_getElem? (i := 133) rfl) rfl), rfl, fun h => by cases h⟩
theorem fi_0_150 : FI RX0 150 8 10 := ⟨_, rfl, rfl, (inT1 (List.mem_of_getElem? (i := 134) rfl) rfl), rfl⟩
theorem pf_0_150 : PF RX0 150 8 10 false := ⟨_, rfl, rfl, (inT1 (List.mem_of_getElem? (i := 134) rfl) rfl), rfl, fun h => by cases h⟩
theorem fi_11_231 : FI RX11 231 8 10 := ⟨_, rfl, rfl, (inT1 (List.mem_of_getElem? (i := 135) rfl) rfl), rfl⟩
theorem pf_11_231 : PF RX11 231 8 10 false := ⟨_, rfl, rfl, (inT1 (List.mem_of_getElem? (i := 135) rfl) rfl), rfl, fun h => by cases h⟩
theorem fi_8_59 : FI RX8 59 8 11 := ⟨_, rfl, rfl, (inT1 (List.mem_of_getElem? (i := 136) rfl) rfl), rfl⟩
theorem pf_8_59 : PF RX8 59 8 11 false := ⟨_, rfl, rfl, (inT1 (List.mem_of_getElem? (i := 136) rfl) rfl), rfl, fun h => by cases h⟩
theorem fi_11_279 : FI RX11 279 8 11 := ⟨_, rfl, rfl, (inT1 (List.mem_of_getElem? (i := 137) rfl) rfl), rfl⟩
theorem pf_11_279 : PF RX11 279 8 11 false := ⟨_, rfl, rfl, (inT1 (List.mem_of_getElem? (i := 137) rfl) rfl), rfl, fun h => by cases h⟩
theorem fr_8_33 : FR RX8 33 8 12 := ⟨_, rfl, rfl, (inT1 (List.mem_of_getElem? (i := 138) rfl) rfl), rfl⟩
theorem pf_8_33 : PF RX8 33 8 12 true := ⟨_, rfl, rfl, (inT1 (List.mem_of_getElem? (i := 138) rfl) rfl), rfl, fun _ => rfl⟩
theorem fr_11_282 : FR RX11 282 8 12 := ⟨_, rfl, rfl, (inT1 (List.mem_of_getElem? (i := 139) rfl) rfl), rfl⟩
theorem fr_6_21 : FR RX6 21 6 0 := ⟨_, rfl, rfl, (inT1 (List.mem_of_getElem? (i := 175) rfl) rfl), rfl⟩
theorem pf_6_21 : PF RX6 21 6 0 true := ⟨_, rfl, rfl, (inT1 (List.mem_of_getElem? (i := 175) rfl) rfl), rfl, fun _ => rfl⟩
theorem fr_6_11 : FR RX6 11 6 1 := ⟨_, rfl, rfl, (inT1 (List.mem_of_getElem? (i := 176) rfl) rfl), rfl⟩
theorem pf_6_11 : PF RX6 11 6 1 true := ⟨_, rfl, rfl, (inT1 (List.mem_of_getElem? (i := 176) rfl) rfl), rfl, fun _ => rfl⟩
theorem fi_6_17 : FI RX6 17 6 2 := ⟨_, rfl, rfl, (inT1 (List.mem_of_getElem? (i := 177) rfl) rfl), rfl⟩
theorem pf_6_17 : PF RX6 17 6 2 false := ⟨_, rfl, rfl, (inT1 (List.mem_of_getElem? (i := 177) rfl) rfl), rfl, fun h => by cases h⟩
theorem fr_10_9 : FR RX10 9 10 0 := ⟨_, rfl, rfl, (inT1 (List.mem_of_getElem? (i := 192) rfl) rfl), rfl⟩
theorem pf_10_9 : PF RX10 9 10 0 true := ⟨_, rfl, rfl, (inT1 (List.mem_of_getElem? (i := 192) rfl) rfl), rfl, fun _ => rfl⟩
theorem fr_11_184 : FR RX11 184 10 0 := ⟨_, rfl, rfl, (inT1 (List.mem_of_getElem? (i := 193) rfl) rfl), rfl⟩
theorem fr_10_15 : FR RX10 15 10 1 := ⟨_, rfl, rfl, (inT1 (List.mem_of_getElem? (i := 194) rfl) rfl), rfl⟩
theorem pf_10_15 : PF RX10 15 10 1 true := ⟨_, rfl, rfl, (inT1 (List.mem_of_getElem? (i := 194) rfl) rfl), rfl, fun _ => rfl⟩
theorem fr_0_90 : FR RX0 90 10 1 := ⟨_, rfl, rfl, (inT1 (List.mem_of_getElem? (i := 195) rfl) rfl), rfl⟩
theorem fr_3_9 : FR RX3 9 3 0 := ⟨_, rfl, rfl, (inT1 (List.mem_of_getElem? (i := 207) rfl) rfl), rfl⟩
theorem pf_3_9 : PF RX3 9 3 0 true := ⟨_, rfl, rfl, (inT1 (List.mem_of_getElem? (i := 207) rfl) rfl), rfl, fun _ => rfl⟩
theorem fr_3_15 : FR RX3 15 3 1 := ⟨_, rfl, rfl, (inT1 (List.mem_of_getElem? (i := 208) rfl) rfl), rfl⟩
theorem pf_3_15 : PF RX3 15 3 1 true := ⟨_, rfl, rfl, (inT1 (List.mem_of_getElem? (i := 208) rfl) rfl), rfl, fun _ => rfl⟩
theorem fr_3_18 : FR RX3 18 3 2 := ⟨_, rfl, rfl, (inT1 (List.mem_of_getElem? (i := 209) rfl) rfl), rfl⟩
theorem pf_3_18 : PF RX3 18 3 2 true := ⟨_, rfl, rfl, (inT1 (List.mem_of_getElem? (i := 209) rfl) rfl), rfl, fun _ => rfl⟩
theorem fi_3_21 : FI RX3 21 3 3 := ⟨_, rfl, rfl, (inT1 (List.mem_of_getElem? (i := 210) rfl) rfl), rfl⟩
theorem pf_3_21 : PF RX3 21 3 3 false := ⟨_, rfl, rfl, (inT1 (List.mem_of_getElem? (i := 210) rfl) rfl), rfl, fun h => by cases h⟩
theorem fr_0_15 : FR RX0 15 0 0 := ⟨_, rfl, rfl, (inT1 (List.mem_of_getElem? (i := 226) rfl) rfl), rfl⟩
theorem pf_0_15 : PF RX0 15 0 0 true := ⟨_, rfl, rfl, (inT1 (List.mem_of_getElem? (i := 226) rfl) rfl), rfl, fun _ => rfl⟩
theorem fr_0_19 : FR RX0 19 0 1 := ⟨_, rfl, rfl, (inT1 (List.mem_of_getElem? (i := 227) rfl) rfl), rfl⟩
theorem pf_0_19 : PF RX0 19 0 1 true := ⟨_, rfl, rfl, (inT1 (List.mem_of_getElem? (i := 227) rfl) rfl), rfl, fun _ => rfl⟩
theorem fr_0_23 : FR RX0 23 0 2 := ⟨_, rfl, rfl, (inT1 (List.mem_of_getElem? (i := 228) rfl) rfl), rfl⟩
theorem pf_0_23 : PF RX0 23 0 2 true := ⟨_, rfl, rfl, (inT1 (List.mem_of_getElem? (i := 228) rfl) rfl), rfl, fun _ => rfl⟩
theorem fr_0_27 : FR RX0 27 0 3 := ⟨_, rfl, rfl, (inT1 (List.mem_of_getElem? (i := 229) rfl) rfl), rfl⟩
theorem pf_0_27 : PF RX0 27 0 3 true := ⟨_, rfl, rfl, (inT1 (List.mem_of_getElem? (i := 229) rfl) rfl), rfl, fun _ => rfl⟩
theorem fi_0_43 : FI RX0 43 0 4 := ⟨_, rfl, rfl, (inT1 (List.mem_of_getElem? (i := 230) rfl) rfl), rfl⟩
theorem pf_0_43 : PF RX0 43 0 4 false := ⟨_, rfl, rfl, (inT1 (List.mem_of_getElem? (i := 230) rfl) rfl), rfl, fun h => by cases h⟩
theorem fi_11_215 : FI RX11 215 0 4 := ⟨_, rfl, rfl, (inT1 (List.mem_of_getElem? (i := 231) rfl) rfl), rfl⟩
theorem pf_11_215 : PF RX11 215 0 4 false := ⟨_, rfl, rfl, (inT1 (List.mem_of_getElem? (i := 231) rfl) rfl), rfl, fun h => by cases h⟩
theorem fi_0_47 : FI RX0 47 0 5 := ⟨_, rfl, rfl, (inT1 (List.mem_of_getElem? (i := 232) rfl) rfl), rfl⟩
theorem pf_0_47 : PF RX0 47 0 5 false := ⟨_, rfl, rfl, (inT1 (List.mem_of_getElem? (i := 232) rfl) rfl), rfl, fun h => by cases h⟩
theorem fi_11_218 : FI RX11 218 0 5 := ⟨_, rfl, rfl, (inT1 (List.mem_of_getElem? (i := 233) rfl) rfl), rfl⟩
theorem pf_11_218 : PF RX11 218 0 5 false := ⟨_, rfl, rfl, (inT1 (List.mem_of_getElem? (i := 233) rfl) rfl), rfl, fun h => by cases h⟩
theorem fi_0_50 : FI RX0 50 0 6 := ⟨_, rfl, rfl, (inT1 (List.mem_of_getElem? (i := 234) rfl) rfl), rfl⟩
theorem pf_0_50 : PF RX0 50 0 6 false := ⟨_, rfl, rfl, (inT1 (List.mem_of_getElem? (i := 234) rfl) rfl), rfl, fun h => by cases h⟩
theorem fi_11_221 : FI RX11 221 0 6 := ⟨_, rfl, rfl, (inT1 (List.mem_of_getElem? (i := 235) rfl) rfl), rfl⟩
theorem pf_11_221 : PF RX11 221 0 6 false := ⟨_, rfl, rfl, (inT1 (List.mem_of_getElem? (i := 235) rfl) rfl), rfl, fun h => by cases h⟩
theorem fi_0_53 : FI RX0 53 0 7 := ⟨_, rfl, rfl, (inT1 (List.mem_of_getElem? (i := 236) rfl) rfl), rfl⟩
theorem pf_0_53 : PF RX0 53 0 7 false := ⟨_, rfl, rfl, (inT1 (List.mem_of_getElem? (i := 236) rfl) rfl), rfl, fun h => by cases h⟩
theorem fi_9_65 : FI RX9 65 0 8 := ⟨_, rfl, rfl, (inT1 (List.mem_of_getElem? (i := 237) rfl) rfl), rfl⟩
theorem pf_9_65 : PF RX9 65 0 8 false := ⟨_, rfl, rfl, (inT1 (List.mem_of_getElem? (i := 237) rfl) rfl), rfl, fun h => by cases h⟩
theorem fi_0_95 : FI RX0 95 0 8 := ⟨_, rfl, rfl, (inT1 (List.mem_of_getElem? (i := 238) rfl) rfl), rfl⟩
theorem pf_0_95 : PF RX0 95 0 8 false := ⟨_, rfl, rfl, (inT1 (List.mem_of_getElem? (i := 238) rfl) rfl), rfl, fun h => by cases h⟩
theorem fi_9_67 : FI RX9 67 0 9 := ⟨_, rfl, rfl, (inT1 (List.mem_of_getElem? (i := 239) rfl) rfl), rfl⟩
theorem pf_9_67 : PF RX9 67 0 9 false := ⟨_, rfl, rfl, (inT1 (List.mem_of_getElem? (i := 239) rfl) rfl), rfl, fun h => by cases h⟩
theorem fi_0_98 : FI RX0 98 0 9 := ⟨_, rfl, rfl, (inT2 (List.mem_of_getElem? (i := 0) rfl) rfl), rfl⟩
theorem pf_0_98 : PF RX0 98 0 9 false := ⟨_, rfl, rfl, (inT2 (List.mem_of_getElem? (i := 0) rfl) rfl), rfl, fun h => by cases h⟩
theorem fi_0_164 : FI RX0 164 0 10 := ⟨_, rfl, rfl, (inT2 (List.mem_of_getElem? (i := 1) rfl) rfl), rfl⟩
theorem pf_0_164 : PF RX0 164 0 10 false := ⟨_, rfl, rfl, (inT2 (List.mem_of_getElem? (i := 1) rfl) rfl), rfl, fun h => by cases h⟩
theorem fi_11_307 : FI RX11 307 0 10 := ⟨_, rfl, rfl, (inT2 (List.mem_of_getElem? (i := 2) rfl) rfl), rfl⟩
theorem pf_11_307 : PF RX11 307 0 10 false := ⟨_, rfl, rfl, (inT2 (List.mem_of_getElem? (i := 2) rfl) rfl), rfl, fun h => by cases h⟩
theorem fi_0_167 : FI RX0 167 0 11 := ⟨_, rfl, rfl, (inT2 (List.mem_of_getElem? (i := 3) rfl) rfl), rfl⟩
theorem pf_0_167 : PF RX0 167 0 11 false := ⟨_, rfl, rfl, (inT2 (List.mem_of_getElem? (i := 3) rfl) rfl), rfl, fun h => by cases h⟩
theorem fi_11_310 : FI RX11 310 0 11 := ⟨_, rfl, rfl, (inT2 (List.mem_of_getElem? (i := 4) rfl) rfl), rfl⟩
theorem pf_11_310 : PF RX11 310 0 11 false := ⟨_, rfl, rfl, (inT2 (List.mem_of_getElem? (i := 4) rfl) rfl), rfl, fun h => by cases h⟩
theorem fr_0_9 : FR RX0 9 0 12 := ⟨_, rfl, rfl, (inT2 (List.mem_of_getElem? (i := 5) rfl) rfl), rfl⟩
theorem pf_0_9 : PF RX0 9 0 12 true := ⟨_, rfl, rfl, (inT2 (List.mem_of_getElem? (i := 5) rfl) rfl), rfl, fun _ => rfl⟩
theorem fr_9_11 : FR RX9 11 9 0 := ⟨_, rfl, rfl, (inT2 (List.mem_of_getElem? (i := 39) rfl) rfl), rfl⟩
theorem pf_9_11 : PF RX9 11 9 0 true := ⟨_, rfl, rfl, (inT2 (List.mem_of_getElem? (i := 39) rfl) rfl), rfl, fun _ => rfl⟩
theorem fr_9_15 : FR RX9 15 9 1 := ⟨_, rfl, rfl, (inT2 (List.mem_of_getElem? (i := 40) rfl) rfl), rfl⟩
theorem pf_9_15 : PF RX9 15 9 1 true := ⟨_, rfl, rfl, (inT2 (List.mem_of_getElem? (i := 40) rfl) rfl), rfl, fun _ => rfl⟩
theorem fr_9_18 : FR RX9 18 9 2 := ⟨_, rfl, rfl, (inT2 (List.mem_of_getElem? (i := 41) rfl) rfl), rfl⟩
theorem pf_9_18 : PF RX9 18 9 2 true := ⟨_, rfl, rfl, (inT2 (List.mem_of_getElem? (i := 41) rfl) rfl), rfl, fun _ => rfl⟩
theorem fr_9_21 : FR RX9 21 9 3 := ⟨_, rfl, rfl, (inT2 (List.mem_of_getElem? (i := 42) rfl) rfl), rfl⟩
theorem pf_9_21 : PF RX9 21 9 3 true := ⟨_, rfl, rfl, (inT2 (List.mem_of_getElem? (i := 42) rfl) rfl), rfl, fun _ => rfl⟩
theorem fr_9_24 : FR RX9 24 9 4 := ⟨_, rfl, rfl, (inT2 (List.mem_of_getElem? (i := 43) rfl) rfl), rfl⟩
theorem pf_9_24 : PF RX9 24 9 4 true := ⟨_, rfl, rfl, (inT2 (List.mem_of_getElem? (i := 43) rfl) rfl), rfl, fun _ => rfl⟩
theorem fr_4_11 : FR RX4 11 4 0 := ⟨_, rfl, rfl, (inT2 (List.mem_of_getElem? (i := 61) rfl) rfl), rfl⟩
theorem pf_4_11 : PF RX4 11 4 0 true := ⟨_, rfl, rfl, (inT2 (List.mem_of_getElem? (i := 61) rfl) rfl), rfl, fun _ => rfl⟩
theorem fi_4_18 : FI RX4 18 4 1 := ⟨_, rfl, rfl, (inT2 (List.mem_of_getElem? (i := 62) rfl) rfl), rfl⟩
theorem pf_4_18 : PF RX4 18 4 1 false := ⟨_, rfl, rfl, (inT2 (List.mem_of_getElem? (i := 62) rfl) rfl), rfl, fun h => by cases h⟩
theorem fr_4_15 : FR RX4 15 4 2 := ⟨_, rfl, rfl, (inT2 (List.mem_of_getElem? (i := 63) rfl) rfl), rfl⟩
theorem pf_4_15 : PF RX4 15 4 2 true := ⟨_, rfl, rfl, (inT2 (List.mem_of_getElem? (i := 63) rfl) rfl), rfl, fun _ => rfl⟩
theorem fr_11_336 : FR RX11 336 4 2 := ⟨_, rfl, rfl, (inT2 (List.mem_of_getElem? (i := 64) rfl) rfl), rfl⟩
theorem fi_4_22 : FI RX4 22 4 3 := ⟨_, rfl, rfl, (inT2 (List.mem_of_getElem? (i := 65) rfl) rfl), rfl⟩
theorem pf_4_22 : PF RX4 22 4 3 false := ⟨_, rfl, rfl, (inT2 (List.mem_of_getElem? (i := 65) rfl) rfl), rfl, fun h => by cases h⟩
theorem fi_11_352 : FI RX11 352 4 3 := ⟨_, rfl, rfl, (inT2 (List.mem_of_getElem? (i := 66) rfl) rfl), rfl⟩
theorem pf_11_352 : PF RX11 352 4 3 false := ⟨_, rfl, rfl, (inT2 (List.mem_of_getElem? (i := 66) rfl) rfl), rfl, fun h => by cases h⟩
theorem fi_4_25 : FI RX4 25 4 4 := ⟨_, rfl, rfl, (inT2 (List.mem_of_getElem? (i := 67) rfl) rfl), rfl⟩
theorem pf_4_25 : PF RX4 25 4 4 false := ⟨_, rfl, rfl, (inT2 (List.mem_of_getElem? (i := 67) rfl) rfl), rfl, fun h => by cases h⟩
theorem fi_11_355 : FI RX11 355 4 4 := ⟨_, rfl, rfl, (inT2 (List.mem_of_getElem? (i := 68) rfl) rfl), rfl⟩
theorem pf_11_355 : PF RX11 355 4 4 false := ⟨_, rfl, rfl, (inT2 (List.mem_of_getElem? (i := 68) rfl) rfl), rfl, fun h => by cases h⟩
theorem fi_4_29 : FI RX4 29 4 5 := ⟨_, rfl, rfl, (inT2 (List.mem_of_getElem? (i := 69) rfl) rfl), rfl⟩
theorem pf_4_29 : PF RX4 29 4 5 false := ⟨_, rfl, rfl, (inT2 (List.mem_of_getElem? (i := 69) rfl) rfl), rfl, fun h => by cases h⟩
theorem fi_11_345 : FI RX11 345 4 5 := ⟨_, rfl, rfl, (inT2 (List.mem_of_getElem? (i := 70) rfl) rfl), rfl⟩
theorem pf_11_345 : PF RX11 345 4 5 false := ⟨_, rfl, rfl, (inT2 (List.mem_of_getElem? (i := 70) rfl) rfl), rfl, fun h => by cases h⟩
theorem fi_4_32 : FI RX4 32 4 6 := ⟨_, rfl, rfl, (inT2 (List.mem_of_getElem? (i := 71) rfl) rfl), rfl⟩
theorem pf_4_32 : PF RX4 32 4 6 false := ⟨_, rfl, rfl, (inT2 (List.mem_of_getElem? (i := 71) rfl) rfl), rfl, fun h => by cases h⟩
theorem fi_11_342 : FI RX11 342 4 6 := ⟨_, rfl, rfl, (inT2 (List.mem_of_getElem? (i := 72) rfl) rfl), rfl⟩
theorem pf_11_342 : PF RX11 342 4 6 false := ⟨_, rfl, rfl, (inT2 (List.mem_of_getElem? (i := 72) rfl) rfl), rfl, fun h => by cases h⟩
theorem fi_4_35 : FI RX4 35 4 7 := ⟨_, rfl, rfl, (inT2 (List.mem_of_getElem? (i := 73) rfl) rfl), rfl⟩
theorem pf_4_35 : PF RX4 35 4 7 false := ⟨_, rfl, rfl, (inT2 (List.mem_of_getElem? (i := 73) rfl) rfl), rfl, fun h => by cases h⟩
theorem fr_2_9 : FR RX2 9 2 0 := ⟨_, rfl, rfl, (inT2 (List.mem_of_getElem? (i := 97) rfl) rfl), rfl⟩
theorem pf_2_9 : PF RX2 9 2 0 false := ⟨_, rfl, rfl, (inT2 (List.mem_of_getElem? (i := 97) rfl) rfl), rfl, fun h => by cases h⟩
theorem fi_2_24 : FI RX2 24 2 1 := ⟨_, rfl, rfl, (inT2 (List.mem_of_getElem? (i := 98) rfl) rfl), rfl⟩
theorem pf_2_24 : PF RX2 24 2 1 false := ⟨_, rfl, rfl, (inT2 (List.mem_of_getElem? (i := 98) rfl) rfl), rfl, fun h => by cases h⟩
theorem fi_2_58 : FI RX2 58 2 2 := ⟨_, rfl, rfl, (inT2 (List.mem_of_getElem? (i := 99) rfl) rfl), rfl⟩
theorem pf_2_58 : PF RX2 58 2 2 false := ⟨_, rfl, rfl, (inT2 (List.mem_of_getElem? (i := 99) rfl) rfl), rfl, fun h => by cases h⟩
theorem fi_2_28 : FI RX2 28 2 3 := ⟨_, rfl, rfl, (inT2 (List.mem_of_getElem? (i := 100) rfl) rfl), rfl⟩
theorem pf_2_28 : PF RX2 28 2 3 false := ⟨_, rfl, rfl, (inT2 (List.mem_of_getElem? (i := 100) rfl) rfl), rfl, fun h => by cases h⟩
theorem fi_2_31 : FI RX2 31 2 4 := ⟨_, rfl, rfl, (inT2 (List.mem_of_getElem? (i := 101) rfl) rfl), rfl⟩
theorem pf_2_31 : PF RX2 31 2 4 false := ⟨_, rfl, rfl, (inT2 (List.mem_of_getElem? (i := 101) rfl) rfl), rfl, fun h => by cases h⟩
theorem fi_2_34 : FI RX2 34 2 5 := ⟨_, rfl, rfl, (inT2 (List.mem_of_getElem? (i := 102) rfl) rfl), rfl⟩
theorem pf_2_34 : PF RX2 34 2 5 false := ⟨_, rfl, rfl, (inT2 (List.mem_of_getElem? (i := 102) rfl) rfl), rfl, fun h => by cases h⟩
theorem fi_2_40 : FI RX2 40 2 6 := ⟨_, rfl, rfl, (inT2 (List.mem_of_getElem? (i := 103) rfl) rfl), rfl⟩
theorem pf_2_40 : PF RX2 40 2 6 false := ⟨_, rfl, rfl, (inT2 (List.mem_of_getElem? (i := 103) rfl) rfl), rfl, fun h => by cases h⟩
theorem fi_2_44 : FI RX2 44 2 7 := ⟨_, rfl, rfl, (inT2 (List.mem_of_getElem? (i := 104) rfl) rfl), rfl⟩
theorem pf_2_44 : PF RX2 44 2 7 false := ⟨_, rfl, rfl, (inT2 (List.mem_of_getElem? (i := 104) rfl) rfl), rfl, fun h => by cases h⟩
theorem fr_2_15 : FR RX2 15 2 8 := ⟨_, rfl, rfl, (inT2 (List.mem_of_getElem? (i := 105) rfl) rfl), rfl⟩
theorem pf_2_15 : PF RX2 15 2 8 true := ⟨_, rfl, rfl, (inT2 (List.mem_of_getElem? (i := 105) rfl) rfl), rfl, fun _ => rfl⟩
theorem fi_2_37 : FI RX2 37 2 9 := ⟨_, rfl, rfl, (inT2 (List.mem_of_getElem? (i := 106) rfl) rfl), rfl⟩
theorem pf_2_37 : PF RX2 37 2 9 false := ⟨_, rfl, rfl, (inT2 (List.mem_of_getElem? (i := 106) rfl) rfl), rfl, fun h => by cases h⟩
theorem fr_11_12 : FR RX11 12 11 0 := ⟨_, rfl, rfl, (inT2 (List.mem_of_getElem? (i := 133) rfl) rfl), rfl⟩
theorem pf_11_12 : PF RX11 12 11 0 true := ⟨_, rfl, rfl, (inT2 (List.mem_of_getElem? (i := 133) rfl) rfl), rfl, fun _ => rfl⟩
theorem fr_11_21 : FR RX11 21 11 1 := ⟨_, rfl, rfl, (inT2 (List.mem_of_getElem? (i := 134) rfl) rfl), rfl⟩
theorem pf_11_21 : PF RX11 21 11 1 true := ⟨_, rfl, rfl, (inT2 (List.mem_of_getElem? (i := 134) rfl) rfl), rfl, fun _ => rfl⟩
theorem fr_11_28 : FR RX11 28 11 2 := ⟨_, rfl, rfl, (inT2 (List.mem_of_getElem? (i := 135) rfl) rfl), rfl⟩
theorem pf_11_28 : PF RX11 28 11 2 true := ⟨_, rfl, rfl, (inT2 (List.mem_of_getElem? (i := 135) rfl) rfl), rfl, fun _ => rfl⟩
theorem fr_11_35 : FR RX11 35 11 3 := ⟨_, rfl, rfl, (inT2 (List.mem_of_getElem? (i := 136) rfl) rfl), rfl⟩
theorem pf_11_35 : PF RX11 35 11 3 true := ⟨_, rfl, rfl, (inT2 (List.mem_of_getElem? (i := 136) rfl) rfl), rfl, fun _ => rfl⟩
theorem fr_11_44 : FR RX11 44 11 4 := ⟨_, rfl, rfl, (inT2 (List.mem_of_getElem? (i := 137) rfl) rfl), rfl⟩
theorem pf_11_44 : PF RX11 44 11 4 true := ⟨_, rfl, rfl, (inT2 (List.mem_of_getElem? (i := 137) rfl) rfl), rfl, fun _ => rfl⟩
theorem fr_11_51 : FR RX11 51 11 5 := ⟨_, rfl, rfl, (inT2 (List.mem_of_getElem? (i := 138) rfl) rfl), rfl⟩
theorem pf_11_51 : PF RX11 51 11 5 true := ⟨_, rfl, rfl, (inT2 (List.mem_of_getElem? (i := 138) rfl) rfl), rfl, fun _ => rfl⟩
theorem fr_11_58 : FR RX11 58 11 6 := ⟨_, rfl, rfl, (inT2 (List.mem_of_getElem? (i := 139) rfl) rfl), rfl⟩
theorem pf_11_58 : PF RX11 58 11 6 true := ⟨_, rfl, rfl, (inT2 (List.mem_of_getElem? (i := 139) rfl) rfl), rfl, fun _ => rfl⟩
theorem fr_11_65 : FR RX11 65 11 7 := ⟨_, rfl, rfl, (inT2 (List.mem_of_getElem? (i := 140) rfl) rfl), rfl⟩
theorem pf_11_65 : PF RX11 65 11 7 true := ⟨_, rfl, rfl, (inT2 (List.mem_of_getElem? (i := 140) rfl) rfl), rfl, fun _ => rfl⟩
theorem fr_11_72 : FR RX11 72 11 8 := ⟨_, rfl, rfl, (inT2 (List.mem_of_getElem? (i := 141) rfl) rfl), rfl⟩
theorem pf_11_72 : PF RX11 72 11 8 true := ⟨_, rfl, rfl, (inT2 (List.mem_of_getElem? (i := 141) rfl) rfl), rfl, fun _ => rfl⟩
theorem fr_11_78 : FR RX11 78 11 9 := ⟨_, rfl, rfl, (inT2 (List.mem_of_getElem? (i := 142) rfl) rfl), rfl⟩
theorem pf_11_78 : PF RX11 78 11 9 true := ⟨_, rfl, rfl, (inT2 (List.mem_of_getElem? (i := 142) rfl) rfl), rfl, fun _ => rfl⟩
theorem fi_11_153 : FI RX11 153 11 10 := ⟨_, rfl, rfl, (inT2 (List.mem_of_getElem? (i := 143) rfl) rfl), rfl⟩
theorem pf_11_153 : PF RX11 153 11 10 false := ⟨_, rfl, rfl, (inT2 (List.mem_of_getElem? (i := 143) rfl) rfl), rfl, fun h => by cases h⟩
theorem fr_11_82 : FR RX11 82 11 11 := ⟨_, rfl, rfl, (inT2 (List.mem_of_getElem? (i := 144) rfl) rfl), rfl⟩
theorem pf_11_82 : PF RX11 82 11 11 true := ⟨_, rfl, rfl, (inT2 (List.mem_of_getElem? (i := 144) rfl) rfl), rfl, fun _ => rfl⟩
theorem fi_11_147 : FI RX11 147 11 12 := ⟨_, rfl, rfl, (inT2 (List.mem_of_getElem? (i := 145) rfl) rfl), rfl⟩
theorem pf_11_147 : PF RX11 147 11 12 false := ⟨_, rfl, rfl, (inT2 (List.mem_of_getElem? (i := 145) rfl) rfl), rfl, fun h => by cases h⟩
theorem fr_11_86 : FR RX11 86 11 13 := ⟨_, rfl, rfl, (inT2 (List.mem_of_getElem? (i := 146) rfl) rfl), rfl⟩
theorem pf_11_86 : PF RX11 86 11 13 true := ⟨_, rfl, rfl, (inT2 (List.mem_of_getElem? (i := 146) rfl) rfl), rfl, fun _ => rfl⟩
theorem fr_11_90 : FR RX11 90 11 14 := ⟨_, rfl, rfl, (inT2 (List.mem_of_getElem? (i := 147) rfl) rfl), rfl⟩
theorem pf_11_90 : PF RX11 90 11 14 true := ⟨_, rfl, rfl, (inT2 (List.mem_of_getElem? (i := 147) rfl) rfl), rfl, fun _ => rfl⟩
theorem fr_11_93 : FR RX11 93 11 15 := ⟨_, rfl, rfl, (inT2 (List.mem_of_getElem? (i := 148) rfl) rfl), rfl⟩
theorem pf_11_93 : PF RX11 93 11 15 true := ⟨_, rfl, rfl, (inT2 (List.mem_of_getElem? (i := 148) rfl) rfl), rfl, fun _ => rfl⟩
theorem fi_1_7 : FI RX1 7 1 0 := ⟨_, rfl, rfl, (inT3 (List.mem_of_getElem? (i := 176) rfl) rfl), rfl⟩
theorem pf_1_7 : PF RX1 7 1 0 true := ⟨_, rfl, rfl, (inT3 (List.mem_of_getElem? (i := 176) rfl) rfl), rfl, fun _ => rfl⟩
theorem fi_3_31 : FI RX3 31 1 0 := ⟨_, rfl, rfl, (inT3 (List.mem_of_getElem? (i := 177) rfl) rfl), rfl⟩
theorem fr_1_13 : FR RX1 13 1 1 := ⟨_, rfl, rfl, (inT3 (List.mem_of_getElem? (i := 178) rfl) rfl), rfl⟩
theorem pf_1_13 : PF RX1 13 1 1 true := ⟨_, rfl, rfl, (inT3 (List.mem_of_getElem? (i := 178) rfl) rfl), rfl, fun _ => rfl⟩
theorem fr_3_56 : FR RX3 56 1 1 := ⟨_, rfl, rfl, (inT3 (List.mem_of_getElem? (i := 179) rfl) rfl), rfl⟩
theorem fi_1_17 : FI RX1 17 1 2 := ⟨_, rfl, rfl, (inT3 (List.mem_of_getElem? (i := 180) rfl) rfl), rfl⟩
theorem pf_1_17 : PF RX1 17 1 2 true := ⟨_, rfl, rfl, (inT3 (List.mem_of_getElem? (i := 180) rfl) rfl), rfl, fun _ => rfl⟩
theorem fi_3_47 : FI RX3 47 1 2 := ⟨_, rfl, rfl, (inT3 (List.mem_of_getElem? (i := 181) rfl) rfl), rfl⟩
theorem fi_1_21 : FI RX1 21 1 3 := ⟨_, rfl, rfl, (inT3 (List.mem_of_getElem? (i := 182) rfl) rfl), rfl⟩
theorem pf_1_21 : PF RX1 21 1 3 true := ⟨_, rfl, rfl, (inT3 (List.mem_of_getElem? (i := 182) rfl) rfl), rfl, fun _ => rfl⟩
theorem fi_0_37 : FI RX0 37 1 3 := ⟨_, rfl, rfl, (inT3 (List.mem_of_getElem? (i := 183) rfl) rfl), rfl⟩
theorem fi_11_382 : FI RX11 382 1 3 := ⟨_, rfl, rfl, (inT3 (List.mem_of_getElem? (i := 184) rfl) rfl), rfl⟩
theorem fi_7_24 : FI RX7 24 7 0 := ⟨_, rfl, rfl, (inT3 (List.mem_of_getElem? (i := 209) rfl) rfl), rfl⟩
theorem pf_7_24 : PF RX7 24 7 0 true := ⟨_, rfl, rfl, (inT3 (List.mem_of_getElem? (i := 209) rfl) rfl), rfl, fun _ => rfl⟩
theorem fi_3_37 : FI RX3 37 7 0 := ⟨_, rfl, rfl, (inT3 (List.mem_of_getElem? (i := 210) rfl) rfl), rfl⟩
theorem fr_7_9 : FR RX7 9 7 1 := ⟨_, rfl, rfl, (inT3 (List.mem_of_getElem? (i := 211) rfl) rfl), rfl⟩
theorem pf_7_9 : PF RX7 9 7 1 true := ⟨_, rfl, rfl, (inT3 (List.mem_of_getElem? (i := 211) rfl) rfl), rfl, fun _ => rfl⟩
theorem fr_3_59 : FR RX3 59 7 1 := ⟨_, rfl, rfl, (inT3 (List.mem_of_getElem? (i := 212) rfl) rfl), rfl⟩
theorem fr_7_15 : FR RX7 15 7 2 := ⟨_, rfl, rfl, (inT3 (List.mem_of_getElem? (i := 213) rfl) rfl), rfl⟩
theorem pf_7_15 : PF RX7 15 7 2 true := ⟨_, rfl, rfl, (inT3 (List.mem_of_getElem? (i := 213) rfl) rfl), rfl, fun _ => rfl⟩
theorem fr_3_62 : FR RX3 62 7 2 := ⟨_, rfl, rfl, (inT3 (List.mem_of_getElem? (i := 214) rfl) rfl), rfl⟩
theorem fr_11_174 : FR RX11 174 7 2 := ⟨_, rfl, rfl, (inT3 (List.mem_of_getElem? (i := 215) rfl) rfl), rfl⟩
theorem fr_7_18 : FR RX7 18 7 3 := ⟨_, rfl, rfl, (inT3 (List.mem_of_getElem? (i := 216) rfl) rfl), rfl⟩
theorem pf_7_18 : PF RX7 18 7 3 true := ⟨_, rfl, rfl, (inT3 (List.mem_of_getElem? (i := 216) rfl) rfl), rfl, fun _ => rfl⟩
theorem fr_0_87 : FR RX0 87 7 3 := ⟨_, rfl, rfl, (inT3 (List.mem_of_getElem? (i := 217) rfl) rfl), rfl⟩
theorem fr_11_177 : FR RX11 177 7 3 := ⟨_, rfl, rfl, (inT3 (List.mem_of_getElem? (i := 218) rfl) rfl), rfl⟩
theorem fr_7_21 : FR RX7 21 7 4 := ⟨_, rfl, rfl, (inT3 (List.mem_of_getElem? (i := 219) rfl) rfl), rfl⟩
theorem pf_7_21 : PF RX7 21 7 4 true := ⟨_, rfl, rfl, (inT3 (List.mem_of_getElem? (i := 219) rfl) rfl), rfl, fun _ => rfl⟩
theorem fr_0_61 : FR RX0 61 7 4 := ⟨_, rfl, rfl, (inT3 (List.mem_of_getElem? (i := 220) rfl) rfl), rfl⟩
theorem fr_3_65 : FR RX3 65 7 4 := ⟨_, rfl, rfl, (inT3 (List.mem_of_getElem? (i := 221) rfl) rfl), rfl⟩
theorem fr_12_7 : FR RX12 7 12 1 := ⟨_, rfl, rfl, (inT5 (List.mem_of_getElem? (i := 110) rfl) rfl), rfl⟩
theorem pf_12_7 : PF RX12 7 12 1 true := ⟨_, rfl, rfl, (inT5 (List.mem_of_getElem? (i := 110) rfl) rfl), rfl, fun _ => rfl⟩
theorem fr_12_13 : FR RX12 13 12 2 := ⟨_, rfl, rfl, (inT5 (List.mem_of_getElem? (i := 111) rfl) rfl), rfl⟩
theorem pf_12_13 : PF RX12 13 12 2 true := ⟨_, rfl, rfl, (inT5 (List.mem_of_getElem? (i := 111) rfl) rfl), rfl, fun _ => rfl⟩
theorem fr_12_16 : FR RX12 16 12 3 := ⟨_, rfl, rfl, (inT5 (List.mem_of_getElem? (i := 112) rfl) rfl), rfl⟩
theorem pf_12_16 : PF RX12 16 12 3 true := ⟨_, rfl, rfl, (inT5 (List.mem_of_getElem? (i := 112) rfl) rfl), rfl, fun _ => rfl⟩
theorem fr_12_19 : FR RX12 19 12 4 := ⟨_, rfl, rfl, (inT5 (List.mem_of_getElem? (i := 113) rfl) rfl), rfl⟩
theorem pf_12_19 : PF RX12 19 12 4 true := ⟨_, rfl, rfl, (inT5 (List.mem_of_getElem? (i := 113) rfl) rfl), rfl, fun _ => rfl⟩
theorem fr_12_22 : FR RX12 22 12 5 := ⟨_, rfl, rfl, (inT5 (List.mem_of_getElem? (i := 114) rfl) rfl), rfl⟩
theorem pf_12_22 : PF RX12 22 12 5 true := ⟨_, rfl, rfl, (inT5 (List.mem_of_getElem? (i := 114) rfl) rfl), rfl, fun _ => rfl⟩
theorem fr_12_25 : FR RX12 25 12 6 := ⟨_, rfl, rfl, (inT5 (List.mem_of_getElem? (i := 115) rfl) rfl), rfl⟩
theorem pf_12_25 : PF RX12 25 12 6 true := ⟨_, rfl, rfl, (inT5 (List.mem_of_getElem? (i := 115) rfl) rfl), rfl, fun _ => rfl⟩
theorem fr_12_28 : FR RX12 28 12 7 := ⟨_, rfl, rfl, (inT5 (List.mem_of_getElem? (i := 116) rfl) rfl), rfl⟩
theorem pf_12_28 : PF RX12 28 12 7 true := ⟨_, rfl, rfl, (inT5 (List.mem_of_getElem? (i := 116) rfl) rfl), rfl, fun _ => rfl⟩
theorem fr_12_31 : FR RX12 31 12 8 := ⟨_, rfl, rfl, (inT5 (List.mem_of_getElem? (i := 117) rfl) rfl), rfl⟩
theorem pf_12_31 : PF RX12 31 12 8 true := ⟨_, rfl, rfl, (inT5 (List.mem_of_getElem? (i := 117) rfl) rfl), rfl, fun _ => rfl⟩
theorem fr_12_34 : FR RX12 34 12 9 := ⟨_, rfl, rfl, (inT5 (List.mem_of_getElem? (i := 118) rfl) rfl), rfl⟩
theorem pf_12_34 : PF RX12 34 12 9 true := ⟨_, rfl, rfl, (inT5 (List.mem_of_getElem? (i := 118) rfl) rfl), rfl, fun _ => rfl⟩
theorem fr_12_37 : FR RX12 37 12 10 := ⟨_, rfl, rfl, (inT5 (List.mem_of_getElem? (i := 119) rfl) rfl), rfl⟩
theorem pf_12_37 : PF RX12 37 12 10 true := ⟨_, rfl, rfl, (inT5 (List.mem_of_getElem? (i := 119) rfl) rfl), rfl, fun _ => rfl⟩
theorem fr_12_40 : FR RX12 40 12 11 := ⟨_, rfl, rfl, (inT5 (List.mem_of_getElem? (i := 120) rfl) rfl), rfl⟩
theorem pf_12_40 : PF RX12 40 12 11 true := ⟨_, rfl, rfl, (inT5 (List.mem_of_getElem? (i := 120) rfl) rfl), rfl, fun _ => rfl⟩
theorem fr_12_43 : FR RX12 43 12 12 := ⟨_, rfl, rfl, (inT5 (List.mem_of_getElem? (i := 121) rfl) rfl), rfl⟩
theorem pf_12_43 : PF RX12 43 12 12 true := ⟨_, rfl, rfl, (inT5 (List.mem_of_getElem? (i := 121) rfl) rfl), rfl, fun _ => rfl⟩
theorem fr_12_46 : FR RX12 46 12 13 := ⟨_, rfl, rfl, (inT5 (List.mem_of_getElem? (i := 122) rfl) rfl), rfl⟩
theorem pf_12_46 : PF RX12 46 12 13 true := ⟨_, rfl, rfl, (inT5 (List.mem_of_getElem? (i := 122) rfl) rfl), rfl, fun _ => rfl⟩
theorem fr_12_49 : FR RX12 49 12 14 := ⟨_, rfl, rfl, (inT5 (List.mem_of_getElem? (i := 123) rfl) rfl), rfl⟩
theorem pf_12_49 : PF RX12 49 12 14 true := ⟨_, rfl, rfl, (inT5 (List.mem_of_getElem? (i := 123) rfl) rfl), rfl, fun _ => rfl⟩
theorem fr_12_52 : FR RX12 52 12 15 := ⟨_, rfl, rfl, (inT5 (List.mem_of_getElem? (i := 124) rfl) rfl), rfl⟩
theorem pf_12_52 : PF RX12 52 12 15 true := ⟨_, rfl, rfl, (inT5 (List.mem_of_getElem? (i := 124) rfl) rfl), rfl, fun _ => rfl⟩
theorem fr_12_55 : FR RX12 55 12 16 := ⟨_, rfl, rfl, (inT5 (List.mem_of_getElem? (i := 125) rfl) rfl), rfl⟩
theorem pf_12_55 : PF RX12 55 12 16 true := ⟨_, rfl, rfl, (inT5 (List.mem_of_getElem? (i := 125) rfl) rfl), rfl, fun _ => rfl⟩
theorem fr_12_58 : FR RX12 58 12 17 := ⟨_, rfl, rfl, (inT5 (List.mem_of_getElem? (i := 126) rfl) rfl), rfl⟩
theorem pf_12_58 : PF RX12 58 12 17 true := ⟨_, rfl, rfl, (inT5 (List.mem_of_getElem? (i := 126) rfl) rfl), rfl, fun _ => rfl⟩
theorem fr_12_61 : FR RX12 61 12 18 := ⟨_, rfl, rfl, (inT5 (List.mem_of_getElem? (i := 127) rfl) rfl), rfl⟩
theorem pf_12_61 : PF RX12 61 12 18 true := ⟨_, rfl, rfl, (inT5 (List.mem_of_getElem? (i := 127) rfl) rfl), rfl, fun _ => rfl⟩
theorem fr_12_64 : FR RX12 64 12 19 := ⟨_, rfl, rfl, (inT5 (List.mem_of_getElem? (i := 128) rfl) rfl), rfl⟩
theorem pf_12_64 : PF RX12 64 12 19 true := ⟨_, rfl, rfl, (inT5 (List.mem_of_getElem? (i := 128) rfl) rfl), rfl, fun _ => rfl⟩
theorem fr_12_67 : FR RX12 67 12 20 := ⟨_, rfl, rfl, (inT5 (List.mem_of_getElem? (i := 129) rfl) rfl), rfl⟩
theorem pf_12_67 : PF RX12 67 12 20 true := ⟨_, rfl, rfl, (inT5 (List.mem_of_getElem? (i := 129) rfl) rfl), rfl, fun _ => rfl⟩
theorem fr_12_70 : FR RX12 70 12 21 := ⟨_, rfl, rfl, (inT5 (List.mem_of_getElem? (i := 130) rfl) rfl), rfl⟩
theorem pf_12_70 : PF RX12 70 12 21 true := ⟨_, rfl, rfl, (inT5 (List.mem_of_getElem? (i := 130) rfl) rfl), rfl, fun _ => rfl⟩
theorem fr_12_73 : FR RX12 73 12 22 := ⟨_, rfl, rfl, (inT5 (List.mem_of_getElem? (i := 131) rfl) rfl), rfl⟩
theorem pf_12_73 : PF RX12 73 12 22 true := ⟨_, rfl, rfl, (inT5 (List.mem_of_getElem? (i := 131) rfl) rfl), rfl, fun _ => rfl⟩
theorem fr_12_76 : FR RX12 76 12 23 := ⟨_, rfl, rfl, (inT5 (List.mem_of_getElem? (i := 132) rfl) rfl), rfl⟩
theorem pf_12_76 : PF RX12 76 12 23 true := ⟨_, rfl, rfl, (inT5 (List.mem_of_getElem? (i := 132) rfl) rfl), rfl, fun _ => rfl⟩
theorem fr_12_79 : FR RX12 79 12 24 := ⟨_, rfl, rfl, (inT5 (List.mem_of_getElem? (i := 133) rfl) rfl), rfl⟩
theorem pf_12_79 : PF RX12 79 12 24 true := ⟨_, rfl, rfl, (inT5 (List.mem_of_getElem? (i := 133) rfl) rfl), rfl, fun _ => rfl⟩
theorem fr_12_82 : FR RX12 82 12 25 := ⟨_, rfl, rfl, (inT5 (List.mem_of_getElem? (i := 134) rfl) rfl), rfl⟩
theorem pf_12_82 : PF RX12 82 12 25 true := ⟨_, rfl, rfl, (inT5 (List.mem_of_getElem? (i := 134) rfl) rfl), rfl, fun _ => rfl⟩
theorem fr_12_85 : FR RX12 85 12 26 := ⟨_, rfl, rfl, (inT5 (List.mem_of_getElem? (i := 135) rfl) rfl), rfl⟩
theorem pf_12_85 : PF RX12 85 12 26 true := ⟨_, rfl, rfl, (inT5 (List.mem_of_getElem? (i := 135) rfl) rfl), rfl, fun _ => rfl⟩
theorem fr_12_88 : FR RX12 88 12 27 := ⟨_, rfl, rfl, (inT5 (List.mem_of_getElem? (i := 136) rfl) rfl), rfl⟩
theorem pf_12_88 : PF RX12 88 12 27 true := ⟨_, rfl, rfl, (inT5 (List.mem_of_getElem? (i := 136) rfl) rfl), rfl, fun _ => rfl⟩
theorem fr_12_91 : FR RX12 91 12 28 := ⟨_, rfl, rfl, (inT5 (List.mem_of_getElem? (i := 137) rfl) rfl), rfl⟩
theorem pf_12_91 : PF RX12 91 12 28 true := ⟨_, rfl, rfl, (inT5 (List.mem_of_getElem? (i := 137) rfl) rfl), rfl, fun _ => rfl⟩
theorem fi_12_209 : FI RX12 209 12 29 := ⟨_, rfl, rfl, (inT5 (List.mem_of_getElem? (i := 138) rfl) rfl), rfl⟩
theorem pf_12_209 : PF RX12 209 12 29 false := ⟨_, rfl, rfl, (inT5 (List.mem_of_getElem? (i := 138) rfl) rfl), rfl, fun h => by cases h⟩
theorem fi_12_218 : FI RX12 218 12 30 := ⟨_, rfl, rfl, (inT5 (List.mem_of_getElem? (i := 139) rfl) rfl), rfl⟩
theorem pf_12_218 : PF RX12 218 12 30 false := ⟨_, rfl, rfl, (inT5 (List.mem_of_getElem? (i := 139) rfl) rfl), rfl, fun h => by cases h⟩
theorem fi_12_215 : FI RX12 215 12 31 := ⟨_, rfl, rfl, (inT5 (List.mem_of_getElem? (i := 140) rfl) rfl), rfl⟩
theorem pf_12_215 : PF RX12 215 12 31 false := ⟨_, rfl, rfl, (inT5 (List.mem_of_getElem? (i := 140) rfl) rfl), rfl, fun h => by cases h⟩
theorem fi_12_241 : FI RX12 241 12 32 := ⟨_, rfl, rfl, (inT5 (List.mem_of_getElem? (i := 141) rfl) rfl), rfl⟩
theorem pf_12_241 : PF RX12 241 12 32 false := ⟨_, rfl, rfl, (inT5 (List.mem_of_getElem? (i := 141) rfl) rfl), rfl, fun h => by cases h⟩
theorem fi_12_309 : FI RX12 309 12 33 := ⟨_, rfl, rfl, (inT5 (List.mem_of_getElem? (i := 142) rfl) rfl), rfl⟩
theorem pf_12_309 : PF RX12 309 12 33 false := ⟨_, rfl, rfl, (inT5 (List.mem_of_getElem? (i := 142) rfl) rfl), rfl, fun h => by cases h⟩
theorem fi_12_244 : FI RX12 244 12 34 := ⟨_, rfl, rfl, (inT5 (List.mem_of_getElem? (i := 143) rfl) rfl), rfl⟩
theorem pf_12_244 : PF RX12 244 12 34 false := ⟨_, rfl, rfl, (inT5 (List.mem_of_getElem? (i := 143) rfl) rfl), rfl, fun h => by cases h⟩
theorem fi_12_272 : FI RX12 272 12 35 := ⟨_, rfl, rfl, (inT5 (List.mem_of_getElem? (i := 144) rfl) rfl), rfl⟩
theorem pf_12_272 : PF RX12 272 12 35 false := ⟨_, rfl, rfl, (inT5 (List.mem_of_getElem? (i := 144) rfl) rfl), rfl, fun h => by cases h⟩
theorem fi_12_280 : FI RX12 280 12 36 := ⟨_, rfl, rfl, (inT5 (List.mem_of_getElem? (i := 145) rfl) rfl), rfl⟩
theorem pf_12_280 : PF RX12 280 12 36 false := ⟨_, rfl, rfl, (inT5 (List.mem_of_getElem? (i := 145) rfl) rfl), rfl, fun h => by cases h⟩
theorem fi_12_250 : FI RX12 250 12 37 := ⟨_, rfl, rfl, (inT5 (List.mem_of_getElem? (i := 146) rfl) rfl), rfl⟩
theorem pf_12_250 : PF RX12 250 12 37 false := ⟨_, rfl, rfl, (inT5 (List.mem_of_getElem? (i := 146) rfl) rfl), rfl, fun h => by cases h⟩
theorem fi_12_247 : FI RX12 247 12 38 := ⟨_, rfl, rfl, (inT5 (List.mem_of_getElem? (i := 147) rfl) rfl), rfl⟩
theorem pf_12_247 : PF RX12 247 12 38 false := ⟨_, rfl, rfl, (inT5 (List.mem_of_getElem? (i := 147) rfl) rfl), rfl, fun h => by cases h⟩
theorem fr_12_94 : FR RX12 94 12 39 := ⟨_, rfl, rfl, (inT5 (List.mem_of_getElem? (i := 148) rfl) rfl), rfl⟩
theorem pf_12_94 : PF RX12 94 12 39 true := ⟨_, rfl, rfl, (inT5 (List.mem_of_getElem? (i := 148) rfl) rfl), rfl, fun _ => rfl⟩
theorem fr_12_98 : FR RX12 98 12 40 := ⟨_, rfl, rfl, (inT5 (List.mem_of_getElem? (i := 149) rfl) rfl), rfl⟩
theorem pf_12_98 : PF RX12 98 12 40 true := ⟨_, rfl, rfl, (inT5 (List.mem_of_getElem? (i := 149) rfl) rfl), rfl, fun _ => rfl⟩
theorem fr_12_101 : FR RX12 101 12 41 := ⟨_, rfl, rfl, (inT5 (List.mem_of_getElem? (i := 150) rfl) rfl), rfl⟩
theorem pf_12_101 : PF RX12 101 12 41 true := ⟨_, rfl, rfl, (inT5 (List.mem_of_getElem? (i := 150) rfl) rfl), rfl, fun _ => rfl⟩
theorem fr_12_104 : FR RX12 104 12 42 := ⟨_, rfl, rfl, (inT5 (List.mem_of_getElem? (i := 151) rfl) rfl), rfl⟩
theorem pf_12_104 : PF RX12 104 12 42 true := ⟨_, rfl, rfl, (inT5 (List.mem_of_getElem? (i := 151) rfl) rfl), rfl, fun _ => rfl⟩
theorem fr_12_107 : FR RX12 107 12 43 := ⟨_, rfl, rfl, (inT5 (List.mem_of_getElem? (i := 152) rfl) rfl), rfl⟩
theorem pf_12_107 : PF RX12 107 12 43 true := ⟨_, rfl, rfl, (inT5 (List.mem_of_getElem? (i := 152) rfl) rfl), rfl, fun _ => rfl⟩
theorem fr_12_110 : FR RX12 110 12 44 := ⟨_, rfl, rfl, (inT5 (List.mem_of_getElem? (i := 153) rfl) rfl), rfl⟩
theorem pf_12_110 : PF RX12 110 12 44 true := ⟨_, rfl, rfl, (inT5 (List.mem_of_getElem? (i := 153) rfl) rfl), rfl, fun _ => rfl⟩
theorem fr_12_113 : FR RX12 113 12 45 := ⟨_, rfl, rfl, (inT5 (List.mem_of_getElem? (i := 154) rfl) rfl), rfl⟩
theorem pf_12_113 : PF RX12 113 12 45 true := ⟨_, rfl, rfl, (inT5 (List.mem_of_getElem? (i := 154) rfl) rfl), rfl, fun _ => rfl⟩
theorem fr_12_116 : FR RX12 116 12 46 := ⟨_, rfl, rfl, (inT5 (List.mem_of_getElem? (i := 155) rfl) rfl), rfl⟩
theorem pf_12_116 : PF RX12 116 12 46 true := ⟨_, rfl, rfl, (inT5 (List.mem_of_getElem? (i := 155) rfl) rfl), rfl, fun _ => rfl⟩
theorem fr_12_120 : FR RX12 120 12 47 := ⟨_, rfl, rfl, (inT5 (List.mem_of_getElem? (i := 156) rfl) rfl), rfl⟩
theorem pf_12_120 : PF RX12 120 12 47 true := ⟨_, rfl, rfl, (inT5 (List.mem_of_getElem? (i := 156) rfl) rfl), rfl, fun _ => rfl⟩
theorem fi_12_337 : FI RX12 337 12 48 := ⟨_, rfl, rfl, (inT5 (List.mem_of_getElem? (i := 157) rfl) rfl), rfl⟩
theorem pf_12_337 : PF RX12 337 12 48 false := ⟨_, rfl, rfl, (inT5 (List.mem_of_getElem? (i := 157) rfl) rfl), rfl, fun h => by cases h⟩
theorem fi_12_340 : FI RX12 340 12 49 := ⟨_, rfl, rfl, (inT5 (List.mem_of_getElem? (i := 158) rfl) rfl), rfl⟩
theorem pf_12_340 : PF RX12 340 12 49 false := ⟨_, rfl, rfl, (inT5 (List.mem_of_getElem? (i := 158) rfl) rfl), rfl, fun h => by cases h⟩
theorem fi_12_343 : FI RX12 343 12 50 := ⟨_, rfl, rfl, (inT5 (List.mem_of_getElem? (i := 159) rfl) rfl), rfl⟩
theorem pf_12_343 : PF RX12 343 12 50 false := ⟨_, rfl, rfl, (inT5 (List.mem_of_getElem? (i := 159) rfl) rfl), rfl, fun h => by cases h⟩
theorem fr_12_123 : FR RX12 123 12 51 := ⟨_, rfl, rfl, (inT5 (List.mem_of_getElem? (i := 160) rfl) rfl), rfl⟩
theorem pf_12_123 : PF RX12 123 12 51 true := ⟨_, rfl, rfl, (inT5 (List.mem_of_getElem? (i := 160) rfl) rfl), rfl, fun _ => rfl⟩
theorem fr_12_126 : FR RX12 126 12 52 := ⟨_, rfl, rfl, (inT5 (List.mem_of_getElem? (i := 161) rfl) rfl), rfl⟩
theorem pf_12_126 : PF RX12 126 12 52 true := ⟨_, rfl, rfl, (inT5 (List.mem_of_getElem? (i := 161) rfl) rfl), rfl, fun _ => rfl⟩
theorem fr_12_129 : FR RX12 129 12 53 := ⟨_, rfl, rfl, (inT5 (List.mem_of_getElem? (i := 162) rfl) rfl), rfl⟩
theorem pf_12_129 : PF RX12 129 12 53 true := ⟨_, rfl, rfl, (inT5 (List.mem_of_getElem? (i := 162) rfl) rfl), rfl, fun _ => rfl⟩
theorem fr_12_132 : FR RX12 132 12 54 := ⟨_, rfl, rfl, (inT5 (List.mem_of_getElem? (i := 163) rfl) rfl), rfl⟩
theorem pf_12_132 : PF RX12 132 12 54 true := ⟨_, rfl, rfl, (inT5 (List.mem_of_getElem? (i := 163) rfl) rfl), rfl, fun _ => rfl⟩
theorem fr_12_135 : FR RX12 135 12 55 := ⟨_, rfl, rfl, (inT5 (List.mem_of_getElem? (i := 164) rfl) rfl), rfl⟩
theorem pf_12_135 : PF RX12 135 12 55 true := ⟨_, rfl, rfl, (inT5 (List.mem_of_getElem? (i := 164) rfl) rfl), rfl, fun _ => rfl⟩
theorem fi_12_401 : FI RX12 401 12 56 := ⟨_, rfl, rfl, (inT5 (List.mem_of_getElem? (i := 165) rfl) rfl), rfl⟩
theorem pf_12_401 : PF RX12 401 12 56 false := ⟨_, rfl, rfl, (inT5 (List.mem_of_getElem? (i := 165) rfl) rfl), rfl, fun h => by cases h⟩
theorem fi_12_404 : FI RX12 404 12 57 := ⟨_, rfl, rfl, (inT5 (List.mem_of_getElem? (i := 166) rfl) rfl), rfl⟩
theorem pf_12_404 : PF RX12 404 12 57 false := ⟨_, rfl, rfl, (inT5 (List.mem_of_getElem? (i := 166) rfl) rfl), rfl, fun h => by cases h⟩
theorem fi_12_407 : FI RX12 407 12 58 := ⟨_, rfl, rfl, (inT5 (List.mem_of_getElem? (i := 167) rfl) rfl), rfl⟩
theorem pf_12_407 : PF RX12 407 12 58 false := ⟨_, rfl, rfl, (inT5 (List.mem_of_getElem? (i := 167) rfl) rfl), rfl, fun h => by cases h⟩
theorem fi_12_410 : FI RX12 410 12 59 := ⟨_, rfl, rfl, (inT5 (List.mem_of_getElem? (i := 168) rfl) rfl), rfl⟩
theorem pf_12_410 : PF RX12 410 12 59 false := ⟨_, rfl, rfl, (inT5 (List.mem_of_getElem? (i := 168) rfl) rfl), rfl, fun h => by cases h⟩
theorem fi_12_413 : FI RX12 413 12 60 := ⟨_, rfl, rfl, (inT5 (List.mem_of_getElem? (i := 169) rfl) rfl), rfl⟩
theorem pf_12_413 : PF RX12 413 12 60 false := ⟨_, rfl, rfl, (inT5 (List.mem_of_getElem? (i := 169) rfl) rfl), rfl, fun h => by cases h⟩
theorem fi_12_424 : FI RX12 424 12 61 := ⟨_, rfl, rfl, (inT5 (List.mem_of_getElem? (i := 170) rfl) rfl), rfl⟩
theorem pf_12_424 : PF RX12 424 12 61 false := ⟨_, rfl, rfl, (inT5 (List.mem_of_getElem? (i := 170) rfl) rfl), rfl, fun h => by cases h⟩
theorem fi_12_427 : FI RX12 427 12 62 := ⟨_, rfl, rfl, (inT5 (List.mem_of_getElem? (i := 171) rfl) rfl), rfl⟩
theorem pf_12_427 : PF RX12 427 12 62 false := ⟨_, rfl, rfl, (inT5 (List.mem_of_getElem? (i := 171) rfl) rfl), rfl, fun h => by cases h⟩
theorem fi_12_430 : FI RX12 430 12 63 := ⟨_, rfl, rfl, (inT5 (List.mem_of_getElem? (i := 172) rfl) rfl), rfl⟩
theorem pf_12_430 : PF RX12 430 12 63 false := ⟨_, rfl, rfl, (inT5 (List.mem_of_getElem? (i := 172) rfl) rfl), rfl, fun h => by cases h⟩
theorem fr_12_138 : FR RX12 138 12 64 := ⟨_, rfl, rfl, (inT5 (List.mem_of_getElem? (i := 173) rfl) rfl), rfl⟩
theorem pf_12_138 : PF RX12 138 12 64 true := ⟨_, rfl, rfl, (inT5 (List.mem_of_getElem? (i := 173) rfl) rfl), rfl, fun _ => rfl⟩
theorem fr_12_141 : FR RX12 141 12 65 := ⟨_, rfl, rfl, (inT5 (List.mem_of_getElem? (i := 174) rfl) rfl), rfl⟩
theorem pf_12_141 : PF RX12 141 12 65 true := ⟨_, rfl, rfl, (inT5 (List.mem_of_getElem? (i := 174) rfl) rfl), rfl, fun _ => rfl⟩
theorem fi_12_459 : FI RX12 459 12 66 := ⟨_, rfl, rfl, (inT5 (List.mem_of_getElem? (i := 175) rfl) rfl), rfl⟩
theorem pf_12_459 : PF RX12 459 12 66 false := ⟨_, rfl, rfl, (inT5 (List.mem_of_getElem? (i := 175) rfl) rfl), rfl, fun h => by cases h⟩
theorem fi_12_455 : FI RX12 455 12 67 := ⟨_, rfl, rfl, (inT5 (List.mem_of_getElem? (i := 176) rfl) rfl), rfl⟩
theorem pf_12_455 : PF RX12 455 12 67 false := ⟨_, rfl, rfl, (inT5 (List.mem_of_getElem? (i := 176) rfl) rfl), rfl, fun h => by cases h⟩
theorem ml_11_11 : Cond.methodLink RX11 11 yX8_init ∈ wT ∧ Cond.instanceMethod yX8_init ∈ wT := ⟨(inT1 (List.mem_of_getElem? (i := 32) rfl) rfl), (inT1 (List.mem_of_getElem? (i := 33) rfl) rfl)⟩
theorem ml_8_36 : Cond.methodLink RX8 36 yJ7_fill_53178 ∈ wT ∧ Cond.static yJ7_fill_53178 ∈ wT := ⟨(inT1 (List.mem_of_getElem? (i := 38) rfl) rfl), (inT1 (List.mem_of_getElem? (i := 39) rfl) rfl)⟩
theorem ml_11_18 : Cond.methodLink RX11 18 yX6_init ∈ wT ∧ Cond.instanceMethod yX6_init ∈ wT := ⟨(inT1 (List.mem_of_getElem? (i := 169) rfl) rfl), (inT1 (List.mem_of_getElem? (i := 170) rfl) rfl)⟩
theorem ml_11_27 : Cond.methodLink RX11 27 yX10_init ∈ wT ∧ Cond.instanceMethod yX10_init ∈ wT := ⟨(inT1 (List.mem_of_getElem? (i := 187) rfl) rfl), (inT1 (List.mem_of_getElem? (i := 188) rfl) rfl)⟩
theorem ml_10_18 : Cond.methodLink RX10 18 yJ7_fill_53178 ∈ wT ∧ Cond.static yJ7_fill_53178 ∈ wT := ⟨(inT1 (List.mem_of_getElem? (i := 191) rfl) rfl), (inT1 (List.mem_of_getElem? (i := 39) rfl) rfl)⟩
theorem ml_11_41 : Cond.methodLink RX11 41 yX0_init ∈ wT ∧ Cond.instanceMethod yX0_init ∈ wT := ⟨(inT1 (List.mem_of_getElem? (i := 222) rfl) rfl), (inT1 (List.mem_of_getElem? (i := 223) rfl) rfl)⟩
theorem ml_11_96 : Cond.methodLink RX11 96 yX11_isPlace ∈ wT ∧ Cond.static yX11_isPlace ∈ wT := ⟨(inT2 (List.mem_of_getElem? (i := 186) rfl) rfl), (inT2 (List.mem_of_getElem? (i := 187) rfl) rfl)⟩
theorem ml_11_107 : Cond.methodLink RX11 107 yX10_measure ∈ wT ∧ Cond.instanceMethod yX10_measure ∈ wT ∧ Cond.selects RX10 yX10_measure yX10_measure ∈ wT := ⟨(inT2 (List.mem_of_getElem? (i := 189) rfl) rfl), (inT2 (List.mem_of_getElem? (i := 190) rfl) rfl), (inT2 (List.mem_of_getElem? (i := 191) rfl) rfl)⟩
theorem ml_10_24 : Cond.methodLink RX10 24 yJ9_min_7cf53 ∈ wT ∧ Cond.static yJ9_min_7cf53 ∈ wT := ⟨(inT2 (List.mem_of_getElem? (i := 193) rfl) rfl), (inT2 (List.mem_of_getElem? (i := 194) rfl) rfl)⟩
theorem ml_10_30 : Cond.methodLink RX10 30 yX10_nextOf ∈ wT ∧ Cond.instanceMethod yX10_nextOf ∈ wT ∧ Cond.selects RX10 yX10_nextOf yX10_nextOf ∈ wT := ⟨(inT2 (List.mem_of_getElem? (i := 196) rfl) rfl), (inT2 (List.mem_of_getElem? (i := 198) rfl) rfl), (inT0 (List.mem_of_getElem? (i := 0) rfl) rfl)⟩
theorem ml_11_117 : Cond.methodLink RX11 117 yX11_forgetFacts ∈ wT ∧ Cond.instanceMethod yX11_forgetFacts ∈ wT ∧ Cond.selects RX11 yX11_forgetFacts yX11_forgetFacts ∈ wT := ⟨(inT2 (List.mem_of_getElem? (i := 204) rfl) rfl), (inT2 (List.mem_of_getElem? (i := 206) rfl) rfl), (inT0 (List.mem_of_getElem? (i := 1) rfl) rfl)⟩
theorem ml_11_376 : Cond.methodLink RX11 376 yX6_keepUpTo ∈ wT ∧ Cond.instanceMethod yX6_keepUpTo ∈ wT ∧ Cond.selects RX6 yX6_keepUpTo yX6_keepUpTo ∈ wT := ⟨(inT2 (List.mem_of_getElem? (i := 208) rfl) rfl), (inT2 (List.mem_of_getElem? (i := 209) rfl) rfl), (inT2 (List.mem_of_getElem? (i := 210) rfl) rfl)⟩
theorem ml_6_25 : Cond.methodLink RX6 25 yJ9_min_7cf53 ∈ wT ∧ Cond.static yJ9_min_7cf53 ∈ wT := ⟨(inT2 (List.mem_of_getElem? (i := 212) rfl) rfl), (inT2 (List.mem_of_getElem? (i := 194) rfl) rfl)⟩
theorem ml_11_379 : Cond.methodLink RX11 379 yX3_forget ∈ wT ∧ Cond.instanceMethod yX3_forget ∈ wT ∧ Cond.selects RX3 yX3_forget yX3_forget ∈ wT := ⟨(inT2 (List.mem_of_getElem? (i := 213) rfl) rfl), (inT2 (List.mem_of_getElem? (i := 214) rfl) rfl), (inT2 (List.mem_of_getElem? (i := 215) rfl) rfl)⟩
theorem ml_3_25 : Cond.methodLink RX3 25 yJ7_fill_53178 ∈ wT ∧ Cond.static yJ7_fill_53178 ∈ wT := ⟨(inT2 (List.mem_of_getElem? (i := 217) rfl) rfl), (inT1 (List.mem_of_getElem? (i := 39) rfl) rfl)⟩
theorem ml_11_124 : Cond.methodLink RX11 124 yX11_isDay ∈ wT ∧ Cond.static yX11_isDay ∈ wT := ⟨(inT2 (List.mem_of_getElem? (i := 222) rfl) rfl), (inT2 (List.mem_of_getElem? (i := 223) rfl) rfl)⟩
theorem ml_11_127 : Cond.methodLink RX11 127 yX11_isPerson ∈ wT ∧ Cond.instanceMethod yX11_isPerson ∈ wT ∧ Cond.selects RX11 yX11_isPerson yX11_isPerson ∈ wT := ⟨(inT2 (List.mem_of_getElem? (i := 225) rfl) rfl), (inT2 (List.mem_of_getElem? (i := 227) rfl) rfl), (inT0 (List.mem_of_getElem? (i := 2) rfl) rfl)⟩
theorem ml_11_130 : Cond.methodLink RX11 130 yX11_areTwo ∈ wT ∧ Cond.instanceMethod yX11_areTwo ∈ wT ∧ Cond.selects RX11 yX11_areTwo yX11_areTwo ∈ wT := ⟨(inT2 (List.mem_of_getElem? (i := 229) rfl) rfl), (inT2 (List.mem_of_getElem? (i := 231) rfl) rfl), (inT0 (List.mem_of_getElem? (i := 3) rfl) rfl)⟩
theorem ml_11_134 : Cond.methodLink RX11 134 yX8_addChange ∈ wT ∧ Cond.instanceMethod yX8_addChange ∈ wT ∧ Cond.selects RX8 yX8_addChange yX8_addChange ∈ wT := ⟨(inT2 (List.mem_of_getElem? (i := 233) rfl) rfl), (inT2 (List.mem_of_getElem? (i := 234) rfl) rfl), (inT2 (List.mem_of_getElem? (i := 235) rfl) rfl)⟩
theorem ml_8_72 : Cond.methodLink RX8 72 yX8_dayOfChange ∈ wT ∧ Cond.static yX8_dayOfChange ∈ wT := ⟨(inT2 (List.mem_of_getElem? (i := 237) rfl) rfl), (inT2 (List.mem_of_getElem? (i := 238) rfl) rfl)⟩
theorem ml_11_141 : Cond.methodLink RX11 141 yX11_hasBit ∈ wT ∧ Cond.static yX11_hasBit ∈ wT := ⟨(inT3 (List.mem_of_getElem? (i := 4) rfl) rfl), (inT3 (List.mem_of_getElem? (i := 5) rfl) rfl)⟩
theorem ml_11_150 : Cond.methodLink RX11 150 yX11_putBytes ∈ wT ∧ Cond.instanceMethod yX11_putBytes ∈ wT ∧ Cond.selects RX11 yX11_putBytes yX11_putBytes ∈ wT := ⟨(inT3 (List.mem_of_getElem? (i := 15) rfl) rfl), (inT3 (List.mem_of_getElem? (i := 17) rfl) rfl), (inT0 (List.mem_of_getElem? (i := 4) rfl) rfl)⟩
theorem ml_11_156 : Cond.methodLink RX11 156 yX2_read ∈ wT ∧ Cond.instanceMethod yX2_read ∈ wT ∧ Cond.selects RX2 yX2_read yX2_read ∈ wT := ⟨(inT3 (List.mem_of_getElem? (i := 27) rfl) rfl), (inT3 (List.mem_of_getElem? (i := 28) rfl) rfl), (inT3 (List.mem_of_getElem? (i := 29) rfl) rfl)⟩
theorem ml_2_18 : Cond.methodLink RX2 18 yJ9_min_7cf53 ∈ wT ∧ Cond.static yJ9_min_7cf53 ∈ wT := ⟨(inT3 (List.mem_of_getElem? (i := 31) rfl) rfl), (inT2 (List.mem_of_getElem? (i := 194) rfl) rfl)⟩
theorem ml_2_47 : Cond.methodLink RX2 47 yX2_readHead ∈ wT ∧ Cond.instanceMethod yX2_readHead ∈ wT ∧ Cond.selects RX2 yX2_readHead yX2_readHead ∈ wT := ⟨(inT3 (List.mem_of_getElem? (i := 32) rfl) rfl), (inT3 (List.mem_of_getElem? (i := 34) rfl) rfl), (inT0 (List.mem_of_getElem? (i := 5) rfl) rfl)⟩
theorem ml_2_54 : Cond.methodLink RX2 54 yX2_look ∈ wT ∧ Cond.instanceMethod yX2_look ∈ wT ∧ Cond.selects RX2 yX2_look yX2_look ∈ wT := ⟨(inT3 (List.mem_of_getElem? (i := 36) rfl) rfl), (inT3 (List.mem_of_getElem? (i := 38) rfl) rfl), (inT0 (List.mem_of_getElem? (i := 6) rfl) rfl)⟩
theorem ml_2_98 : Cond.methodLink RX2 98 yX2_skipBlanks ∈ wT ∧ Cond.instanceMethod yX2_skipBlanks ∈ wT ∧ Cond.selects RX2 yX2_skipBlanks yX2_skipBlanks ∈ wT := ⟨(inT3 (List.mem_of_getElem? (i := 40) rfl) rfl), (inT3 (List.mem_of_getElem? (i := 42) rfl) rfl), (inT0 (List.mem_of_getElem? (i := 7) rfl) rfl)⟩
theorem ml_2_105 : Cond.methodLink RX2 105 yX2_isSmall ∈ wT ∧ Cond.static yX2_isSmall ∈ wT := ⟨(inT3 (List.mem_of_getElem? (i := 44) rfl) rfl), (inT3 (List.mem_of_getElem? (i := 45) rfl) rfl)⟩
theorem ml_2_108 : Cond.methodLink RX2 108 yX2_letterSign ∈ wT ∧ Cond.static yX2_letterSign ∈ wT := ⟨(inT3 (List.mem_of_getElem? (i := 47) rfl) rfl), (inT3 (List.mem_of_getElem? (i := 48) rfl) rfl)⟩
theorem ml_2_112 : Cond.methodLink RX2 112 yX2_wordSign ∈ wT ∧ Cond.instanceMethod yX2_wordSign ∈ wT ∧ Cond.selects RX2 yX2_wordSign yX2_wordSign ∈ wT := ⟨(inT3 (List.mem_of_getElem? (i := 50) rfl) rfl), (inT3 (List.mem_of_getElem? (i := 52) rfl) rfl), (inT0 (List.mem_of_getElem? (i := 8) rfl) rfl)⟩
theorem ml_2_117 : Cond.methodLink RX2 117 yX2_spells ∈ wT ∧ Cond.instanceMethod yX2_spells ∈ wT ∧ Cond.selects RX2 yX2_spells yX2_spells ∈ wT := ⟨(inT3 (List.mem_of_getElem? (i := 55) rfl) rfl), (inT3 (List.mem_of_getElem? (i := 57) rfl) rfl), (inT0 (List.mem_of_getElem? (i := 9) rfl) rfl)⟩
theorem ml_2_76 : Cond.methodLink RX2 76 yX2_leave ∈ wT ∧ Cond.instanceMethod yX2_leave ∈ wT ∧ Cond.selects RX2 yX2_leave yX2_leave ∈ wT := ⟨(inT3 (List.mem_of_getElem? (i := 113) rfl) rfl), (inT3 (List.mem_of_getElem? (i := 115) rfl) rfl), (inT0 (List.mem_of_getElem? (i := 10) rfl) rfl)⟩
theorem ml_2_50 : Cond.methodLink RX2 50 yX2_readTest ∈ wT ∧ Cond.instanceMethod yX2_readTest ∈ wT ∧ Cond.selects RX2 yX2_readTest yX2_readTest ∈ wT := ⟨(inT3 (List.mem_of_getElem? (i := 117) rfl) rfl), (inT3 (List.mem_of_getElem? (i := 119) rfl) rfl), (inT0 (List.mem_of_getElem? (i := 11) rfl) rfl)⟩
theorem ml_2_79 : Cond.methodLink RX2 79 yX2_readPart ∈ wT ∧ Cond.instanceMethod yX2_readPart ∈ wT ∧ Cond.selects RX2 yX2_readPart yX2_readPart ∈ wT := ⟨(inT3 (List.mem_of_getElem? (i := 121) rfl) rfl), (inT3 (List.mem_of_getElem? (i := 123) rfl) rfl), (inT0 (List.mem_of_getElem? (i := 12) rfl) rfl)⟩
theorem ml_2_85 : Cond.methodLink RX2 85 yX2_readFact ∈ wT ∧ Cond.instanceMethod yX2_readFact ∈ wT ∧ Cond.selects RX2 yX2_readFact yX2_readFact ∈ wT := ⟨(inT3 (List.mem_of_getElem? (i := 125) rfl) rfl), (inT3 (List.mem_of_getElem? (i := 127) rfl) rfl), (inT0 (List.mem_of_getElem? (i := 13) rfl) rfl)⟩
theorem ml_2_88 : Cond.methodLink RX2 88 yX2_countFact ∈ wT ∧ Cond.instanceMethod yX2_countFact ∈ wT ∧ Cond.selects RX2 yX2_countFact yX2_countFact ∈ wT := ⟨(inT3 (List.mem_of_getElem? (i := 129) rfl) rfl), (inT3 (List.mem_of_getElem? (i := 131) rfl) rfl), (inT0 (List.mem_of_getElem? (i := 14) rfl) rfl)⟩
theorem ml_2_61 : Cond.methodLink RX2 61 yX2_fail ∈ wT ∧ Cond.instanceMethod yX2_fail ∈ wT ∧ Cond.selects RX2 yX2_fail yX2_fail ∈ wT := ⟨(inT3 (List.mem_of_getElem? (i := 133) rfl) rfl), (inT3 (List.mem_of_getElem? (i := 135) rfl) rfl), (inT0 (List.mem_of_getElem? (i := 15) rfl) rfl)⟩
theorem ml_2_82 : Cond.methodLink RX2 82 yX2_put ∈ wT ∧ Cond.instanceMethod yX2_put ∈ wT ∧ Cond.selects RX2 yX2_put yX2_put ∈ wT := ⟨(inT3 (List.mem_of_getElem? (i := 137) rfl) rfl), (inT3 (List.mem_of_getElem? (i := 139) rfl) rfl), (inT0 (List.mem_of_getElem? (i := 16) rfl) rfl)⟩
theorem ml_2_91 : Cond.methodLink RX2 91 yX2_readPlace ∈ wT ∧ Cond.instanceMethod yX2_readPlace ∈ wT ∧ Cond.selects RX2 yX2_readPlace yX2_readPlace ∈ wT := ⟨(inT3 (List.mem_of_getElem? (i := 141) rfl) rfl), (inT3 (List.mem_of_getElem? (i := 143) rfl) rfl), (inT0 (List.mem_of_getElem? (i := 17) rfl) rfl)⟩
theorem ml_2_101 : Cond.methodLink RX2 101 yX2_isDigit ∈ wT ∧ Cond.static yX2_isDigit ∈ wT := ⟨(inT3 (List.mem_of_getElem? (i := 145) rfl) rfl), (inT3 (List.mem_of_getElem? (i := 146) rfl) rfl)⟩
theorem ml_2_94 : Cond.methodLink RX2 94 yX2_readNested ∈ wT ∧ Cond.instanceMethod yX2_readNested ∈ wT ∧ Cond.selects RX2 yX2_readNested yX2_readNested ∈ wT := ⟨(inT3 (List.mem_of_getElem? (i := 148) rfl) rfl), (inT3 (List.mem_of_getElem? (i := 150) rfl) rfl), (inT0 (List.mem_of_getElem? (i := 18) rfl) rfl)⟩
theorem ml_11_160 : Cond.methodLink RX11 160 yX2_newCover ∈ wT ∧ Cond.instanceMethod yX2_newCover ∈ wT ∧ Cond.selects RX2 yX2_newCover yX2_newCover ∈ wT := ⟨(inT3 (List.mem_of_getElem? (i := 152) rfl) rfl), (inT3 (List.mem_of_getElem? (i := 153) rfl) rfl), (inT3 (List.mem_of_getElem? (i := 154) rfl) rfl)⟩
theorem ml_2_67 : Cond.methodLink RX2 67 yJ7_copyOf_59c91 ∈ wT ∧ Cond.static yJ7_copyOf_59c91 ∈ wT := ⟨(inT3 (List.mem_of_getElem? (i := 158) rfl) rfl), (inT3 (List.mem_of_getElem? (i := 159) rfl) rfl)⟩
theorem ml_Arrays_304 : Cond.methodLink "java/util/Arrays" 304 yJ9_min_7cf53 ∈ wT ∧ Cond.static yJ9_min_7cf53 ∈ wT := ⟨(inT3 (List.mem_of_getElem? (i := 168) rfl) rfl), (inT2 (List.mem_of_getElem? (i := 194) rfl) rfl)⟩
theorem ml_2_73 : Cond.methodLink RX2 73 yX1_init ∈ wT ∧ Cond.instanceMethod yX1_init ∈ wT := ⟨(inT3 (List.mem_of_getElem? (i := 172) rfl) rfl), (inT3 (List.mem_of_getElem? (i := 173) rfl) rfl)⟩
theorem ml_11_164 : Cond.methodLink RX11 164 yX6_on ∈ wT ∧ Cond.instanceMethod yX6_on ∈ wT ∧ Cond.selects RX6 yX6_on yX6_on ∈ wT := ⟨(inT3 (List.mem_of_getElem? (i := 199) rfl) rfl), (inT3 (List.mem_of_getElem? (i := 200) rfl) rfl), (inT3 (List.mem_of_getElem? (i := 201) rfl) rfl)⟩
theorem ml_6_40 : Cond.methodLink RX6 40 yX8_dayOfChange ∈ wT ∧ Cond.static yX8_dayOfChange ∈ wT := ⟨(inT3 (List.mem_of_getElem? (i := 203) rfl) rfl), (inT2 (List.mem_of_getElem? (i := 238) rfl) rfl)⟩
theorem ml_6_44 : Cond.methodLink RX6 44 yX7_init ∈ wT ∧ Cond.instanceMethod yX7_init ∈ wT := ⟨(inT3 (List.mem_of_getElem? (i := 205) rfl) rfl), (inT3 (List.mem_of_getElem? (i := 206) rfl) rfl)⟩
theorem ml_6_47 : Cond.methodLink RX6 47 yX7_beginWith ∈ wT ∧ Cond.instanceMethod yX7_beginWith ∈ wT ∧ Cond.selects RX7 yX7_beginWith yX7_beginWith ∈ wT := ⟨(inT3 (List.mem_of_getElem? (i := 233) rfl) rfl), (inT3 (List.mem_of_getElem? (i := 234) rfl) rfl), (inT3 (List.mem_of_getElem? (i := 235) rfl) rfl)⟩
theorem ml_7_28 : Cond.methodLink RX7 28 yJ7_fill_53178 ∈ wT ∧ Cond.static yJ7_fill_53178 ∈ wT := ⟨(inT3 (List.mem_of_getElem? (i := 237) rfl) rfl), (inT1 (List.mem_of_getElem? (i := 39) rfl) rfl)⟩
theorem ml_6_51 : Cond.methodLink RX6 51 yX7_follow ∈ wT ∧ Cond.instanceMethod yX7_follow ∈ wT ∧ Cond.selects RX7 yX7_follow yX7_follow ∈ wT := ⟨(inT3 (List.mem_of_getElem? (i := 238) rfl) rfl), (inT3 (List.mem_of_getElem? (i := 239) rfl) rfl), (inT4 (List.mem_of_getElem? (i := 0) rfl) rfl)⟩
theorem ml_11_168 : Cond.methodLink RX11 168 yX7_marksOf ∈ wT ∧ Cond.instanceMethod yX7_marksOf ∈ wT ∧ Cond.selects RX7 yX7_marksOf yX7_marksOf ∈ wT := ⟨(inT4 (List.mem_of_getElem? (i := 3) rfl) rfl), (inT4 (List.mem_of_getElem? (i := 4) rfl) rfl), (inT4 (List.mem_of_getElem? (i := 5) rfl) rfl)⟩
theorem ml_11_180 : Cond.methodLink RX11 180 yX11_seenBy ∈ wT ∧ Cond.instanceMethod yX11_seenBy ∈ wT ∧ Cond.selects RX11 yX11_seenBy yX11_seenBy ∈ wT := ⟨(inT4 (List.mem_of_getElem? (i := 19) rfl) rfl), (inT4 (List.mem_of_getElem? (i := 21) rfl) rfl), (inT0 (List.mem_of_getElem? (i := 19) rfl) rfl)⟩
theorem ml_11_373 : Cond.methodLink RX11 373 yX7_seenFrom ∈ wT ∧ Cond.instanceMethod yX7_seenFrom ∈ wT ∧ Cond.selects RX7 yX7_seenFrom yX7_seenFrom ∈ wT := ⟨(inT4 (List.mem_of_getElem? (i := 23) rfl) rfl), (inT4 (List.mem_of_getElem? (i := 24) rfl) rfl), (inT4 (List.mem_of_getElem? (i := 25) rfl) rfl)⟩
theorem ml_11_187 : Cond.methodLink RX11 187 yX11_coverOf ∈ wT ∧ Cond.instanceMethod yX11_coverOf ∈ wT ∧ Cond.selects RX11 yX11_coverOf yX11_coverOf ∈ wT := ⟨(inT4 (List.mem_of_getElem? (i := 35) rfl) rfl), (inT4 (List.mem_of_getElem? (i := 37) rfl) rfl), (inT0 (List.mem_of_getElem? (i := 20) rfl) rfl)⟩
theorem ml_11_190 : Cond.methodLink RX11 190 yX11_fitFor ∈ wT ∧ Cond.instanceMethod yX11_fitFor ∈ wT ∧ Cond.selects RX11 yX11_fitFor yX11_fitFor ∈ wT := ⟨(inT4 (List.mem_of_getElem? (i := 39) rfl) rfl), (inT4 (List.mem_of_getElem? (i := 41) rfl) rfl), (inT0 (List.mem_of_getElem? (i := 21) rfl) rfl)⟩
theorem ml_11_200 : Cond.methodLink RX11 200 yX11_everybody ∈ wT ∧ Cond.instanceMethod yX11_everybody ∈ wT ∧ Cond.selects RX11 yX11_everybody yX11_everybody ∈ wT := ⟨(inT4 (List.mem_of_getElem? (i := 43) rfl) rfl), (inT4 (List.mem_of_getElem? (i := 45) rfl) rfl), (inT0 (List.mem_of_getElem? (i := 22) rfl) rfl)⟩
theorem ml_11_385 : Cond.methodLink RX11 385 yX3_fit ∈ wT ∧ Cond.instanceMethod yX3_fit ∈ wT ∧ Cond.selects RX3 yX3_fit yX3_fit ∈ wT := ⟨(inT4 (List.mem_of_getElem? (i := 47) rfl) rfl), (inT4 (List.mem_of_getElem? (i := 48) rfl) rfl), (inT4 (List.mem_of_getElem? (i := 49) rfl) rfl)⟩
theorem ml_3_43 : Cond.methodLink RX3 43 yX3_evaluate ∈ wT ∧ Cond.instanceMethod yX3_evaluate ∈ wT ∧ Cond.selects RX3 yX3_evaluate yX3_evaluate ∈ wT := ⟨(inT4 (List.mem_of_getElem? (i := 52) rfl) rfl), (inT4 (List.mem_of_getElem? (i := 53) rfl) rfl), (inT4 (List.mem_of_getElem? (i := 54) rfl) rfl)⟩
theorem ml_3_50 : Cond.methodLink RX3 50 yJ6_bitCount_0f7a4 ∈ wT ∧ Cond.static yJ6_bitCount_0f7a4 ∈ wT := ⟨(inT4 (List.mem_of_getElem? (i := 56) rfl) rfl), (inT4 (List.mem_of_getElem? (i := 57) rfl) rfl)⟩
theorem ml_11_194 : Cond.methodLink RX11 194 yJ9_min_7cf53 ∈ wT ∧ Cond.static yJ9_min_7cf53 ∈ wT := ⟨(inT4 (List.mem_of_getElem? (i := 66) rfl) rfl), (inT2 (List.mem_of_getElem? (i := 194) rfl) rfl)⟩
theorem ml_11_204 : Cond.methodLink RX11 204 yX3_evaluate ∈ wT ∧ Cond.instanceMethod yX3_evaluate ∈ wT ∧ Cond.selects RX3 yX3_evaluate yX3_evaluate ∈ wT := ⟨(inT4 (List.mem_of_getElem? (i := 83) rfl) rfl), (inT4 (List.mem_of_getElem? (i := 53) rfl) rfl), (inT4 (List.mem_of_getElem? (i := 54) rfl) rfl)⟩
theorem ml_11_208 : Cond.methodLink RX11 208 yX7_wordHolders ∈ wT ∧ Cond.instanceMethod yX7_wordHolders ∈ wT ∧ Cond.selects RX7 yX7_wordHolders yX7_wordHolders ∈ wT := ⟨(inT4 (List.mem_of_getElem? (i := 84) rfl) rfl), (inT4 (List.mem_of_getElem? (i := 85) rfl) rfl), (inT4 (List.mem_of_getElem? (i := 86) rfl) rfl)⟩
theorem ml_11_211 : Cond.methodLink RX11 211 yX0_ask ∈ wT ∧ Cond.instanceMethod yX0_ask ∈ wT ∧ Cond.selects RX0 yX0_ask yX0_ask ∈ wT := ⟨(inT4 (List.mem_of_getElem? (i := 92) rfl) rfl), (inT4 (List.mem_of_getElem? (i := 93) rfl) rfl), (inT4 (List.mem_of_getElem? (i := 94) rfl) rfl)⟩
theorem ml_0_31 : Cond.methodLink RX0 31 yX6_on ∈ wT ∧ Cond.instanceMethod yX6_on ∈ wT ∧ Cond.selects RX6 yX6_on yX6_on ∈ wT := ⟨(inT4 (List.mem_of_getElem? (i := 96) rfl) rfl), (inT3 (List.mem_of_getElem? (i := 200) rfl) rfl), (inT3 (List.mem_of_getElem? (i := 201) rfl) rfl)⟩
theorem ml_0_73 : Cond.methodLink RX0 73 yX7_seenFrom ∈ wT ∧ Cond.instanceMethod yX7_seenFrom ∈ wT ∧ Cond.selects RX7 yX7_seenFrom yX7_seenFrom ∈ wT := ⟨(inT4 (List.mem_of_getElem? (i := 98) rfl) rfl), (inT4 (List.mem_of_getElem? (i := 24) rfl) rfl), (inT4 (List.mem_of_getElem? (i := 25) rfl) rfl)⟩
theorem ml_0_77 : Cond.methodLink RX0 77 yX3_fit ∈ wT ∧ Cond.instanceMethod yX3_fit ∈ wT ∧ Cond.selects RX3 yX3_fit yX3_fit ∈ wT := ⟨(inT4 (List.mem_of_getElem? (i := 99) rfl) rfl), (inT4 (List.mem_of_getElem? (i := 48) rfl) rfl), (inT4 (List.mem_of_getElem? (i := 49) rfl) rfl)⟩
theorem ml_11_368 : Cond.methodLink RX11 368 yJ6_bitCount_0f7a4 ∈ wT ∧ Cond.static yJ6_bitCount_0f7a4 ∈ wT := ⟨(inT4 (List.mem_of_getElem? (i := 103) rfl) rfl), (inT4 (List.mem_of_getElem? (i := 57) rfl) rfl)⟩
theorem ml_11_234 : Cond.methodLink RX11 234 yX5_begin ∈ wT ∧ Cond.instanceMethod yX5_begin ∈ wT ∧ Cond.selects RX5 yX5_begin yX5_begin ∈ wT := ⟨(inT4 (List.mem_of_getElem? (i := 108) rfl) rfl), (inT4 (List.mem_of_getElem? (i := 109) rfl) rfl), (inT4 (List.mem_of_getElem? (i := 110) rfl) rfl)⟩
theorem ml_5_31 : Cond.methodLink RX5 31 yX5_beginAgain ∈ wT ∧ Cond.instanceMethod yX5_beginAgain ∈ wT ∧ Cond.selects RX5 yX5_beginAgain yX5_beginAgain ∈ wT := ⟨(inT4 (List.mem_of_getElem? (i := 112) rfl) rfl), (inT4 (List.mem_of_getElem? (i := 113) rfl) rfl), (inT4 (List.mem_of_getElem? (i := 114) rfl) rfl)⟩
theorem ml_11_237 : Cond.methodLink RX11 237 yX0_oneDay ∈ wT ∧ Cond.instanceMethod yX0_oneDay ∈ wT ∧ Cond.selects RX0 yX0_oneDay yX0_oneDay ∈ wT := ⟨(inT4 (List.mem_of_getElem? (i := 120) rfl) rfl), (inT4 (List.mem_of_getElem? (i := 121) rfl) rfl), (inT4 (List.mem_of_getElem? (i := 122) rfl) rfl)⟩
theorem ml_0_153 : Cond.methodLink RX0 153 yX0_askOn ∈ wT ∧ Cond.instanceMethod yX0_askOn ∈ wT ∧ Cond.selects RX0 yX0_askOn yX0_askOn ∈ wT := ⟨(inT4 (List.mem_of_getElem? (i := 124) rfl) rfl), (inT4 (List.mem_of_getElem? (i := 125) rfl) rfl), (inT4 (List.mem_of_getElem? (i := 126) rfl) rfl)⟩
theorem ml_0_119 : Cond.methodLink RX0 119 yX0_ask ∈ wT ∧ Cond.instanceMethod yX0_ask ∈ wT ∧ Cond.selects RX0 yX0_ask yX0_ask ∈ wT := ⟨(inT4 (List.mem_of_getElem? (i := 128) rfl) rfl), (inT4 (List.mem_of_getElem? (i := 93) rfl) rfl), (inT4 (List.mem_of_getElem? (i := 94) rfl) rfl)⟩
theorem ml_0_130 : Cond.methodLink RX0 130 yX0_nearestNew ∈ wT ∧ Cond.instanceMethod yX0_nearestNew ∈ wT ∧ Cond.selects RX0 yX0_nearestNew yX0_nearestNew ∈ wT := ⟨(inT4 (List.mem_of_getElem? (i := 129) rfl) rfl), (inT4 (List.mem_of_getElem? (i := 131) rfl) rfl), (inT0 (List.mem_of_getElem? (i := 23) rfl) rfl)⟩
theorem ml_0_156 : Cond.methodLink RX0 156 yX0_goTo ∈ wT ∧ Cond.instanceMethod yX0_goTo ∈ wT ∧ Cond.selects RX0 yX0_goTo yX0_goTo ∈ wT := ⟨(inT4 (List.mem_of_getElem? (i := 133) rfl) rfl), (inT4 (List.mem_of_getElem? (i := 134) rfl) rfl), (inT4 (List.mem_of_getElem? (i := 135) rfl) rfl)⟩
theorem ml_11_240 : Cond.methodLink RX11 240 yX8_howManyAre ∈ wT ∧ Cond.instanceMethod yX8_howManyAre ∈ wT ∧ Cond.selects RX8 yX8_howManyAre yX8_howManyAre ∈ wT := ⟨(inT4 (List.mem_of_getElem? (i := 137) rfl) rfl), (inT4 (List.mem_of_getElem? (i := 138) rfl) rfl), (inT4 (List.mem_of_getElem? (i := 139) rfl) rfl)⟩
theorem ml_11_255 : Cond.methodLink RX11 255 yX5_isRight ∈ wT ∧ Cond.instanceMethod yX5_isRight ∈ wT ∧ Cond.selects RX5 yX5_isRight yX5_isRight ∈ wT := ⟨(inT4 (List.mem_of_getElem? (i := 145) rfl) rfl), (inT4 (List.mem_of_getElem? (i := 146) rfl) rfl), (inT4 (List.mem_of_getElem? (i := 147) rfl) rfl)⟩
theorem ml_11_262 : Cond.methodLink RX11 262 yX9_spread ∈ wT ∧ Cond.instanceMethod yX9_spread ∈ wT ∧ Cond.selects RX9 yX9_spread yX9_spread ∈ wT := ⟨(inT4 (List.mem_of_getElem? (i := 153) rfl) rfl), (inT4 (List.mem_of_getElem? (i := 154) rfl) rfl), (inT4 (List.mem_of_getElem? (i := 155) rfl) rfl)⟩
theorem ml_9_27 : Cond.methodLink RX9 27 yJ7_fill_53178 ∈ wT ∧ Cond.static yJ7_fill_53178 ∈ wT := ⟨(inT4 (List.mem_of_getElem? (i := 157) rfl) rfl), (inT1 (List.mem_of_getElem? (i := 39) rfl) rfl)⟩
theorem ml_9_46 : Cond.methodLink RX9 46 yJ9_min_7cf53 ∈ wT ∧ Cond.static yJ9_min_7cf53 ∈ wT := ⟨(inT4 (List.mem_of_getElem? (i := 158) rfl) rfl), (inT2 (List.mem_of_getElem? (i := 194) rfl) rfl)⟩
theorem ml_9_59 : Cond.methodLink RX9 59 yX0_choose ∈ wT ∧ Cond.instanceMethod yX0_choose ∈ wT ∧ Cond.selects RX0 yX0_choose yX0_choose ∈ wT := ⟨(inT4 (List.mem_of_getElem? (i := 160) rfl) rfl), (inT4 (List.mem_of_getElem? (i := 161) rfl) rfl), (inT4 (List.mem_of_getElem? (i := 162) rfl) rfl)⟩
theorem ml_9_69 : Cond.methodLink RX9 69 yX9_reach ∈ wT ∧ Cond.instanceMethod yX9_reach ∈ wT ∧ Cond.selects RX9 yX9_reach yX9_reach ∈ wT := ⟨(inT4 (List.mem_of_getElem? (i := 164) rfl) rfl), (inT4 (List.mem_of_getElem? (i := 166) rfl) rfl), (inT0 (List.mem_of_getElem? (i := 24) rfl) rfl)⟩
theorem ml_11_266 : Cond.methodLink RX11 266 yX9_judge ∈ wT ∧ Cond.instanceMethod yX9_judge ∈ wT ∧ Cond.selects RX9 yX9_judge yX9_judge ∈ wT := ⟨(inT4 (List.mem_of_getElem? (i := 168) rfl) rfl), (inT4 (List.mem_of_getElem? (i := 169) rfl) rfl), (inT4 (List.mem_of_getElem? (i := 170) rfl) rfl)⟩
theorem ml_9_73 : Cond.methodLink RX9 73 yX9_judgeAt ∈ wT ∧ Cond.instanceMethod yX9_judgeAt ∈ wT ∧ Cond.selects RX9 yX9_judgeAt yX9_judgeAt ∈ wT := ⟨(inT4 (List.mem_of_getElem? (i := 172) rfl) rfl), (inT4 (List.mem_of_getElem? (i := 174) rfl) rfl), (inT0 (List.mem_of_getElem? (i := 25) rfl) rfl)⟩
theorem ml_11_270 : Cond.methodLink RX11 270 yX9_sureFrom ∈ wT ∧ Cond.instanceMethod yX9_sureFrom ∈ wT ∧ Cond.selects RX9 yX9_sureFrom yX9_sureFrom ∈ wT := ⟨(inT4 (List.mem_of_getElem? (i := 176) rfl) rfl), (inT4 (List.mem_of_getElem? (i := 177) rfl) rfl), (inT4 (List.mem_of_getElem? (i := 178) rfl) rfl)⟩
theorem ml_11_273 : Cond.methodLink RX11 273 yX9_soonFrom ∈ wT ∧ Cond.instanceMethod yX9_soonFrom ∈ wT ∧ Cond.selects RX9 yX9_soonFrom yX9_soonFrom ∈ wT := ⟨(inT4 (List.mem_of_getElem? (i := 180) rfl) rfl), (inT4 (List.mem_of_getElem? (i := 181) rfl) rfl), (inT4 (List.mem_of_getElem? (i := 182) rfl) rfl)⟩
theorem ml_11_276 : Cond.methodLink RX11 276 yX11_daysOfRound ∈ wT ∧ Cond.instanceMethod yX11_daysOfRound ∈ wT ∧ Cond.selects RX11 yX11_daysOfRound yX11_daysOfRound ∈ wT := ⟨(inT4 (List.mem_of_getElem? (i := 188) rfl) rfl), (inT4 (List.mem_of_getElem? (i := 190) rfl) rfl), (inT0 (List.mem_of_getElem? (i := 26) rfl) rfl)⟩
theorem ml_11_285 : Cond.methodLink RX11 285 yX0_askOn ∈ wT ∧ Cond.instanceMethod yX0_askOn ∈ wT ∧ Cond.selects RX0 yX0_askOn yX0_askOn ∈ wT := ⟨(inT4 (List.mem_of_getElem? (i := 200) rfl) rfl), (inT4 (List.mem_of_getElem? (i := 125) rfl) rfl), (inT4 (List.mem_of_getElem? (i := 126) rfl) rfl)⟩
theorem ml_11_289 : Cond.methodLink RX11 289 yX0_comesInTime ∈ wT ∧ Cond.instanceMethod yX0_comesInTime ∈ wT ∧ Cond.selects RX0 yX0_comesInTime yX0_comesInTime ∈ wT := ⟨(inT4 (List.mem_of_getElem? (i := 201) rfl) rfl), (inT4 (List.mem_of_getElem? (i := 202) rfl) rfl), (inT4 (List.mem_of_getElem? (i := 203) rfl) rfl)⟩
theorem ml_11_293 : Cond.methodLink RX11 293 yX0_goTo ∈ wT ∧ Cond.instanceMethod yX0_goTo ∈ wT ∧ Cond.selects RX0 yX0_goTo yX0_goTo ∈ wT := ⟨(inT4 (List.mem_of_getElem? (i := 205) rfl) rfl), (inT4 (List.mem_of_getElem? (i := 134) rfl) rfl), (inT4 (List.mem_of_getElem? (i := 135) rfl) rfl)⟩
theorem ml_11_297 : Cond.methodLink RX11 297 yX0_goToEnd ∈ wT ∧ Cond.instanceMethod yX0_goToEnd ∈ wT ∧ Cond.selects RX0 yX0_goToEnd yX0_goToEnd ∈ wT := ⟨(inT4 (List.mem_of_getElem? (i := 210) rfl) rfl), (inT4 (List.mem_of_getElem? (i := 211) rfl) rfl), (inT4 (List.mem_of_getElem? (i := 212) rfl) rfl)⟩
theorem ml_0_160 : Cond.methodLink RX0 160 yX0_comesInTime ∈ wT ∧ Cond.instanceMethod yX0_comesInTime ∈ wT ∧ Cond.selects RX0 yX0_comesInTime yX0_comesInTime ∈ wT := ⟨(inT4 (List.mem_of_getElem? (i := 214) rfl) rfl), (inT4 (List.mem_of_getElem? (i := 202) rfl) rfl), (inT4 (List.mem_of_getElem? (i := 203) rfl) rfl)⟩
theorem ml_11_304 : Cond.methodLink RX11 304 yX0_findNeeds ∈ wT ∧ Cond.instanceMethod yX0_findNeeds ∈ wT ∧ Cond.selects RX0 yX0_findNeeds yX0_findNeeds ∈ wT := ⟨(inT4 (List.mem_of_getElem? (i := 219) rfl) rfl), (inT4 (List.mem_of_getElem? (i := 220) rfl) rfl), (inT4 (List.mem_of_getElem? (i := 221) rfl) rfl)⟩
theorem ml_0_170 : Cond.methodLink RX0 170 yX0_endsRight ∈ wT ∧ Cond.instanceMethod yX0_endsRight ∈ wT ∧ Cond.selects RX0 yX0_endsRight yX0_endsRight ∈ wT := ⟨(inT4 (List.mem_of_getElem? (i := 223) rfl) rfl), (inT4 (List.mem_of_getElem? (i := 225) rfl) rfl), (inT0 (List.mem_of_getElem? (i := 27) rfl) rfl)⟩
theorem ml_0_178 : Cond.methodLink RX0 178 yX0_turnKnown ∈ wT ∧ Cond.instanceMethod yX0_turnKnown ∈ wT ∧ Cond.selects RX0 yX0_turnKnown yX0_turnKnown ∈ wT := ⟨(inT4 (List.mem_of_getElem? (i := 227) rfl) rfl), (inT4 (List.mem_of_getElem? (i := 229) rfl) rfl), (inT0 (List.mem_of_getElem? (i := 28) rfl) rfl)⟩
theorem ml_0_182 : Cond.methodLink RX0 182 yX5_beginAgain ∈ wT ∧ Cond.instanceMethod yX5_beginAgain ∈ wT ∧ Cond.selects RX5 yX5_beginAgain yX5_beginAgain ∈ wT := ⟨(inT4 (List.mem_of_getElem? (i := 231) rfl) rfl), (inT4 (List.mem_of_getElem? (i := 113) rfl) rfl), (inT4 (List.mem_of_getElem? (i := 114) rfl) rfl)⟩
theorem ml_0_185 : Cond.methodLink RX0 185 yX0_goToEnd ∈ wT ∧ Cond.instanceMethod yX0_goToEnd ∈ wT ∧ Cond.selects RX0 yX0_goToEnd yX0_goToEnd ∈ wT := ⟨(inT4 (List.mem_of_getElem? (i := 232) rfl) rfl), (inT4 (List.mem_of_getElem? (i := 211) rfl) rfl), (inT4 (List.mem_of_getElem? (i := 212) rfl) rfl)⟩
theorem ml_0_189 : Cond.methodLink RX0 189 yX5_isRight ∈ wT ∧ Cond.instanceMethod yX5_isRight ∈ wT ∧ Cond.selects RX5 yX5_isRight yX5_isRight ∈ wT := ⟨(inT4 (List.mem_of_getElem? (i := 233) rfl) rfl), (inT4 (List.mem_of_getElem? (i := 146) rfl) rfl), (inT4 (List.mem_of_getElem? (i := 147) rfl) rfl)⟩
theorem ml_0_174 : Cond.methodLink RX0 174 yX0_isNotKnown ∈ wT ∧ Cond.instanceMethod yX0_isNotKnown ∈ wT ∧ Cond.selects RX0 yX0_isNotKnown yX0_isNotKnown ∈ wT := ⟨(inT4 (List.mem_of_getElem? (i := 234) rfl) rfl), (inT4 (List.mem_of_getElem? (i := 236) rfl) rfl), (inT0 (List.mem_of_getElem? (i := 29) rfl) rfl)⟩
theorem ml_11_313 : Cond.methodLink RX11 313 yX11_dayRight ∈ wT ∧ Cond.instanceMethod yX11_dayRight ∈ wT ∧ Cond.selects RX11 yX11_dayRight yX11_dayRight ∈ wT := ⟨(inT5 (List.mem_of_getElem? (i := 2) rfl) rfl), (inT5 (List.mem_of_getElem? (i := 4) rfl) rfl), (inT0 (List.mem_of_getElem? (i := 30) rfl) rfl)⟩
theorem ml_11_316 : Cond.methodLink RX11 316 yJ7_fill_53178 ∈ wT ∧ Cond.static yJ7_fill_53178 ∈ wT := ⟨(inT5 (List.mem_of_getElem? (i := 10) rfl) rfl), (inT1 (List.mem_of_getElem? (i := 39) rfl) rfl)⟩
theorem ml_11_322 : Cond.methodLink RX11 322 yX11_isSpan ∈ wT ∧ Cond.static yX11_isSpan ∈ wT := ⟨(inT5 (List.mem_of_getElem? (i := 15) rfl) rfl), (inT5 (List.mem_of_getElem? (i := 16) rfl) rfl)⟩
theorem ml_11_325 : Cond.methodLink RX11 325 yX7_wordsOf ∈ wT ∧ Cond.instanceMethod yX7_wordsOf ∈ wT ∧ Cond.selects RX7 yX7_wordsOf yX7_wordsOf ∈ wT := ⟨(inT5 (List.mem_of_getElem? (i := 18) rfl) rfl), (inT5 (List.mem_of_getElem? (i := 19) rfl) rfl), (inT5 (List.mem_of_getElem? (i := 20) rfl) rfl)⟩
theorem ml_7_48 : Cond.methodLink RX7 48 yX7_marksOf ∈ wT ∧ Cond.instanceMethod yX7_marksOf ∈ wT ∧ Cond.selects RX7 yX7_marksOf yX7_marksOf ∈ wT := ⟨(inT5 (List.mem_of_getElem? (i := 22) rfl) rfl), (inT4 (List.mem_of_getElem? (i := 4) rfl) rfl), (inT4 (List.mem_of_getElem? (i := 5) rfl) rfl)⟩
theorem ml_11_329 : Cond.methodLink RX11 329 yX4_clear ∈ wT ∧ Cond.instanceMethod yX4_clear ∈ wT ∧ Cond.selects RX4 yX4_clear yX4_clear ∈ wT := ⟨(inT5 (List.mem_of_getElem? (i := 24) rfl) rfl), (inT5 (List.mem_of_getElem? (i := 25) rfl) rfl), (inT5 (List.mem_of_getElem? (i := 26) rfl) rfl)⟩
theorem ml_11_332 : Cond.methodLink RX11 332 yX11_addUnlikeWords ∈ wT ∧ Cond.instanceMethod yX11_addUnlikeWords ∈ wT ∧ Cond.selects RX11 yX11_addUnlikeWords yX11_addUnlikeWords ∈ wT := ⟨(inT5 (List.mem_of_getElem? (i := 28) rfl) rfl), (inT5 (List.mem_of_getElem? (i := 30) rfl) rfl), (inT0 (List.mem_of_getElem? (i := 31) rfl) rfl)⟩
theorem ml_11_388 : Cond.methodLink RX11 388 yX4_add ∈ wT ∧ Cond.instanceMethod yX4_add ∈ wT ∧ Cond.selects RX4 yX4_add yX4_add ∈ wT := ⟨(inT5 (List.mem_of_getElem? (i := 32) rfl) rfl), (inT5 (List.mem_of_getElem? (i := 33) rfl) rfl), (inT5 (List.mem_of_getElem? (i := 34) rfl) rfl)⟩
theorem ml_4_38 : Cond.methodLink RX4 38 yJ6_bitCount_0f7a4 ∈ wT ∧ Cond.static yJ6_bitCount_0f7a4 ∈ wT := ⟨(inT5 (List.mem_of_getElem? (i := 36) rfl) rfl), (inT4 (List.mem_of_getElem? (i := 57) rfl) rfl)⟩
theorem ml_11_339 : Cond.methodLink RX11 339 yX4_solve ∈ wT ∧ Cond.instanceMethod yX4_solve ∈ wT ∧ Cond.selects RX4 yX4_solve yX4_solve ∈ wT := ⟨(inT5 (List.mem_of_getElem? (i := 37) rfl) rfl), (inT5 (List.mem_of_getElem? (i := 38) rfl) rfl), (inT5 (List.mem_of_getElem? (i := 39) rfl) rfl)⟩
theorem ml_4_44 : Cond.methodLink RX4 44 yX4_search ∈ wT ∧ Cond.instanceMethod yX4_search ∈ wT ∧ Cond.selects RX4 yX4_search yX4_search ∈ wT := ⟨(inT5 (List.mem_of_getElem? (i := 41) rfl) rfl), (inT5 (List.mem_of_getElem? (i := 43) rfl) rfl), (inT0 (List.mem_of_getElem? (i := 32) rfl) rfl)⟩
theorem ml_4_48 : Cond.methodLink RX4 48 yX4_hardest ∈ wT ∧ Cond.instanceMethod yX4_hardest ∈ wT ∧ Cond.selects RX4 yX4_hardest yX4_hardest ∈ wT := ⟨(inT5 (List.mem_of_getElem? (i := 45) rfl) rfl), (inT5 (List.mem_of_getElem? (i := 47) rfl) rfl), (inT0 (List.mem_of_getElem? (i := 33) rfl) rfl)⟩
theorem ml_4_52 : Cond.methodLink RX4 52 yX4_keepIfBetter ∈ wT ∧ Cond.instanceMethod yX4_keepIfBetter ∈ wT ∧ Cond.selects RX4 yX4_keepIfBetter yX4_keepIfBetter ∈ wT := ⟨(inT5 (List.mem_of_getElem? (i := 49) rfl) rfl), (inT5 (List.mem_of_getElem? (i := 51) rfl) rfl), (inT0 (List.mem_of_getElem? (i := 34) rfl) rfl)⟩
theorem ml_11_348 : Cond.methodLink RX11 348 yX11_addUnlikeMarks ∈ wT ∧ Cond.instanceMethod yX11_addUnlikeMarks ∈ wT ∧ Cond.selects RX11 yX11_addUnlikeMarks yX11_addUnlikeMarks ∈ wT := ⟨(inT5 (List.mem_of_getElem? (i := 58) rfl) rfl), (inT5 (List.mem_of_getElem? (i := 60) rfl) rfl), (inT0 (List.mem_of_getElem? (i := 35) rfl) rfl)⟩
theorem ml_11_359 : Cond.methodLink RX11 359 yX11_withKnown ∈ wT ∧ Cond.instanceMethod yX11_withKnown ∈ wT ∧ Cond.selects RX11 yX11_withKnown yX11_withKnown ∈ wT := ⟨(inT5 (List.mem_of_getElem? (i := 66) rfl) rfl), (inT5 (List.mem_of_getElem? (i := 68) rfl) rfl), (inT0 (List.mem_of_getElem? (i := 36) rfl) rfl)⟩
theorem ml_11_362 : Cond.methodLink RX11 362 yX8_howManyAreRight ∈ wT ∧ Cond.instanceMethod yX8_howManyAreRight ∈ wT ∧ Cond.selects RX8 yX8_howManyAreRight yX8_howManyAreRight ∈ wT := ⟨(inT5 (List.mem_of_getElem? (i := 82) rfl) rfl), (inT5 (List.mem_of_getElem? (i := 83) rfl) rfl), (inT5 (List.mem_of_getElem? (i := 84) rfl) rfl)⟩
theorem ml_8_79 : Cond.methodLink RX8 79 yX5_isRight ∈ wT ∧ Cond.instanceMethod yX5_isRight ∈ wT ∧ Cond.selects RX5 yX5_isRight yX5_isRight ∈ wT := ⟨(inT5 (List.mem_of_getElem? (i := 86) rfl) rfl), (inT4 (List.mem_of_getElem? (i := 146) rfl) rfl), (inT4 (List.mem_of_getElem? (i := 147) rfl) rfl)⟩
theorem ml_11_365 : Cond.methodLink RX11 365 yX8_copyFrom ∈ wT ∧ Cond.instanceMethod yX8_copyFrom ∈ wT ∧ Cond.selects RX8 yX8_copyFrom yX8_copyFrom ∈ wT := ⟨(inT5 (List.mem_of_getElem? (i := 91) rfl) rfl), (inT5 (List.mem_of_getElem? (i := 92) rfl) rfl), (inT5 (List.mem_of_getElem? (i := 93) rfl) rfl)⟩
theorem ml_8_68 : Cond.methodLink RX8 68 yX5_copyFrom ∈ wT ∧ Cond.instanceMethod yX5_copyFrom ∈ wT ∧ Cond.selects RX5 yX5_copyFrom yX5_copyFrom ∈ wT := ⟨(inT5 (List.mem_of_getElem? (i := 96) rfl) rfl), (inT5 (List.mem_of_getElem? (i := 97) rfl) rfl), (inT5 (List.mem_of_getElem? (i := 98) rfl) rfl)⟩
theorem ml_12_160 : Cond.methodLink RX12 160 yX12_isPlace ∈ wT ∧ Cond.static yX12_isPlace ∈ wT := ⟨(inT6 (List.mem_of_getElem? (i := 79) rfl) rfl), (inT6 (List.mem_of_getElem? (i := 80) rfl) rfl)⟩
theorem ml_12_154 : Cond.methodLink RX12 154 yX12_in ∈ wT ∧ Cond.static yX12_in ∈ wT := ⟨(inT6 (List.mem_of_getElem? (i := 83) rfl) rfl), (inT6 (List.mem_of_getElem? (i := 84) rfl) rfl)⟩
theorem ml_12_166 : Cond.methodLink RX12 166 yX12_roadOf ∈ wT ∧ Cond.instanceMethod yX12_roadOf ∈ wT ∧ Cond.selects RX12 yX12_roadOf yX12_roadOf ∈ wT := ⟨(inT6 (List.mem_of_getElem? (i := 87) rfl) rfl), (inT6 (List.mem_of_getElem? (i := 89) rfl) rfl), (inT0 (List.mem_of_getElem? (i := 37) rfl) rfl)⟩
theorem ml_12_170 : Cond.methodLink RX12 170 yX12_isDay ∈ wT ∧ Cond.static yX12_isDay ∈ wT := ⟨(inT6 (List.mem_of_getElem? (i := 99) rfl) rfl), (inT6 (List.mem_of_getElem? (i := 100) rfl) rfl)⟩
theorem ml_12_175 : Cond.methodLink RX12 175 yX12_isPerson ∈ wT ∧ Cond.instanceMethod yX12_isPerson ∈ wT ∧ Cond.selects RX12 yX12_isPerson yX12_isPerson ∈ wT := ⟨(inT6 (List.mem_of_getElem? (i := 104) rfl) rfl), (inT6 (List.mem_of_getElem? (i := 106) rfl) rfl), (inT0 (List.mem_of_getElem? (i := 38) rfl) rfl)⟩
theorem ml_12_180 : Cond.methodLink RX12 180 yX12_sorts ∈ wT ∧ Cond.instanceMethod yX12_sorts ∈ wT ∧ Cond.selects RX12 yX12_sorts yX12_sorts ∈ wT := ⟨(inT6 (List.mem_of_getElem? (i := 109) rfl) rfl), (inT6 (List.mem_of_getElem? (i := 111) rfl) rfl), (inT0 (List.mem_of_getElem? (i := 39) rfl) rfl)⟩
theorem ml_12_148 : Cond.methodLink RX12 148 yX12_has ∈ wT ∧ Cond.static yX12_has ∈ wT := ⟨(inT6 (List.mem_of_getElem? (i := 117) rfl) rfl), (inT6 (List.mem_of_getElem? (i := 118) rfl) rfl)⟩
theorem ml_12_198 : Cond.methodLink RX12 198 yX12_lays ∈ wT ∧ Cond.instanceMethod yX12_lays ∈ wT ∧ Cond.selects RX12 yX12_lays yX12_lays ∈ wT := ⟨(inT6 (List.mem_of_getElem? (i := 130) rfl) rfl), (inT6 (List.mem_of_getElem? (i := 132) rfl) rfl), (inT0 (List.mem_of_getElem? (i := 40) rfl) rfl)⟩
theorem ml_12_191 : Cond.methodLink RX12 191 yX12_makes ∈ wT ∧ Cond.instanceMethod yX12_makes ∈ wT ∧ Cond.selects RX12 yX12_makes yX12_makes ∈ wT := ⟨(inT6 (List.mem_of_getElem? (i := 134) rfl) rfl), (inT6 (List.mem_of_getElem? (i := 136) rfl) rfl), (inT0 (List.mem_of_getElem? (i := 41) rfl) rfl)⟩
theorem ml_12_187 : Cond.methodLink RX12 187 yX12_with ∈ wT ∧ Cond.static yX12_with ∈ wT := ⟨(inT6 (List.mem_of_getElem? (i := 138) rfl) rfl), (inT6 (List.mem_of_getElem? (i := 139) rfl) rfl)⟩
theorem ml_12_201 : Cond.methodLink RX12 201 yX12_seenBy ∈ wT ∧ Cond.instanceMethod yX12_seenBy ∈ wT ∧ Cond.selects RX12 yX12_seenBy yX12_seenBy ∈ wT := ⟨(inT6 (List.mem_of_getElem? (i := 153) rfl) rfl), (inT6 (List.mem_of_getElem? (i := 155) rfl) rfl), (inT0 (List.mem_of_getElem? (i := 42) rfl) rfl)⟩
theorem ml_12_195 : Cond.methodLink RX12 195 yX12_standing ∈ wT ∧ Cond.instanceMethod yX12_standing ∈ wT ∧ Cond.selects RX12 yX12_standing yX12_standing ∈ wT := ⟨(inT6 (List.mem_of_getElem? (i := 157) rfl) rfl), (inT6 (List.mem_of_getElem? (i := 159) rfl) rfl), (inT0 (List.mem_of_getElem? (i := 43) rfl) rfl)⟩
theorem ml_12_205 : Cond.methodLink RX12 205 yX12_spreads ∈ wT ∧ Cond.instanceMethod yX12_spreads ∈ wT ∧ Cond.selects RX12 yX12_spreads yX12_spreads ∈ wT := ⟨(inT6 (List.mem_of_getElem? (i := 165) rfl) rfl), (inT6 (List.mem_of_getElem? (i := 167) rfl) rfl), (inT0 (List.mem_of_getElem? (i := 44) rfl) rfl)⟩
theorem ml_12_212 : Cond.methodLink RX12 212 yX12_put ∈ wT ∧ Cond.instanceMethod yX12_put ∈ wT ∧ Cond.selects RX12 yX12_put yX12_put ∈ wT := ⟨(inT6 (List.mem_of_getElem? (i := 173) rfl) rfl), (inT6 (List.mem_of_getElem? (i := 175) rfl) rfl), (inT0 (List.mem_of_getElem? (i := 45) rfl) rfl)⟩
theorem ml_12_312 : Cond.methodLink RX12 312 yX12_heads ∈ wT ∧ Cond.instanceMethod yX12_heads ∈ wT ∧ Cond.selects RX12 yX12_heads yX12_heads ∈ wT := ⟨(inT6 (List.mem_of_getElem? (i := 185) rfl) rfl), (inT6 (List.mem_of_getElem? (i := 187) rfl) rfl), (inT0 (List.mem_of_getElem? (i := 46) rfl) rfl)⟩
theorem ml_12_256 : Cond.methodLink RX12 256 yX12_blanks ∈ wT ∧ Cond.instanceMethod yX12_blanks ∈ wT ∧ Cond.selects RX12 yX12_blanks yX12_blanks ∈ wT := ⟨(inT6 (List.mem_of_getElem? (i := 189) rfl) rfl), (inT6 (List.mem_of_getElem? (i := 191) rfl) rfl), (inT0 (List.mem_of_getElem? (i := 47) rfl) rfl)⟩
theorem ml_12_268 : Cond.methodLink RX12 268 yX12_isWord ∈ wT ∧ Cond.instanceMethod yX12_isWord ∈ wT ∧ Cond.selects RX12 yX12_isWord yX12_isWord ∈ wT := ⟨(inT6 (List.mem_of_getElem? (i := 194) rfl) rfl), (inT6 (List.mem_of_getElem? (i := 196) rfl) rfl), (inT0 (List.mem_of_getElem? (i := 48) rfl) rfl)⟩
theorem ml_12_228 : Cond.methodLink RX12 228 yX12_wordLong ∈ wT ∧ Cond.instanceMethod yX12_wordLong ∈ wT ∧ Cond.selects RX12 yX12_wordLong yX12_wordLong ∈ wT := ⟨(inT6 (List.mem_of_getElem? (i := 198) rfl) rfl), (inT6 (List.mem_of_getElem? (i := 200) rfl) rfl), (inT0 (List.mem_of_getElem? (i := 49) rfl) rfl)⟩
theorem ml_12_225 : Cond.methodLink RX12 225 yX12_isSmall ∈ wT ∧ Cond.static yX12_isSmall ∈ wT := ⟨(inT6 (List.mem_of_getElem? (i := 202) rfl) rfl), (inT6 (List.mem_of_getElem? (i := 203) rfl) rfl)⟩
theorem ml_12_315 : Cond.methodLink RX12 315 yX12_fact ∈ wT ∧ Cond.instanceMethod yX12_fact ∈ wT ∧ Cond.selects RX12 yX12_fact yX12_fact ∈ wT := ⟨(inT6 (List.mem_of_getElem? (i := 210) rfl) rfl), (inT6 (List.mem_of_getElem? (i := 212) rfl) rfl), (inT0 (List.mem_of_getElem? (i := 50) rfl) rfl)⟩
theorem ml_12_253 : Cond.methodLink RX12 253 yX12_fails ∈ wT ∧ Cond.instanceMethod yX12_fails ∈ wT ∧ Cond.selects RX12 yX12_fails yX12_fails ∈ wT := ⟨(inT6 (List.mem_of_getElem? (i := 215) rfl) rfl), (inT6 (List.mem_of_getElem? (i := 217) rfl) rfl), (inT0 (List.mem_of_getElem? (i := 51) rfl) rfl)⟩
theorem ml_12_275 : Cond.methodLink RX12 275 yX12_opens ∈ wT ∧ Cond.instanceMethod yX12_opens ∈ wT ∧ Cond.selects RX12 yX12_opens yX12_opens ∈ wT := ⟨(inT6 (List.mem_of_getElem? (i := 219) rfl) rfl), (inT6 (List.mem_of_getElem? (i := 221) rfl) rfl), (inT0 (List.mem_of_getElem? (i := 52) rfl) rfl)⟩
theorem ml_12_285 : Cond.methodLink RX12 285 yX12_counts ∈ wT ∧ Cond.instanceMethod yX12_counts ∈ wT ∧ Cond.selects RX12 yX12_counts yX12_counts ∈ wT := ⟨(inT6 (List.mem_of_getElem? (i := 225) rfl) rfl), (inT6 (List.mem_of_getElem? (i := 227) rfl) rfl), (inT0 (List.mem_of_getElem? (i := 53) rfl) rfl)⟩
theorem ml_12_263 : Cond.methodLink RX12 263 yX12_emits ∈ wT ∧ Cond.instanceMethod yX12_emits ∈ wT ∧ Cond.selects RX12 yX12_emits yX12_emits ∈ wT := ⟨(inT6 (List.mem_of_getElem? (i := 229) rfl) rfl), (inT6 (List.mem_of_getElem? (i := 231) rfl) rfl), (inT0 (List.mem_of_getElem? (i := 54) rfl) rfl)⟩
theorem ml_12_292 : Cond.methodLink RX12 292 yX12_atPlace ∈ wT ∧ Cond.instanceMethod yX12_atPlace ∈ wT ∧ Cond.selects RX12 yX12_atPlace yX12_atPlace ∈ wT := ⟨(inT6 (List.mem_of_getElem? (i := 235) rfl) rfl), (inT6 (List.mem_of_getElem? (i := 237) rfl) rfl), (inT0 (List.mem_of_getElem? (i := 55) rfl) rfl)⟩
theorem ml_12_298 : Cond.methodLink RX12 298 yX12_closes ∈ wT ∧ Cond.instanceMethod yX12_closes ∈ wT ∧ Cond.selects RX12 yX12_closes yX12_closes ∈ wT := ⟨(inT7 (List.mem_of_getElem? (i := 1) rfl) rfl), (inT7 (List.mem_of_getElem? (i := 3) rfl) rfl), (inT0 (List.mem_of_getElem? (i := 56) rfl) rfl)⟩
theorem ml_12_319 : Cond.methodLink RX12 319 yX12_follows ∈ wT ∧ Cond.instanceMethod yX12_follows ∈ wT ∧ Cond.selects RX12 yX12_follows yX12_follows ∈ wT := ⟨(inT7 (List.mem_of_getElem? (i := 5) rfl) rfl), (inT7 (List.mem_of_getElem? (i := 7) rfl) rfl), (inT0 (List.mem_of_getElem? (i := 57) rfl) rfl)⟩
theorem ml_12_295 : Cond.methodLink RX12 295 yX12_gives ∈ wT ∧ Cond.instanceMethod yX12_gives ∈ wT ∧ Cond.selects RX12 yX12_gives yX12_gives ∈ wT := ⟨(inT7 (List.mem_of_getElem? (i := 9) rfl) rfl), (inT7 (List.mem_of_getElem? (i := 11) rfl) rfl), (inT0 (List.mem_of_getElem? (i := 58) rfl) rfl)⟩
theorem ml_12_331 : Cond.methodLink RX12 331 yX12_isCover ∈ wT ∧ Cond.instanceMethod yX12_isCover ∈ wT ∧ Cond.selects RX12 yX12_isCover yX12_isCover ∈ wT := ⟨(inT7 (List.mem_of_getElem? (i := 19) rfl) rfl), (inT7 (List.mem_of_getElem? (i := 21) rfl) rfl), (inT0 (List.mem_of_getElem? (i := 59) rfl) rfl)⟩
theorem ml_12_334 : Cond.methodLink RX12 334 yX12_fitting ∈ wT ∧ Cond.instanceMethod yX12_fitting ∈ wT ∧ Cond.selects RX12 yX12_fitting yX12_fitting ∈ wT := ⟨(inT7 (List.mem_of_getElem? (i := 23) rfl) rfl), (inT7 (List.mem_of_getElem? (i := 25) rfl) rfl), (inT0 (List.mem_of_getElem? (i := 60) rfl) rfl)⟩
theorem ml_12_322 : Cond.methodLink RX12 322 yX12_markedSet ∈ wT ∧ Cond.instanceMethod yX12_markedSet ∈ wT ∧ Cond.selects RX12 yX12_markedSet yX12_markedSet ∈ wT := ⟨(inT7 (List.mem_of_getElem? (i := 27) rfl) rfl), (inT7 (List.mem_of_getElem? (i := 29) rfl) rfl), (inT0 (List.mem_of_getElem? (i := 61) rfl) rfl)⟩
theorem ml_12_325 : Cond.methodLink RX12 325 yX12_tiedSet ∈ wT ∧ Cond.instanceMethod yX12_tiedSet ∈ wT ∧ Cond.selects RX12 yX12_tiedSet yX12_tiedSet ∈ wT := ⟨(inT7 (List.mem_of_getElem? (i := 31) rfl) rfl), (inT7 (List.mem_of_getElem? (i := 33) rfl) rfl), (inT0 (List.mem_of_getElem? (i := 62) rfl) rfl)⟩
theorem ml_12_328 : Cond.methodLink RX12 328 yX12_bits ∈ wT ∧ Cond.static yX12_bits ∈ wT := ⟨(inT7 (List.mem_of_getElem? (i := 35) rfl) rfl), (inT7 (List.mem_of_getElem? (i := 36) rfl) rfl)⟩
theorem ml_12_352 : Cond.methodLink RX12 352 yX12_asks ∈ wT ∧ Cond.instanceMethod yX12_asks ∈ wT ∧ Cond.selects RX12 yX12_asks yX12_asks ∈ wT := ⟨(inT7 (List.mem_of_getElem? (i := 42) rfl) rfl), (inT7 (List.mem_of_getElem? (i := 44) rfl) rfl), (inT0 (List.mem_of_getElem? (i := 63) rfl) rfl)⟩
theorem ml_12_346 : Cond.methodLink RX12 346 yX12_lowest ∈ wT ∧ Cond.static yX12_lowest ∈ wT := ⟨(inT7 (List.mem_of_getElem? (i := 46) rfl) rfl), (inT7 (List.mem_of_getElem? (i := 47) rfl) rfl)⟩
theorem ml_12_349 : Cond.methodLink RX12 349 yX12_nextTo ∈ wT ∧ Cond.instanceMethod yX12_nextTo ∈ wT ∧ Cond.selects RX12 yX12_nextTo yX12_nextTo ∈ wT := ⟨(inT7 (List.mem_of_getElem? (i := 49) rfl) rfl), (inT7 (List.mem_of_getElem? (i := 51) rfl) rfl), (inT0 (List.mem_of_getElem? (i := 64) rfl) rfl)⟩
theorem ml_12_360 : Cond.methodLink RX12 360 yX12_goesOn ∈ wT ∧ Cond.instanceMethod yX12_goesOn ∈ wT ∧ Cond.selects RX12 yX12_goesOn yX12_goesOn ∈ wT := ⟨(inT7 (List.mem_of_getElem? (i := 66) rfl) rfl), (inT7 (List.mem_of_getElem? (i := 68) rfl) rfl), (inT0 (List.mem_of_getElem? (i := 65) rfl) rfl)⟩
theorem ml_12_355 : Cond.methodLink RX12 355 yX12_unseen ∈ wT ∧ Cond.instanceMethod yX12_unseen ∈ wT ∧ Cond.selects RX12 yX12_unseen yX12_unseen ∈ wT := ⟨(inT7 (List.mem_of_getElem? (i := 70) rfl) rfl), (inT7 (List.mem_of_getElem? (i := 72) rfl) rfl), (inT0 (List.mem_of_getElem? (i := 66) rfl) rfl)⟩
theorem ml_12_363 : Cond.methodLink RX12 363 yX12_underWay ∈ wT ∧ Cond.instanceMethod yX12_underWay ∈ wT ∧ Cond.selects RX12 yX12_underWay yX12_underWay ∈ wT := ⟨(inT7 (List.mem_of_getElem? (i := 74) rfl) rfl), (inT7 (List.mem_of_getElem? (i := 76) rfl) rfl), (inT0 (List.mem_of_getElem? (i := 67) rfl) rfl)⟩
theorem ml_12_366 : Cond.methodLink RX12 366 yX12_isRight ∈ wT ∧ Cond.instanceMethod yX12_isRight ∈ wT ∧ Cond.selects RX12 yX12_isRight yX12_isRight ∈ wT := ⟨(inT7 (List.mem_of_getElem? (i := 82) rfl) rfl), (inT7 (List.mem_of_getElem? (i := 84) rfl) rfl), (inT0 (List.mem_of_getElem? (i := 68) rfl) rfl)⟩
theorem ml_12_375 : Cond.methodLink RX12 375 yX12_looks ∈ wT ∧ Cond.instanceMethod yX12_looks ∈ wT ∧ Cond.selects RX12 yX12_looks yX12_looks ∈ wT := ⟨(inT7 (List.mem_of_getElem? (i := 90) rfl) rfl), (inT7 (List.mem_of_getElem? (i := 92) rfl) rfl), (inT0 (List.mem_of_getElem? (i := 69) rfl) rfl)⟩
theorem ml_12_369 : Cond.methodLink RX12 369 yX12_at ∈ wT ∧ Cond.instanceMethod yX12_at ∈ wT ∧ Cond.selects RX12 yX12_at yX12_at ∈ wT := ⟨(inT7 (List.mem_of_getElem? (i := 94) rfl) rfl), (inT7 (List.mem_of_getElem? (i := 96) rfl) rfl), (inT0 (List.mem_of_getElem? (i := 70) rfl) rfl)⟩
theorem ml_12_371 : Cond.methodLink RX12 371 yX12_chooses ∈ wT ∧ Cond.instanceMethod yX12_chooses ∈ wT ∧ Cond.selects RX12 yX12_chooses yX12_chooses ∈ wT := ⟨(inT7 (List.mem_of_getElem? (i := 98) rfl) rfl), (inT7 (List.mem_of_getElem? (i := 100) rfl) rfl), (inT0 (List.mem_of_getElem? (i := 71) rfl) rfl)⟩
theorem ml_12_384 : Cond.methodLink RX12 384 yX12_wordsOf ∈ wT ∧ Cond.instanceMethod yX12_wordsOf ∈ wT ∧ Cond.selects RX12 yX12_wordsOf yX12_wordsOf ∈ wT := ⟨(inT7 (List.mem_of_getElem? (i := 121) rfl) rfl), (inT7 (List.mem_of_getElem? (i := 123) rfl) rfl), (inT0 (List.mem_of_getElem? (i := 72) rfl) rfl)⟩
theorem ml_12_388 : Cond.methodLink RX12 388 yX12_isClear ∈ wT ∧ Cond.instanceMethod yX12_isClear ∈ wT ∧ Cond.selects RX12 yX12_isClear yX12_isClear ∈ wT := ⟨(inT7 (List.mem_of_getElem? (i := 126) rfl) rfl), (inT7 (List.mem_of_getElem? (i := 128) rfl) rfl), (inT0 (List.mem_of_getElem? (i := 73) rfl) rfl)⟩
theorem ml_12_391 : Cond.methodLink RX12 391 yX12_isLess ∈ wT ∧ Cond.instanceMethod yX12_isLess ∈ wT ∧ Cond.selects RX12 yX12_isLess yX12_isLess ∈ wT := ⟨(inT7 (List.mem_of_getElem? (i := 130) rfl) rfl), (inT7 (List.mem_of_getElem? (i := 132) rfl) rfl), (inT0 (List.mem_of_getElem? (i := 74) rfl) rfl)⟩
theorem ml_12_395 : Cond.methodLink RX12 395 yX12_price ∈ wT ∧ Cond.instanceMethod yX12_price ∈ wT ∧ Cond.selects RX12 yX12_price yX12_price ∈ wT := ⟨(inT7 (List.mem_of_getElem? (i := 134) rfl) rfl), (inT7 (List.mem_of_getElem? (i := 136) rfl) rfl), (inT0 (List.mem_of_getElem? (i := 75) rfl) rfl)⟩
theorem ml_12_398 : Cond.methodLink RX12 398 yX12_parts ∈ wT ∧ Cond.instanceMethod yX12_parts ∈ wT ∧ Cond.selects RX12 yX12_parts yX12_parts ∈ wT := ⟨(inT7 (List.mem_of_getElem? (i := 142) rfl) rfl), (inT7 (List.mem_of_getElem? (i := 144) rfl) rfl), (inT0 (List.mem_of_getElem? (i := 76) rfl) rfl)⟩
theorem ml_12_416 : Cond.methodLink RX12 416 yX12_isLetter ∈ wT ∧ Cond.instanceMethod yX12_isLetter ∈ wT ∧ Cond.selects RX12 yX12_isLetter yX12_isLetter ∈ wT := ⟨(inT7 (List.mem_of_getElem? (i := 150) rfl) rfl), (inT7 (List.mem_of_getElem? (i := 152) rfl) rfl), (inT0 (List.mem_of_getElem? (i := 77) rfl) rfl)⟩
theorem ml_12_420 : Cond.methodLink RX12 420 yX12_endsFrom ∈ wT ∧ Cond.instanceMethod yX12_endsFrom ∈ wT ∧ Cond.selects RX12 yX12_endsFrom yX12_endsFrom ∈ wT := ⟨(inT7 (List.mem_of_getElem? (i := 154) rfl) rfl), (inT7 (List.mem_of_getElem? (i := 156) rfl) rfl), (inT0 (List.mem_of_getElem? (i := 78) rfl) rfl)⟩
theorem ml_12_443 : Cond.methodLink RX12 443 yX12_finds ∈ wT ∧ Cond.instanceMethod yX12_finds ∈ wT ∧ Cond.selects RX12 yX12_finds yX12_finds ∈ wT := ⟨(inT7 (List.mem_of_getElem? (i := 162) rfl) rfl), (inT7 (List.mem_of_getElem? (i := 164) rfl) rfl), (inT0 (List.mem_of_getElem? (i := 79) rfl) rfl)⟩
theorem ml_12_433 : Cond.methodLink RX12 433 yX12_endsRight ∈ wT ∧ Cond.instanceMethod yX12_endsRight ∈ wT ∧ Cond.selects RX12 yX12_endsRight yX12_endsRight ∈ wT := ⟨(inT7 (List.mem_of_getElem? (i := 166) rfl) rfl), (inT7 (List.mem_of_getElem? (i := 168) rfl) rfl), (inT0 (List.mem_of_getElem? (i := 80) rfl) rfl)⟩
theorem ml_12_437 : Cond.methodLink RX12 437 yX12_isStrange ∈ wT ∧ Cond.instanceMethod yX12_isStrange ∈ wT ∧ Cond.selects RX12 yX12_isStrange yX12_isStrange ∈ wT := ⟨(inT7 (List.mem_of_getElem? (i := 170) rfl) rfl), (inT7 (List.mem_of_getElem? (i := 172) rfl) rfl), (inT0 (List.mem_of_getElem? (i := 81) rfl) rfl)⟩
theorem ml_12_440 : Cond.methodLink RX12 440 yX12_turns ∈ wT ∧ Cond.instanceMethod yX12_turns ∈ wT ∧ Cond.selects RX12 yX12_turns yX12_turns ∈ wT := ⟨(inT7 (List.mem_of_getElem? (i := 174) rfl) rfl), (inT7 (List.mem_of_getElem? (i := 176) rfl) rfl), (inT0 (List.mem_of_getElem? (i := 82) rfl) rfl)⟩
theorem ml_12_446 : Cond.methodLink RX12 446 yX12_fittingAll ∈ wT ∧ Cond.instanceMethod yX12_fittingAll ∈ wT ∧ Cond.selects RX12 yX12_fittingAll yX12_fittingAll ∈ wT := ⟨(inT7 (List.mem_of_getElem? (i := 182) rfl) rfl), (inT7 (List.mem_of_getElem? (i := 184) rfl) rfl), (inT0 (List.mem_of_getElem? (i := 83) rfl) rfl)⟩
theorem ml_12_449 : Cond.methodLink RX12 449 yX12_isRead ∈ wT ∧ Cond.instanceMethod yX12_isRead ∈ wT ∧ Cond.selects RX12 yX12_isRead yX12_isRead ∈ wT := ⟨(inT7 (List.mem_of_getElem? (i := 190) rfl) rfl), (inT7 (List.mem_of_getElem? (i := 192) rfl) rfl), (inT0 (List.mem_of_getElem? (i := 84) rfl) rfl)⟩
theorem ml_12_452 : Cond.methodLink RX12 452 yX12_knownBy ∈ wT ∧ Cond.instanceMethod yX12_knownBy ∈ wT ∧ Cond.selects RX12 yX12_knownBy yX12_knownBy ∈ wT := ⟨(inT7 (List.mem_of_getElem? (i := 206) rfl) rfl), (inT7 (List.mem_of_getElem? (i := 208) rfl) rfl), (inT0 (List.mem_of_getElem? (i := 85) rfl) rfl)⟩
theorem ml_12_468 : Cond.methodLink RX12 468 yX12_carriesAll ∈ wT ∧ Cond.instanceMethod yX12_carriesAll ∈ wT ∧ Cond.selects RX12 yX12_carriesAll yX12_carriesAll ∈ wT := ⟨(inT7 (List.mem_of_getElem? (i := 235) rfl) rfl), (inT7 (List.mem_of_getElem? (i := 237) rfl) rfl), (inT0 (List.mem_of_getElem? (i := 86) rfl) rfl)⟩
theorem ml_12_462 : Cond.methodLink RX12 462 yX12_carry ∈ wT ∧ Cond.instanceMethod yX12_carry ∈ wT ∧ Cond.selects RX12 yX12_carry yX12_carry ∈ wT := ⟨(inT7 (List.mem_of_getElem? (i := 239) rfl) rfl), (inT8 (List.mem_of_getElem? (i := 1) rfl) rfl), (inT0 (List.mem_of_getElem? (i := 87) rfl) rfl)⟩
theorem ml_8_42 : Cond.methodLinkNest RX8 42 yX5_init "NamelessPost" ∈ wT ∧ Cond.instanceMethod yX5_init ∈ wT := ⟨(inT1 (List.mem_of_getElem? (i := 42) rfl) rfl), (inT1 (List.mem_of_getElem? (i := 43) rfl) rfl)⟩
theorem ml_11_34 : Cond.methodLinkNest RX11 34 yX3_init "NamelessPost" ∈ wT ∧ Cond.instanceMethod yX3_init ∈ wT := ⟨(inT1 (List.mem_of_getElem? (i := 203) rfl) rfl), (inT1 (List.mem_of_getElem? (i := 204) rfl) rfl)⟩
theorem ml_11_50 : Cond.methodLinkNest RX11 50 yX9_init "NamelessPost" ∈ wT ∧ Cond.instanceMethod yX9_init ∈ wT := ⟨(inT2 (List.mem_of_getElem? (i := 35) rfl) rfl), (inT2 (List.mem_of_getElem? (i := 36) rfl) rfl)⟩
theorem ml_11_57 : Cond.methodLinkNest RX11 57 yX4_init "NamelessPost" ∈ wT ∧ Cond.instanceMethod yX4_init ∈ wT := ⟨(inT2 (List.mem_of_getElem? (i := 57) rfl) rfl), (inT2 (List.mem_of_getElem? (i := 58) rfl) rfl)⟩
theorem ml_11_64 : Cond.methodLinkNest RX11 64 yX2_init "NamelessPost" ∈ wT ∧ Cond.instanceMethod yX2_init ∈ wT := ⟨(inT2 (List.mem_of_getElem? (i := 93) rfl) rfl), (inT2 (List.mem_of_getElem? (i := 94) rfl) rfl)⟩
theorem ml_11_71 : Cond.methodLinkNest RX11 71 yX5_init "NamelessPost" ∈ wT ∧ Cond.instanceMethod yX5_init ∈ wT := ⟨(inT2 (List.mem_of_getElem? (i := 129) rfl) rfl), (inT1 (List.mem_of_getElem? (i := 43) rfl) rfl)⟩
theorem ml_0_66 : Cond.methodLinkNest RX0 66 yX11_hasBit "NamelessPost" ∈ wT ∧ Cond.static yX11_hasBit ∈ wT := ⟨(inT4 (List.mem_of_getElem? (i := 97) rfl) rfl), (inT3 (List.mem_of_getElem? (i := 5) rfl) rfl)⟩
theorem ml_0_83 : Cond.methodLinkNest RX0 83 yX11_leastOf "NamelessPost" ∈ wT ∧ Cond.static yX11_leastOf ∈ wT := ⟨(inT4 (List.mem_of_getElem? (i := 100) rfl) rfl), (inT4 (List.mem_of_getElem? (i := 101) rfl) rfl)⟩
theorem ml_9_52 : Cond.methodLinkNest RX9 52 yX11_hasBit "NamelessPost" ∈ wT ∧ Cond.static yX11_hasBit ∈ wT := ⟨(inT4 (List.mem_of_getElem? (i := 159) rfl) rfl), (inT3 (List.mem_of_getElem? (i := 5) rfl) rfl)⟩
theorem ml_4_56 : Cond.methodLinkNest RX4 56 yX11_hasBit "NamelessPost" ∈ wT ∧ Cond.static yX11_hasBit ∈ wT := ⟨(inT5 (List.mem_of_getElem? (i := 53) rfl) rfl), (inT3 (List.mem_of_getElem? (i := 5) rfl) rfl)⟩
