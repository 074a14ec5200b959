/-! .. the desk and its picture -/
set_option maxRecDepth 20000 in
theorem e_9b {d : Nat} {I : zI} : cl (d + 1) 9 [(.inr (some 1)), (.inr (some 60))] I = ((cl d 21 [(.inr (some 2)), (.inr (some 61))] I).bind fun p1 => ((cl d 2 [(.inr (some 15)), (.inr (some 74))] p1.2).bind fun p2 => ((cl d 39 [(.inr (some 20)), (.inr (some 79))] p2.2).bind fun p3 => ((cl d 86 [(.inr (some 29)), (.inr (some 88))] p3.2).bind fun p4 => ((cl d 86 [(.inr (some 34)), (.inr (some 93))] p4.2).bind fun p5 => ((cl d 86 [(.inr (some 39)), (.inr (some 98))] p5.2).bind fun p6 => ((cl d 83 [(.inr (some 44)), (.inr (some 103))] p6.2).bind fun p7 => ((cl d 83 [(.inr (some 46)), (.inr (some 105))] p7.2).bind fun p8 => ((cl d 83 [(.inr (some 50)), (.inr (some 109))] (cp (cp p8.2 107 48 0 0 3) 108 49 0 0 3)).bind fun p9 => ((cl d 83 [(.inr (some 52)), (.inr (some 111))] p9.2).bind fun p10 => ((cl d 83 [(.inr (some 54)), (.inr (some 113))] p10.2).bind fun p11 => ((cl d 83 [(.inr (some 56)), (.inr (some 115))] p11.2).bind fun p12 => ((cl d 83 [(.inr (some 58)), (.inr (some 117))] p12.2).bind fun p13 => (some (0, p13.2))))))))))))))) := by
  rw [cl_D (n := 2) (by decide +kernel) rfl, zE me_9 (by decide +kernel : kst 9 = []) 84]
  rfl
set_option maxRecDepth 20000 in
theorem e_2b {d : Nat} {I : zI} : cl (d + 1) 2 [(.inr (some 15)), (.inr (some 74))] I = (some (0, (up (cp (cp (cp (cp I 75 16 0 0 150) 76 17 0 0 150) 77 18 0 0 150) 78 19 0 0 150) 15 4 (I 74 4)))) := by
  rw [cl_D (n := 2) (by decide +kernel) rfl, zE me_2 (by decide +kernel : kst 2 = []) 39]
  rfl
set_option maxRecDepth 20000 in
theorem e_39b {d : Nat} {I : zI} : cl (d + 1) 39 [(.inr (some 79)), (.inr (some 20))] I = ((cl d 86 [(.inr (some 80)), (.inr (some 21))] I).bind fun p1 => (some (0, (up (cp p1.2 26 85 0 0 400) 79 2 (p1.2 20 2))))) := by
  rw [cl_D (n := 2) (by decide +kernel) rfl, zE me_39 (by decide +kernel : kst 39 = []) 20]
  rfl
set_option maxRecDepth 20000 in
theorem e_39c {d : Nat} {I : zI} : cl (d + 1) 39 [(.inr (some 20)), (.inr (some 79))] I = ((cl d 86 [(.inr (some 21)), (.inr (some 80))] I).bind fun p1 => (some (0, (up (cp p1.2 85 26 0 0 400) 20 2 (p1.2 79 2))))) := by
  rw [cl_D (n := 2) (by decide +kernel) rfl, zE me_39 (by decide +kernel : kst 39 = []) 20]
  rfl
