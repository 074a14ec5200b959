/-! the methods as functions: what each is (by their code) -/
set_option maxRecDepth 20000 in
theorem e_170 {d : Nat} {I : zI} {x1 : Int} : cl (d + 1) 170 [(.inr (some 240)), (.inl x1)] I = (some (I 241 1, (up (up (up I 240 0 0) 241 1 x1) 240 3 0))) := by
  rw [cl_D (n := 2) (by decide +kernel) rfl, zE me_170 (by decide +kernel : kst 170 = []) 20]
  rfl
set_option maxRecDepth 20000 in
theorem e_171 {d : Nat} {I : zI} {x1 : Int} : cl (d + 1) 171 [(.inr (some 240)), (.inl x1)] I = (if x1 = 0 then none else (some ((zrem (zushr (wr ((wr (1664525 * I 241 1)) + 1013904223)) 8) x1), (up I 241 1 (wr ((wr (1664525 * I 241 1)) + 1013904223)))))) := by
  rw [cl_D (n := 2) (by decide +kernel) rfl, zE me_171 (by decide +kernel : kst 171 = []) 23]
  rfl
set_option maxRecDepth 20000 in
theorem e_172 {d : Nat} {I : zI} {x1 : Int} : cl (d + 1) 172 [(.inr (some 240)), (.inl x1)] I = (if x1 < 0 then (some (0, I)) else (if x1 < I 240 6 then (some (1, I)) else (some (0, I)))) := by
  rw [cl_D (n := 2) (by decide +kernel) rfl, zE me_172 (by decide +kernel : kst 172 = []) 12]
  rfl
set_option maxRecDepth 20000 in
theorem e_173 {d : Nat} {I : zI} {x1 : Int} : cl (d + 1) 173 [(.inr (some 240)), (.inl x1)] I = (if x1 < 0 then (some (0, I)) else (if x1 < I 240 7 then (some (1, I)) else (some (0, I)))) := by
  rw [cl_D (n := 2) (by decide +kernel) rfl, zE me_173 (by decide +kernel : kst 173 = []) 12]
  rfl
set_option maxRecDepth 20000 in
theorem e_174 {d : Nat} {I : zI} {x1 : Int} : cl (d + 1) 174 [(.inr (some 240)), (.inl x1)] I = (if x1 < 0 then (some (0, I)) else (if x1 < I 240 8 then (some (1, I)) else (some (0, I)))) := by
  rw [cl_D (n := 2) (by decide +kernel) rfl, zE me_174 (by decide +kernel : kst 174 = []) 12]
  rfl
set_option maxRecDepth 20000 in
theorem e_175 {d : Nat} {I : zI} {x1 : Int} : cl (d + 1) 175 [(.inr (some 240)), (.inl x1)] I = (if 0 ≤ (wr (46 + x1)) ∧ (wr (46 + x1)) < 110 then (some ((wr (I 241 ((wr (46 + x1))).toNat - 1)), I)) else none) := by
  rw [cl_D (n := 2) (by decide +kernel) rfl, zE me_175 (by decide +kernel : kst 175 = []) 11]
  rfl
set_option maxRecDepth 20000 in
theorem e_176 {d : Nat} {I : zI} {x1 : Int} : cl (d + 1) 176 [(.inr (some 240)), (.inl x1)] I = (if 0 ≤ (wr (56 + x1)) ∧ (wr (56 + x1)) < 110 then (some ((wr (I 241 ((wr (56 + x1))).toNat - 1)), I)) else none) := by
  rw [cl_D (n := 2) (by decide +kernel) rfl, zE me_176 (by decide +kernel : kst 176 = []) 11]
  rfl
set_option maxRecDepth 20000 in
theorem e_177 {d : Nat} {I : zI} {x1 : Int} : cl (d + 1) 177 [(.inr (some 240)), (.inl x1)] I = (if 0 ≤ (wr (32 + x1)) ∧ (wr (32 + x1)) < 110 then (if I 241 ((wr (32 + x1))).toNat = 1 then (some (1, I)) else (some (0, I))) else none) := by
  rw [cl_D (n := 2) (by decide +kernel) rfl, zE me_177 (by decide +kernel : kst 177 = []) 14]
  rfl
set_option maxRecDepth 20000 in
theorem e_178 {d : Nat} {I : zI} {x1 : Int} : cl (d + 1) 178 [(.inr (some 240)), (.inl x1)] I = (if 0 ≤ (wr (98 + x1)) ∧ (wr (98 + x1)) < 110 then (if 0 < I 241 ((wr (98 + x1))).toNat then (some (1, I)) else (some (0, I))) else none) := by
  rw [cl_D (n := 2) (by decide +kernel) rfl, zE me_178 (by decide +kernel : kst 178 = []) 13]
  rfl
set_option maxRecDepth 20000 in
theorem e_179 {d : Nat} {I : zI} {x1 : Int} : cl (d + 1) 179 [(.inr (some 240)), (.inl x1)] I = (zD (d + 1) 179 2 [(some (.inr (some 240))), (some (.inl x1)), (some (.inl 0))] [] I) := by
  rw [cl_D (n := 2) (by decide +kernel) rfl, zE me_179 (by decide +kernel : kst 179 = [(2, 3)]) 19]
  rfl
set_option maxRecDepth 20000 in
theorem e_179_2 {d : Nat} {I : zI} {x1 x2 : Int} : zD (d + 1) 179 2 [(some (.inr (some 240))), (some (.inl x1)), (some (.inl x2))] [] I = (if x2 < I 240 7 then ((cl d 175 [(.inr (some 240)), (.inl x2)] I).bind fun p1 => (if p1.1 = x1 then (some (x2, p1.2)) else (zD (d + 1) 179 2 [(some (.inr (some 240))), (some (.inl x1)), (some (.inl (wr (x2 + 1))))] [] p1.2))) else (some ((-1), I))) := by
  rw [zE me_179 (by decide +kernel : kst 179 = [(2, 3)]) 19]
  rfl
set_option maxRecDepth 20000 in
theorem e_180 {d : Nat} {I : zI} : cl (d + 1) 180 [(.inr (some 240))] I = (zD (d + 1) 180 4 [(some (.inr (some 240))), (some (.inl 0)), (some (.inl 0))] [] I) := by
  rw [cl_D (n := 1) (by decide +kernel) rfl, zE me_180 (by decide +kernel : kst 180 = [(4, 3)]) 24]
  rfl
set_option maxRecDepth 20000 in
theorem e_180_4 {d : Nat} {I : zI} {x1 x2 : Int} : zD (d + 1) 180 4 [(some (.inr (some 240))), (some (.inl x1)), (some (.inl x2))] [] I = (if x2 < I 240 8 then ((cl d 178 [(.inr (some 240)), (.inl x2)] I).bind fun p1 => (if p1.1 = 0 then (zD (d + 1) 180 4 [(some (.inr (some 240))), (some (.inl x1)), (some (.inl (wr (x2 + 1))))] [] p1.2) else (zD (d + 1) 180 4 [(some (.inr (some 240))), (some (.inl (zor x1 (zshl 1 x2)))), (some (.inl (wr (x2 + 1))))] [] p1.2))) else (some (x1, I))) := by
  rw [zE me_180 (by decide +kernel : kst 180 = [(4, 3)]) 24]
  rfl
set_option maxRecDepth 20000 in
theorem e_181 {d : Nat} {I : zI} {x1 : Int} : cl (d + 1) 181 [(.inr (some 240)), (.inl x1)] I = ((cl d 178 [(.inr (some 240)), (.inl x1)] I).bind fun p1 => (if p1.1 = 0 then (if 0 ≤ x1 ∧ x1 < 24 then ((cl d 180 [(.inr (some 240))] p1.2).bind fun p2 => (if (zand (p1.2 261 (x1).toNat) (zxor p2.1 (-1))) = 0 then (some (1, p2.2)) else (some (0, p2.2)))) else none) else (some (0, p1.2)))) := by
  rw [cl_D (n := 2) (by decide +kernel) rfl, zE me_181 (by decide +kernel : kst 181 = []) 20]
  rfl
set_option maxRecDepth 20000 in
theorem e_182 {d : Nat} {I : zI} {x1 x2 : Int} : cl (d + 1) 182 [(.inr (some 240)), (.inl x1), (.inl x2)] I = ((cl d 158 [(.inr (some 240)), (.inl x1), (.inl 0), (.inl 7)] (up I 240 0 0)).bind fun p1 => (if p1.1 = 0 then (some ((-1), p1.2)) else ((cl d 158 [(.inr (some 240)), (.inl x2), (.inl 0), (.inl 99)] p1.2).bind fun p2 => (if p2.1 = 0 then (some ((-1), p2.2)) else (if p2.2 240 6 = 14 then (some ((-1), p2.2)) else (if 0 ≤ p2.2 240 6 ∧ p2.2 240 6 < 14 then (if 0 ≤ (wr (4 + p2.2 240 6)) ∧ (wr (4 + p2.2 240 6)) < 110 then (if 0 ≤ (wr (18 + p2.2 240 6)) ∧ (wr (18 + p2.2 240 6)) < 110 then (if 0 ≤ (wr (32 + p2.2 240 6)) ∧ (wr (32 + p2.2 240 6)) < 110 then (some ((wr ((wr (p2.2 240 6 + 1)) - 1)), (up (up (up (up (up (up p2.2 244 (p2.2 240 6).toNat x1) 241 ((wr (4 + p2.2 240 6))).toNat x2) 241 ((wr (18 + p2.2 240 6))).toNat 0) 241 ((wr (32 + p2.2 240 6))).toNat 0) 240 6 (wr (p2.2 240 6 + 1))) 240 3 0))) else none) else none) else none) else none)))))) := by
  rw [cl_D (n := 3) (by decide +kernel) rfl, zE me_182 (by decide +kernel : kst 182 = []) 67]
  rfl
set_option maxRecDepth 20000 in
theorem e_183 {d : Nat} {I : zI} {x1 : Int} : cl (d + 1) 183 [(.inr (some 240)), (.inl x1)] I = ((cl d 158 [(.inr (some 240)), (.inl x1), (.inl 0), (.inl 9)] (up I 240 0 0)).bind fun p1 => (if p1.1 = 0 then (some ((-1), p1.2)) else (if p1.2 240 7 = 10 then (some ((-1), p1.2)) else (if 0 ≤ p1.2 240 7 ∧ p1.2 240 7 < 10 then (zD (d + 1) 183 23 [(some (.inr (some 240))), (some (.inl x1)), (some (.inl 46))] [] (up p1.2 245 (p1.2 240 7).toNat x1)) else none)))) := by
  rw [cl_D (n := 2) (by decide +kernel) rfl, zE me_183 (by decide +kernel : kst 183 = [(23, 3)]) 55]
  rfl
set_option maxRecDepth 20000 in
theorem e_183_23 {d : Nat} {I : zI} {x2 : Int} {w1 : Option zV} : zD (d + 1) 183 23 [(some (.inr (some 240))), w1, (some (.inl x2))] [] I = (if x2 < 86 then (if 0 ≤ (wr (x2 + I 240 7)) ∧ (wr (x2 + I 240 7)) < 110 then (zD (d + 1) 183 23 [(some (.inr (some 240))), w1, (some (.inl (wr (x2 + 10))))] [] (up I 241 ((wr (x2 + I 240 7))).toNat 0)) else none) else (some ((wr ((wr (I 240 7 + 1)) - 1)), (up (up I 240 7 (wr (I 240 7 + 1))) 240 3 0)))) := by
  rw [zE me_183 (by decide +kernel : kst 183 = [(23, 3)]) 55]
  rfl
set_option maxRecDepth 20000 in
theorem e_184 {d : Nat} {I : zI} {x1 : Int} : cl (d + 1) 184 [(.inr (some 240)), (.inl x1)] I = ((cl d 158 [(.inr (some 240)), (.inl x1), (.inl 1), (.inl 99)] (up I 240 0 0)).bind fun p1 => (if p1.1 = 0 then (some ((-1), p1.2)) else (if p1.2 240 8 = 12 then (some ((-1), p1.2)) else (if 0 ≤ p1.2 240 8 ∧ p1.2 240 8 < 12 then (if 0 ≤ (wr (86 + p1.2 240 8)) ∧ (wr (86 + p1.2 240 8)) < 110 then (if 0 ≤ (wr (98 + p1.2 240 8)) ∧ (wr (98 + p1.2 240 8)) < 110 then (some ((wr ((wr (p1.2 240 8 + 1)) - 1)), (up (up (up (up (up p1.2 246 (p1.2 240 8).toNat x1) 241 ((wr (86 + p1.2 240 8))).toNat 0) 241 ((wr (98 + p1.2 240 8))).toNat 0) 240 8 (wr (p1.2 240 8 + 1))) 240 3 0))) else none) else none) else none)))) := by
  rw [cl_D (n := 2) (by decide +kernel) rfl, zE me_184 (by decide +kernel : kst 184 = []) 53]
  rfl
set_option maxRecDepth 20000 in
theorem e_185 {d : Nat} {I : zI} {x1 x2 x3 : Int} : cl (d + 1) 185 [(.inr (some 240)), (.inl x1), (.inl x2), (.inl x3)] I = (if x1 = 2 then ((cl d 173 [(.inr (some 240)), (.inl x2)] (up I 240 0 0)).bind fun p4 => (if p4.1 = 0 then (zD (d + 1) 185 18 [(some (.inr (some 240))), (some (.inl x1)), (some (.inl x2)), (some (.inl x3))] [] p4.2) else ((cl d 158 [(.inr (some 240)), (.inl x3), (.inl 0), (.inl 9)] p4.2).bind fun p5 => (if p5.1 = 0 then (zD (d + 1) 185 18 [(some (.inr (some 240))), (some (.inl x1)), (some (.inl x2)), (some (.inl x3))] [] p5.2) else (if x1 = 0 then (if 0 ≤ (wr (4 + x2)) ∧ (wr (4 + x2)) < 110 then (if x1 = 1 then (if 0 ≤ (wr (18 + x2)) ∧ (wr (18 + x2)) < 110 then (zD (d + 1) 185 63 [(some (.inr (some 240))), (some (.inl x1)), (some (.inl x2)), (some (.inl x3))] [] (up (up p5.2 241 ((wr (4 + x2))).toNat x3) 241 ((wr (18 + x2))).toNat x3)) else none) else (zD (d + 1) 185 63 [(some (.inr (some 240))), (some (.inl x1)), (some (.inl x2)), (some (.inl x3))] [] (up p5.2 241 ((wr (4 + x2))).toNat x3))) else none) else (if x1 = 1 then (if 0 ≤ (wr (18 + x2)) ∧ (wr (18 + x2)) < 110 then (zD (d + 1) 185 63 [(some (.inr (some 240))), (some (.inl x1)), (some (.inl x2)), (some (.inl x3))] [] (up p5.2 241 ((wr (18 + x2))).toNat x3)) else none) else (zD (d + 1) 185 63 [(some (.inr (some 240))), (some (.inl x1)), (some (.inl x2)), (some (.inl x3))] [] p5.2))))))) else ((cl d 158 [(.inr (some 240)), (.inl x1), (.inl 0), (.inl 1)] (up I 240 0 0)).bind fun p1 => (if p1.1 = 0 then (zD (d + 1) 185 38 [(some (.inr (some 240))), (some (.inl x1)), (some (.inl x2)), (some (.inl x3))] [] p1.2) else ((cl d 172 [(.inr (some 240)), (.inl x2)] p1.2).bind fun p2 => (if p2.1 = 0 then (zD (d + 1) 185 38 [(some (.inr (some 240))), (some (.inl x1)), (some (.inl x2)), (some (.inl x3))] [] p2.2) else ((cl d 158 [(.inr (some 240)), (.inl x3), (.inl 0), (.inl 99)] p2.2).bind fun p3 => (if p3.1 = 0 then (zD (d + 1) 185 38 [(some (.inr (some 240))), (some (.inl x1)), (some (.inl x2)), (some (.inl x3))] [] p3.2) else (if x1 = 0 then (if 0 ≤ (wr (4 + x2)) ∧ (wr (4 + x2)) < 110 then (if x1 = 1 then (if 0 ≤ (wr (18 + x2)) ∧ (wr (18 + x2)) < 110 then (zD (d + 1) 185 63 [(some (.inr (some 240))), (some (.inl x1)), (some (.inl x2)), (some (.inl x3))] [] (up (up p3.2 241 ((wr (4 + x2))).toNat x3) 241 ((wr (18 + x2))).toNat x3)) else none) else (zD (d + 1) 185 63 [(some (.inr (some 240))), (some (.inl x1)), (some (.inl x2)), (some (.inl x3))] [] (up p3.2 241 ((wr (4 + x2))).toNat x3))) else none) else (if x1 = 1 then (if 0 ≤ (wr (18 + x2)) ∧ (wr (18 + x2)) < 110 then (zD (d + 1) 185 63 [(some (.inr (some 240))), (some (.inl x1)), (some (.inl x2)), (some (.inl x3))] [] (up p3.2 241 ((wr (18 + x2))).toNat x3)) else none) else (zD (d + 1) 185 63 [(some (.inr (some 240))), (some (.inl x1)), (some (.inl x2)), (some (.inl x3))] [] p3.2)))))))))) := by
  rw [cl_D (n := 4) (by decide +kernel) rfl, zE me_185 (by decide +kernel : kst 185 = [(18, 4), (38, 4), (63, 4)]) 78]
  rfl
set_option maxRecDepth 20000 in
theorem e_185_38 {d : Nat} {I : zI} {x1 x2 x3 : Int} : zD (d + 1) 185 38 [(some (.inr (some 240))), (some (.inl x1)), (some (.inl x2)), (some (.inl x3))] [] I = (some (0, I)) := by
  rw [zE me_185 (by decide +kernel : kst 185 = [(18, 4), (38, 4), (63, 4)]) 78]
  rfl
set_option maxRecDepth 20000 in
theorem e_185_63 {d : Nat} {I : zI} {x1 x2 x3 : Int} : zD (d + 1) 185 63 [(some (.inr (some 240))), (some (.inl x1)), (some (.inl x2)), (some (.inl x3))] [] I = (if x1 = 2 then (if 0 ≤ x2 ∧ x2 < 10 then (some (1, (up (up I 245 (x2).toNat x3) 240 3 0))) else none) else (some (1, (up I 240 3 0)))) := by
  rw [zE me_185 (by decide +kernel : kst 185 = [(18, 4), (38, 4), (63, 4)]) 78]
  rfl
set_option maxRecDepth 20000 in
theorem e_185_18 {d : Nat} {I : zI} {x1 x2 x3 : Int} : zD (d + 1) 185 18 [(some (.inr (some 240))), (some (.inl x1)), (some (.inl x2)), (some (.inl x3))] [] I = (some (0, I)) := by
  rw [zE me_185 (by decide +kernel : kst 185 = [(18, 4), (38, 4), (63, 4)]) 78]
  rfl
set_option maxRecDepth 20000 in
theorem e_186 {d : Nat} {I : zI} {x1 : Int} : cl (d + 1) 186 [(.inr (some 240)), (.inl x1)] I = (zD (d + 1) 186 2 [(some (.inr (some 240))), (some (.inl x1)), (some (.inl 24))] [] I) := by
  rw [cl_D (n := 2) (by decide +kernel) rfl, zE me_186 (by decide +kernel : kst 186 = [(2, 3)]) 25]
  rfl
set_option maxRecDepth 20000 in
theorem e_186_2 {d : Nat} {I : zI} {x1 x2 : Int} : zD (d + 1) 186 2 [(some (.inr (some 240))), (some (.inl x1)), (some (.inl x2))] [] I = (if x2 < 0 then (some (0, I)) else (if 0 ≤ I 240 14 ∧ I 240 14 < 400 then (zD (d + 1) 186 2 [(some (.inr (some 240))), (some (.inl x1)), (some (.inl (wr (x2 + (-8)))))] [] (up (up I 248 (I 240 14).toNat (zand (zshr x1 x2) 255)) 240 14 (wr (I 240 14 + 1)))) else none)) := by
  rw [zE me_186 (by decide +kernel : kst 186 = [(2, 3)]) 25]
  rfl
set_option maxRecDepth 20000 in
theorem e_187 {d : Nat} {I : zI} {x1 x2 x3 x4 x5 : Int} : cl (d + 1) 187 [(.inr (some 240)), (.inl x1), (.inl x2), (.inl x3), (.inl x4), (.inl x5)] I = (if 380 < I 240 14 then (some ((-1), (up I 240 0 0))) else ((cl d 186 [(.inr (some 240)), (.inl x1)] (up I 240 0 0)).bind fun p1 => ((cl d 186 [(.inr (some 240)), (.inl x2)] p1.2).bind fun p2 => ((cl d 186 [(.inr (some 240)), (.inl x3)] p2.2).bind fun p3 => ((cl d 186 [(.inr (some 240)), (.inl x4)] p3.2).bind fun p4 => ((cl d 186 [(.inr (some 240)), (.inl x5)] p4.2).bind fun p5 => (some (p5.2 240 14, p5.2)))))))) := by
  rw [cl_D (n := 6) (by decide +kernel) rfl, zE me_187 (by decide +kernel : kst 187 = []) 29]
  rfl
set_option maxRecDepth 20000 in
theorem e_188 {d : Nat} {I : zI} {x1 : Int} : cl (d + 1) 188 [(.inr (some 240)), (.inl x1)] I = ((cl d 158 [(.inr (some 240)), (.inl x1), (.inl 0), (.inl (I 240 14))] (up I 240 0 0)).bind fun p1 => (if p1.1 = 0 then (some (0, p1.2)) else (some (1, (up p1.2 240 14 x1))))) := by
  rw [cl_D (n := 2) (by decide +kernel) rfl, zE me_188 (by decide +kernel : kst 188 = []) 19]
  rfl
set_option maxRecDepth 20000 in
theorem e_189 {d : Nat} {I : zI} {x1 : Int} : cl (d + 1) 189 [(.inr (some 240)), (.inl x1)] I = (if x1 < I 240 14 then (if 0 ≤ x1 ∧ x1 < 400 then (some (I 248 (x1).toNat, I)) else none) else (some ((-1), I))) := by
  rw [cl_D (n := 2) (by decide +kernel) rfl, zE me_189 (by decide +kernel : kst 189 = []) 13]
  rfl
set_option maxRecDepth 20000 in
theorem e_190 {d : Nat} {I : zI} {x1 : Int} : cl (d + 1) 190 [(.inr (some 240)), (.inl x1)] I = ((cl d 158 [(.inr (some 240)), (.inl x1), (.inl 97), (.inl 122)] I).bind fun p1 => (if p1.1 = 0 then ((cl d 158 [(.inr (some 240)), (.inl x1), (.inl 65), (.inl 90)] p1.2).bind fun p2 => (if p2.1 = 0 then (some (0, p2.2)) else (some (1, p2.2)))) else (some (1, p1.2)))) := by
  rw [cl_D (n := 2) (by decide +kernel) rfl, zE me_190 (by decide +kernel : kst 190 = []) 18]
  rfl
set_option maxRecDepth 20000 in
theorem e_191 {d : Nat} {I : zI} {x1 : Int} : cl (d + 1) 191 [(.inr (some 240)), (.inl x1)] I = ((cl d 158 [(.inr (some 240)), (.inl x1), (.inl 48), (.inl 57)] I).bind fun p1 => (if p1.1 = 0 ∨ p1.1 = 1 then some (p1.1, p1.2) else none)) := by
  rw [cl_D (n := 2) (by decide +kernel) rfl, zE me_191 (by decide +kernel : kst 191 = []) 8]
  rfl
set_option maxRecDepth 20000 in
theorem e_192 {d : Nat} {I : zI} {x1 : Int} : cl (d + 1) 192 [(.inr (some 240)), (.inl x1)] I = (if x1 = 59 then (some (1, I)) else (if x1 = 43 then (some (1, I)) else (if x1 = 45 then (some (1, I)) else (if x1 = 42 then (some (1, I)) else (if x1 = 47 then (some (1, I)) else (if x1 = 40 then (some (1, I)) else (if x1 = 41 then (some (1, I)) else (if x1 = 60 then (some (1, I)) else (if x1 = 61 then (some (1, I)) else (if x1 = 62 then (some (1, I)) else (some (0, I)))))))))))) := by
  rw [cl_D (n := 2) (by decide +kernel) rfl, zE me_192 (by decide +kernel : kst 192 = []) 36]
  rfl
set_option maxRecDepth 20000 in
theorem e_193 {d : Nat} {I : zI} {x1 x2 : Int} : cl (d + 1) 193 [(.inr (some 240)), (.inl x1), (.inl x2)] I = (zD (d + 1) 193 4 [(some (.inr (some 240))), (some (.inl x1)), (some (.inl x2)), (some (.inl (-1))), (some (.inl 0))] [] I) := by
  rw [cl_D (n := 3) (by decide +kernel) rfl, zE me_193 (by decide +kernel : kst 193 = [(4, 5), (13, 6), (38, 6), (59, 5)]) 75]
  rfl
set_option maxRecDepth 20000 in
theorem e_193_4 {d : Nat} {I : zI} {x1 x2 x3 x4 : Int} : zD (d + 1) 193 4 [(some (.inr (some 240))), (some (.inl x1)), (some (.inl x2)), (some (.inl x3)), (some (.inl x4))] [] I = (if x4 < 137 then (zD (d + 1) 193 13 [(some (.inr (some 240))), (some (.inl x1)), (some (.inl x2)), (some (.inl (wr (x3 + 1)))), (some (.inl x4)), (some (.inl 0))] [] I) else (some ((-1), I))) := by
  rw [zE me_193 (by decide +kernel : kst 193 = [(4, 5), (13, 6), (38, 6), (59, 5)]) 75]
  rfl
set_option maxRecDepth 20000 in
theorem e_193_13 {d : Nat} {I : zI} {x1 x2 x3 x4 x5 : Int} : zD (d + 1) 193 13 [(some (.inr (some 240))), (some (.inl x1)), (some (.inl x2)), (some (.inl x3)), (some (.inl x4)), (some (.inl x5))] [] I = (if (wr (x1 + x5)) < x2 then (if 0 ≤ (wr ((wr (x4 + 1)) + x5)) ∧ (wr ((wr (x4 + 1)) + x5)) < 138 then (if 0 ≤ (wr (x1 + x5)) ∧ (wr (x1 + x5)) < 400 then (if I 249 ((wr ((wr (x4 + 1)) + x5))).toNat = I 248 ((wr (x1 + x5))).toNat then (zD (d + 1) 193 13 [(some (.inr (some 240))), (some (.inl x1)), (some (.inl x2)), (some (.inl x3)), (some (.inl x4)), (some (.inl (wr (x5 + 1))))] [] I) else (zD (d + 1) 193 38 [(some (.inr (some 240))), (some (.inl x1)), (some (.inl x2)), (some (.inl x3)), (some (.inl x4)), (some (.inl x5))] [] I)) else none) else none) else (zD (d + 1) 193 38 [(some (.inr (some 240))), (some (.inl x1)), (some (.inl x2)), (some (.inl x3)), (some (.inl x4)), (some (.inl x5))] [] I)) := by
  rw [zE me_193 (by decide +kernel : kst 193 = [(4, 5), (13, 6), (38, 6), (59, 5)]) 75]
  rfl
set_option maxRecDepth 20000 in
theorem e_193_38 {d : Nat} {I : zI} {x1 x2 x3 x4 x5 : Int} : zD (d + 1) 193 38 [(some (.inr (some 240))), (some (.inl x1)), (some (.inl x2)), (some (.inl x3)), (some (.inl x4)), (some (.inl x5))] [] I = (if (wr (x1 + x5)) = x2 then (if 0 ≤ (wr ((wr (x4 + 1)) + x5)) ∧ (wr ((wr (x4 + 1)) + x5)) < 138 then (if I 249 ((wr ((wr (x4 + 1)) + x5))).toNat = 32 then (some (x3, I)) else (zD (d + 1) 193 59 [(some (.inr (some 240))), (some (.inl x1)), (some (.inl x2)), (some (.inl x3)), (some (.inl (wr (x4 + 1))))] [] I)) else none) else (zD (d + 1) 193 59 [(some (.inr (some 240))), (some (.inl x1)), (some (.inl x2)), (some (.inl x3)), (some (.inl (wr (x4 + 1))))] [] I)) := by
  rw [zE me_193 (by decide +kernel : kst 193 = [(4, 5), (13, 6), (38, 6), (59, 5)]) 75]
  rfl
set_option maxRecDepth 20000 in
theorem e_193_59 {d : Nat} {I : zI} {x1 x2 x3 x4 : Int} : zD (d + 1) 193 59 [(some (.inr (some 240))), (some (.inl x1)), (some (.inl x2)), (some (.inl x3)), (some (.inl x4))] [] I = (if 0 ≤ x4 ∧ x4 < 138 then (if I 249 (x4).toNat = 32 then (zD (d + 1) 193 4 [(some (.inr (some 240))), (some (.inl x1)), (some (.inl x2)), (some (.inl x3)), (some (.inl x4))] [] I) else (zD (d + 1) 193 59 [(some (.inr (some 240))), (some (.inl x1)), (some (.inl x2)), (some (.inl x3)), (some (.inl (wr (x4 + 1))))] [] I)) else none) := by
  rw [zE me_193 (by decide +kernel : kst 193 = [(4, 5), (13, 6), (38, 6), (59, 5)]) 75]
  rfl
set_option maxRecDepth 20000 in
theorem e_194 {d : Nat} {I : zI} : cl (d + 1) 194 [(.inr (some 240))] I = ((cl d 189 [(.inr (some 240)), (.inl (I 240 15))] I).bind fun p1 => (if p1.1 = 32 then (zD (d + 1) 194 0 [(some (.inr (some 240)))] [] (up p1.2 240 15 (wr (p1.2 240 15 + 1)))) else ((cl d 189 [(.inr (some 240)), (.inl (p1.2 240 15))] p1.2).bind fun p2 => (if p2.1 = 10 then (zD (d + 1) 194 0 [(some (.inr (some 240)))] [] (up p2.2 240 15 (wr (p2.2 240 15 + 1)))) else ((cl d 189 [(.inr (some 240)), (.inl (p2.2 240 15))] (up (up p2.2 240 16 (p2.2 240 15)) 240 17 1)).bind fun p3 => (if p3.1 = (-1) then (some (0, (up p3.2 240 17 0))) else ((cl d 190 [(.inr (some 240)), (.inl p3.1)] (up (up p3.2 240 15 (wr (p3.2 240 15 + 1))) 240 18 p3.1)).bind fun p4 => (if p4.1 = 0 then ((cl d 191 [(.inr (some 240)), (.inl p3.1)] p4.2).bind fun p5 => (if p5.1 = 0 then ((cl d 192 [(.inr (some 240)), (.inl p3.1)] p5.2).bind fun p6 => (if p6.1 = 0 then (some (0, p6.2)) else (some (0, (up p6.2 240 17 4))))) else (zD (d + 1) 194 90 [(some (.inr (some 240)))] [] (up p5.2 240 18 (wr (p3.1 - 48)))))) else (zD (d + 1) 194 51 [(some (.inr (some 240)))] [] p4.2))))))))) := by
  rw [cl_D (n := 1) (by decide +kernel) rfl, zE me_194 (by decide +kernel : kst 194 = [(0, 1), (51, 1), (90, 1)]) 145]
  rfl
set_option maxRecDepth 20000 in
theorem e_194_0 {d : Nat} {I : zI} : zD (d + 1) 194 0 [(some (.inr (some 240)))] [] I = ((cl d 189 [(.inr (some 240)), (.inl (I 240 15))] I).bind fun p7 => (if p7.1 = 32 then (zD (d + 1) 194 0 [(some (.inr (some 240)))] [] (up p7.2 240 15 (wr (p7.2 240 15 + 1)))) else ((cl d 189 [(.inr (some 240)), (.inl (p7.2 240 15))] p7.2).bind fun p8 => (if p8.1 = 10 then (zD (d + 1) 194 0 [(some (.inr (some 240)))] [] (up p8.2 240 15 (wr (p8.2 240 15 + 1)))) else ((cl d 189 [(.inr (some 240)), (.inl (p8.2 240 15))] (up (up p8.2 240 16 (p8.2 240 15)) 240 17 1)).bind fun p9 => (if p9.1 = (-1) then (some (0, (up p9.2 240 17 0))) else ((cl d 190 [(.inr (some 240)), (.inl p9.1)] (up (up p9.2 240 15 (wr (p9.2 240 15 + 1))) 240 18 p9.1)).bind fun p10 => (if p10.1 = 0 then ((cl d 191 [(.inr (some 240)), (.inl p9.1)] p10.2).bind fun p11 => (if p11.1 = 0 then ((cl d 192 [(.inr (some 240)), (.inl p9.1)] p11.2).bind fun p12 => (if p12.1 = 0 then (some (0, p12.2)) else (some (0, (up p12.2 240 17 4))))) else (zD (d + 1) 194 90 [(some (.inr (some 240)))] [] (up p11.2 240 18 (wr (p9.1 - 48)))))) else (zD (d + 1) 194 51 [(some (.inr (some 240)))] [] p10.2))))))))) := by
  rw [zE me_194 (by decide +kernel : kst 194 = [(0, 1), (51, 1), (90, 1)]) 145]
  rfl
set_option maxRecDepth 20000 in
theorem e_194_90 {d : Nat} {I : zI} : zD (d + 1) 194 90 [(some (.inr (some 240)))] [] I = ((cl d 189 [(.inr (some 240)), (.inl (I 240 15))] I).bind fun p13 => ((cl d 191 [(.inr (some 240)), (.inl p13.1)] p13.2).bind fun p14 => (if p14.1 = 0 then (if (wr (p14.2 240 15 - p14.2 240 16)) < 5 then (some (0, (up p14.2 240 17 3))) else (some (0, p14.2))) else (if p14.2 240 18 < 10000 then ((cl d 189 [(.inr (some 240)), (.inl (p14.2 240 15))] p14.2).bind fun p15 => (zD (d + 1) 194 90 [(some (.inr (some 240)))] [] (up (up p15.2 240 18 (wr ((wr ((wr (10 * p14.2 240 18)) + p15.1)) - 48))) 240 15 (wr (p15.2 240 15 + 1))))) else (zD (d + 1) 194 90 [(some (.inr (some 240)))] [] (up (up p14.2 240 18 (p14.2 240 18)) 240 15 (wr (p14.2 240 15 + 1)))))))) := by
  rw [zE me_194 (by decide +kernel : kst 194 = [(0, 1), (51, 1), (90, 1)]) 145]
  rfl
set_option maxRecDepth 20000 in
theorem e_194_51 {d : Nat} {I : zI} : zD (d + 1) 194 51 [(some (.inr (some 240)))] [] I = ((cl d 189 [(.inr (some 240)), (.inl (I 240 15))] I).bind fun p16 => ((cl d 190 [(.inr (some 240)), (.inl p16.1)] p16.2).bind fun p17 => (if p17.1 = 0 then ((cl d 193 [(.inr (some 240)), (.inl (p17.2 240 16)), (.inl (p17.2 240 15))] p17.2).bind fun p18 => (if p18.1 = (-1) then (some (0, (up p18.2 240 18 p18.1))) else (some (0, (up (up p18.2 240 18 p18.1) 240 17 2))))) else (zD (d + 1) 194 51 [(some (.inr (some 240)))] [] (up p17.2 240 15 (wr (p17.2 240 15 + 1))))))) := by
  rw [zE me_194 (by decide +kernel : kst 194 = [(0, 1), (51, 1), (90, 1)]) 145]
  rfl
set_option maxRecDepth 20000 in
theorem e_195 {d : Nat} {I : zI} {x1 : Int} : cl (d + 1) 195 [(.inr (some 240)), (.inl x1)] I = (some ((-1), (up (up I 240 32 x1) 240 33 (I 240 16)))) := by
  rw [cl_D (n := 2) (by decide +kernel) rfl, zE me_195 (by decide +kernel : kst 195 = []) 11]
  rfl
set_option maxRecDepth 20000 in
theorem e_196 {d : Nat} {I : zI} {x1 : Int} : cl (d + 1) 196 [(.inr (some 240)), (.inl x1)] I = (if I 240 17 = 2 then (if I 240 18 = x1 then (some (1, I)) else (some (0, I))) else (some (0, I))) := by
  rw [cl_D (n := 2) (by decide +kernel) rfl, zE me_196 (by decide +kernel : kst 196 = []) 14]
  rfl
set_option maxRecDepth 20000 in
theorem e_197 {d : Nat} {I : zI} {x1 : Int} : cl (d + 1) 197 [(.inr (some 240)), (.inl x1)] I = (if I 240 17 = 4 then (if I 240 18 = x1 then (some (1, I)) else (some (0, I))) else (some (0, I))) := by
  rw [cl_D (n := 2) (by decide +kernel) rfl, zE me_197 (by decide +kernel : kst 197 = []) 14]
  rfl
set_option maxRecDepth 20000 in
theorem e_198 {d : Nat} {I : zI} {x1 x2 : Int} : cl (d + 1) 198 [(.inr (some 240)), (.inl x1), (.inl x2)] I = (if 0 ≤ (wr (800 + I 240 28)) ∧ (wr (800 + I 240 28)) < 1200 then (if 0 ≤ (wr (800 + I 240 28)) ∧ (wr (800 + I 240 28)) < 1200 then (some (0, (up (up (up I 255 ((wr (800 + I 240 28))).toNat x1) 256 ((wr (800 + I 240 28))).toNat x2) 240 28 (wr (I 240 28 + 1))))) else none) else none) := by
  rw [cl_D (n := 3) (by decide +kernel) rfl, zE me_198 (by decide +kernel : kst 198 = []) 25]
  rfl
set_option maxRecDepth 20000 in
theorem e_199 {d : Nat} {I : zI} {x1 : Int} : cl (d + 1) 199 [(.inr (some 240)), (.inl x1)] I = ((cl d 158 [(.inr (some 240)), (.inl x1), (.inl 7), (.inl 17)] I).bind fun p1 => (if p1.1 = 0 ∨ p1.1 = 1 then some (p1.1, p1.2) else none)) := by
  rw [cl_D (n := 2) (by decide +kernel) rfl, zE me_199 (by decide +kernel : kst 199 = []) 8]
  rfl
set_option maxRecDepth 20000 in
theorem e_200 {d : Nat} {I : zI} : cl (d + 1) 200 [(.inr (some 240))] I = (if I 240 17 = 2 then ((cl d 199 [(.inr (some 240)), (.inl (I 240 18))] I).bind fun p1 => (if p1.1 = 0 then (zD (d + 1) 200 11 [(some (.inr (some 240)))] [] p1.2) else (zD (d + 1) 200 23 [(some (.inr (some 240))), (some (.inl 1))] [] p1.2))) else (zD (d + 1) 200 11 [(some (.inr (some 240)))] [] I)) := by
  rw [cl_D (n := 1) (by decide +kernel) rfl, zE me_200 (by decide +kernel : kst 200 = [(11, 1), (23, 2)]) 45]
  rfl
set_option maxRecDepth 20000 in
theorem e_200_11 {d : Nat} {I : zI} : zD (d + 1) 200 11 [(some (.inr (some 240)))] [] I = (if I 240 17 = 3 then (zD (d + 1) 200 23 [(some (.inr (some 240))), (some (.inl 0))] [] I) else ((cl d 195 [(.inr (some 240)), (.inl 1)] I).bind fun p2 => (some (p2.1, p2.2)))) := by
  rw [zE me_200 (by decide +kernel : kst 200 = [(11, 1), (23, 2)]) 45]
  rfl
set_option maxRecDepth 20000 in
theorem e_200_23 {d : Nat} {I : zI} {x1 : Int} : zD (d + 1) 200 23 [(some (.inr (some 240))), (some (.inl x1))] [] I = (if x1 = 0 then (if x1 = 0 then ((cl d 198 [(.inr (some 240)), (.inl 0), (.inl (I 240 18))] I).bind fun p3 => ((cl d 194 [(.inr (some 240))] p3.2).bind fun p4 => (some (0, p4.2)))) else ((cl d 198 [(.inr (some 240)), (.inl 0), (.inl (wr (I 240 18 - 7)))] I).bind fun p5 => ((cl d 194 [(.inr (some 240))] p5.2).bind fun p6 => (some (0, p6.2))))) else (if x1 = 0 then ((cl d 198 [(.inr (some 240)), (.inl 1), (.inl (I 240 18))] I).bind fun p7 => ((cl d 194 [(.inr (some 240))] p7.2).bind fun p8 => (some (0, p8.2)))) else ((cl d 198 [(.inr (some 240)), (.inl 1), (.inl (wr (I 240 18 - 7)))] I).bind fun p9 => ((cl d 194 [(.inr (some 240))] p9.2).bind fun p10 => (some (0, p10.2)))))) := by
  rw [zE me_200 (by decide +kernel : kst 200 = [(11, 1), (23, 2)]) 45]
  rfl
set_option maxRecDepth 20000 in
theorem e_201 {d : Nat} {I : zI} : cl (d + 1) 201 [(.inr (some 240))] I = ((cl d 200 [(.inr (some 240))] I).bind fun p1 => (if p1.1 = (-1) then (some ((-1), p1.2)) else (zD (d + 1) 201 6 [(some (.inr (some 240)))] [] p1.2))) := by
  rw [cl_D (n := 1) (by decide +kernel) rfl, zE me_201 (by decide +kernel : kst 201 = [(6, 1), (14, 1), (39, 2)]) 58]
  rfl
set_option maxRecDepth 20000 in
theorem e_201_6 {d : Nat} {I : zI} : zD (d + 1) 201 6 [(some (.inr (some 240)))] [] I = ((cl d 197 [(.inr (some 240)), (.inl 42)] I).bind fun p2 => (if p2.1 = 0 then ((cl d 197 [(.inr (some 240)), (.inl 47)] p2.2).bind fun p3 => (if p3.1 = 0 then (some (0, p3.2)) else (zD (d + 1) 201 14 [(some (.inr (some 240)))] [] p3.2))) else (zD (d + 1) 201 14 [(some (.inr (some 240)))] [] p2.2))) := by
  rw [zE me_201 (by decide +kernel : kst 201 = [(6, 1), (14, 1), (39, 2)]) 58]
  rfl
set_option maxRecDepth 20000 in
theorem e_201_14 {d : Nat} {I : zI} : zD (d + 1) 201 14 [(some (.inr (some 240)))] [] I = ((cl d 197 [(.inr (some 240)), (.inl 42)] I).bind fun p4 => ((cl d 194 [(.inr (some 240))] p4.2).bind fun p5 => (if p4.1 = 0 then (if p5.2 240 17 = 3 then (if p4.1 = 0 then (if p5.2 240 18 = 0 then ((cl d 195 [(.inr (some 240)), (.inl 2)] p5.2).bind fun p7 => (some (p7.1, p7.2))) else (zD (d + 1) 201 39 [(some (.inr (some 240))), (some (.inl p4.1))] [] p5.2)) else (zD (d + 1) 201 39 [(some (.inr (some 240))), (some (.inl p4.1))] [] p5.2)) else ((cl d 195 [(.inr (some 240)), (.inl 1)] p5.2).bind fun p8 => (some (p8.1, p8.2)))) else (if p4.1 = 0 then (if p5.2 240 18 = 0 then ((cl d 195 [(.inr (some 240)), (.inl 2)] p5.2).bind fun p6 => (some (p6.1, p6.2))) else (zD (d + 1) 201 39 [(some (.inr (some 240))), (some (.inl p4.1))] [] p5.2)) else (zD (d + 1) 201 39 [(some (.inr (some 240))), (some (.inl p4.1))] [] p5.2))))) := by
  rw [zE me_201 (by decide +kernel : kst 201 = [(6, 1), (14, 1), (39, 2)]) 58]
  rfl
set_option maxRecDepth 20000 in
theorem e_201_39 {d : Nat} {I : zI} {x1 : Int} : zD (d + 1) 201 39 [(some (.inr (some 240))), (some (.inl x1))] [] I = ((cl d 200 [(.inr (some 240))] I).bind fun p9 => (if p9.1 = (-1) then (some ((-1), p9.2)) else (if x1 = 0 then ((cl d 198 [(.inr (some 240)), (.inl 5), (.inl 0)] p9.2).bind fun p10 => (zD (d + 1) 201 6 [(some (.inr (some 240)))] [] p10.2)) else ((cl d 198 [(.inr (some 240)), (.inl 4), (.inl 0)] p9.2).bind fun p11 => (zD (d + 1) 201 6 [(some (.inr (some 240)))] [] p11.2))))) := by
  rw [zE me_201 (by decide +kernel : kst 201 = [(6, 1), (14, 1), (39, 2)]) 58]
  rfl
set_option maxRecDepth 20000 in
theorem e_202 {d : Nat} {I : zI} : cl (d + 1) 202 [(.inr (some 240))] I = ((cl d 201 [(.inr (some 240))] I).bind fun p1 => (if p1.1 = (-1) then (some ((-1), p1.2)) else (zD (d + 1) 202 6 [(some (.inr (some 240)))] [] p1.2))) := by
  rw [cl_D (n := 1) (by decide +kernel) rfl, zE me_202 (by decide +kernel : kst 202 = [(6, 1), (14, 1)]) 39]
  rfl
set_option maxRecDepth 20000 in
theorem e_202_6 {d : Nat} {I : zI} : zD (d + 1) 202 6 [(some (.inr (some 240)))] [] I = ((cl d 197 [(.inr (some 240)), (.inl 43)] I).bind fun p2 => (if p2.1 = 0 then ((cl d 197 [(.inr (some 240)), (.inl 45)] p2.2).bind fun p3 => (if p3.1 = 0 then (some (0, p3.2)) else (zD (d + 1) 202 14 [(some (.inr (some 240)))] [] p3.2))) else (zD (d + 1) 202 14 [(some (.inr (some 240)))] [] p2.2))) := by
  rw [zE me_202 (by decide +kernel : kst 202 = [(6, 1), (14, 1)]) 39]
  rfl
set_option maxRecDepth 20000 in
theorem e_202_14 {d : Nat} {I : zI} : zD (d + 1) 202 14 [(some (.inr (some 240)))] [] I = (if I 240 18 = 43 then ((cl d 194 [(.inr (some 240))] I).bind fun p7 => ((cl d 201 [(.inr (some 240))] p7.2).bind fun p8 => (if p8.1 = (-1) then (some ((-1), p8.2)) else ((cl d 198 [(.inr (some 240)), (.inl 2), (.inl 0)] p8.2).bind fun p9 => (zD (d + 1) 202 6 [(some (.inr (some 240)))] [] p9.2))))) else ((cl d 194 [(.inr (some 240))] I).bind fun p4 => ((cl d 201 [(.inr (some 240))] p4.2).bind fun p5 => (if p5.1 = (-1) then (some ((-1), p5.2)) else ((cl d 198 [(.inr (some 240)), (.inl 3), (.inl 0)] p5.2).bind fun p6 => (zD (d + 1) 202 6 [(some (.inr (some 240)))] [] p6.2)))))) := by
  rw [zE me_202 (by decide +kernel : kst 202 = [(6, 1), (14, 1)]) 39]
  rfl
set_option maxRecDepth 20000 in
theorem e_203 {d : Nat} {I : zI} : cl (d + 1) 203 [(.inr (some 240))] I = ((cl d 202 [(.inr (some 240))] I).bind fun p1 => (if p1.1 = (-1) then (some ((-1), p1.2)) else ((cl d 197 [(.inr (some 240)), (.inl 60)] p1.2).bind fun p2 => (if p2.1 = 0 then ((cl d 197 [(.inr (some 240)), (.inl 61)] p2.2).bind fun p3 => (if p3.1 = 0 then ((cl d 197 [(.inr (some 240)), (.inl 62)] p3.2).bind fun p4 => (if p4.1 = 0 then ((cl d 195 [(.inr (some 240)), (.inl 1)] p4.2).bind fun p5 => (some (p5.1, p5.2))) else (zD (d + 1) 203 22 [(some (.inr (some 240)))] [] p4.2))) else (zD (d + 1) 203 22 [(some (.inr (some 240)))] [] p3.2))) else (zD (d + 1) 203 22 [(some (.inr (some 240)))] [] p2.2))))) := by
  rw [cl_D (n := 1) (by decide +kernel) rfl, zE me_203 (by decide +kernel : kst 203 = [(22, 1)]) 52]
  rfl
set_option maxRecDepth 20000 in
theorem e_203_22 {d : Nat} {I : zI} : zD (d + 1) 203 22 [(some (.inr (some 240)))] [] I = (if I 240 18 = 60 then ((cl d 194 [(.inr (some 240))] I).bind fun p12 => ((cl d 202 [(.inr (some 240))] p12.2).bind fun p13 => (if p13.1 = (-1) then (some ((-1), p13.2)) else ((cl d 198 [(.inr (some 240)), (.inl 6), (.inl 0)] p13.2).bind fun p14 => (some (0, p14.2)))))) else (if I 240 18 = 61 then ((cl d 194 [(.inr (some 240))] I).bind fun p9 => ((cl d 202 [(.inr (some 240))] p9.2).bind fun p10 => (if p10.1 = (-1) then (some ((-1), p10.2)) else ((cl d 198 [(.inr (some 240)), (.inl 7), (.inl 0)] p10.2).bind fun p11 => (some (0, p11.2)))))) else ((cl d 194 [(.inr (some 240))] I).bind fun p6 => ((cl d 202 [(.inr (some 240))] p6.2).bind fun p7 => (if p7.1 = (-1) then (some ((-1), p7.2)) else ((cl d 198 [(.inr (some 240)), (.inl 8), (.inl 0)] p7.2).bind fun p8 => (some (0, p8.2)))))))) := by
  rw [zE me_203 (by decide +kernel : kst 203 = [(22, 1)]) 52]
  rfl
set_option maxRecDepth 20000 in
theorem e_204 {d : Nat} {I : zI} {x1 : Int} : cl (d + 1) 204 [(.inr (some 240)), (.inl x1)] I = (if 0 ≤ I 240 31 ∧ I 240 31 < 40 then (some (0, (up (up I 257 (I 240 31).toNat x1) 240 31 (wr (I 240 31 + 1))))) else none) := by
  rw [cl_D (n := 2) (by decide +kernel) rfl, zE me_204 (by decide +kernel : kst 204 = []) 15]
  rfl
set_option maxRecDepth 20000 in
theorem e_205 {d : Nat} {I : zI} {x1 : Int} : cl (d + 1) 205 [(.inr (some 240)), (.inl x1)] I = (if 0 < I 240 31 then (if 0 ≤ (wr (I 240 31 - 1)) ∧ (wr (I 240 31 - 1)) < 40 then (if I 257 ((wr (I 240 31 - 1))).toNat = x1 then ((cl d 198 [(.inr (some 240)), (.inl x1), (.inl 0)] (up I 240 31 (wr (I 240 31 - 1)))).bind fun p1 => (if x1 = 9 then (zD (d + 1) 205 0 [(some (.inr (some 240))), (some (.inl x1))] [] (up p1.2 240 29 (wr (p1.2 240 29 - 1)))) else (zD (d + 1) 205 0 [(some (.inr (some 240))), (some (.inl x1))] [] p1.2))) else (some (0, I))) else none) else (some (0, I))) := by
  rw [cl_D (n := 2) (by decide +kernel) rfl, zE me_205 (by decide +kernel : kst 205 = [(0, 2)]) 35]
  rfl
set_option maxRecDepth 20000 in
theorem e_205_0 {d : Nat} {I : zI} {x1 : Int} : zD (d + 1) 205 0 [(some (.inr (some 240))), (some (.inl x1))] [] I = (if 0 < I 240 31 then (if 0 ≤ (wr (I 240 31 - 1)) ∧ (wr (I 240 31 - 1)) < 40 then (if I 257 ((wr (I 240 31 - 1))).toNat = x1 then ((cl d 198 [(.inr (some 240)), (.inl x1), (.inl 0)] (up I 240 31 (wr (I 240 31 - 1)))).bind fun p2 => (if x1 = 9 then (zD (d + 1) 205 0 [(some (.inr (some 240))), (some (.inl x1))] [] (up p2.2 240 29 (wr (p2.2 240 29 - 1)))) else (zD (d + 1) 205 0 [(some (.inr (some 240))), (some (.inl x1))] [] p2.2))) else (some (0, I))) else none) else (some (0, I))) := by
  rw [zE me_205 (by decide +kernel : kst 205 = [(0, 2)]) 35]
  rfl
set_option maxRecDepth 20000 in
theorem e_206 {d : Nat} {I : zI} : cl (d + 1) 206 [(.inr (some 240))] I = (zD (d + 1) 206 7 [(some (.inr (some 240))), (some (.inl 0)), (some (.inl 1))] [] (up I 240 31 0)) := by
  rw [cl_D (n := 1) (by decide +kernel) rfl, zE me_206 (by decide +kernel : kst 206 = [(7, 3), (19, 4), (39, 4)]) 136]
  rfl
set_option maxRecDepth 20000 in
theorem e_206_7 {d : Nat} {I : zI} {x1 x2 : Int} : zD (d + 1) 206 7 [(some (.inr (some 240))), (some (.inl x1)), (some (.inl x2))] [] I = (if x2 = 0 then ((cl d 196 [(.inr (some 240)), (.inl 5)] I).bind fun p1 => (if p1.1 = 0 then ((cl d 196 [(.inr (some 240)), (.inl 4)] p1.2).bind fun p2 => (if p2.1 = 0 then ((cl d 205 [(.inr (some 240)), (.inl 10)] p2.2).bind fun p3 => ((cl d 205 [(.inr (some 240)), (.inl 11)] p3.2).bind fun p4 => (if x1 = 0 then (some (0, p4.2)) else ((cl d 197 [(.inr (some 240)), (.inl 41)] p4.2).bind fun p5 => (if p5.1 = 0 then ((cl d 195 [(.inr (some 240)), (.inl 1)] p5.2).bind fun p8 => (some (p8.1, p8.2))) else ((cl d 205 [(.inr (some 240)), (.inl 9)] (up (up p5.2 240 31 (wr (p5.2 240 31 - 1))) 240 29 (wr (p5.2 240 29 - 1)))).bind fun p6 => ((cl d 194 [(.inr (some 240))] p6.2).bind fun p7 => (zD (d + 1) 206 7 [(some (.inr (some 240))), (some (.inl (wr (x1 - 1)))), (some (.inl x2))] [] p7.2)))))))) else ((cl d 205 [(.inr (some 240)), (.inl 10)] p2.2).bind fun p9 => ((cl d 205 [(.inr (some 240)), (.inl 11)] p9.2).bind fun p10 => ((cl d 204 [(.inr (some 240)), (.inl 11)] p10.2).bind fun p11 => ((cl d 194 [(.inr (some 240))] p11.2).bind fun p12 => (zD (d + 1) 206 7 [(some (.inr (some 240))), (some (.inl x1)), (some (.inl 1))] [] p12.2))))))) else ((cl d 205 [(.inr (some 240)), (.inl 10)] p1.2).bind fun p13 => ((cl d 204 [(.inr (some 240)), (.inl 10)] p13.2).bind fun p14 => ((cl d 194 [(.inr (some 240))] p14.2).bind fun p15 => (zD (d + 1) 206 7 [(some (.inr (some 240))), (some (.inl x1)), (some (.inl 1))] [] p15.2)))))) else ((cl d 196 [(.inr (some 240)), (.inl 6)] I).bind fun p16 => (if p16.1 = 0 then ((cl d 197 [(.inr (some 240)), (.inl 40)] p16.2).bind fun p17 => (if p17.1 = 0 then ((cl d 203 [(.inr (some 240))] p17.2).bind fun p18 => (if p18.1 = (-1) then (some ((-1), p18.2)) else ((cl d 205 [(.inr (some 240)), (.inl 9)] p18.2).bind fun p19 => (zD (d + 1) 206 7 [(some (.inr (some 240))), (some (.inl x1)), (some (.inl 0))] [] p19.2)))) else (zD (d + 1) 206 19 [(some (.inr (some 240))), (some (.inl x1)), (some (.inl x2)), (some (.inl p16.1))] [] p17.2))) else (zD (d + 1) 206 19 [(some (.inr (some 240))), (some (.inl x1)), (some (.inl x2)), (some (.inl p16.1))] [] p16.2)))) := by
  rw [zE me_206 (by decide +kernel : kst 206 = [(7, 3), (19, 4), (39, 4)]) 136]
  rfl
set_option maxRecDepth 20000 in
theorem e_206_19 {d : Nat} {I : zI} {x1 x2 x3 : Int} : zD (d + 1) 206 19 [(some (.inr (some 240))), (some (.inl x1)), (some (.inl x2)), (some (.inl x3))] [] I = (if I 240 29 = 8 then ((cl d 195 [(.inr (some 240)), (.inl 3)] I).bind fun p20 => (some (p20.1, p20.2))) else (if x3 = 0 then (zD (d + 1) 206 39 [(some (.inr (some 240))), (some (.inl (wr (x1 + 1)))), (some (.inl x2)), (some (.inl x3))] [] (up I 240 29 (wr (I 240 29 + 1)))) else (zD (d + 1) 206 39 [(some (.inr (some 240))), (some (.inl x1)), (some (.inl x2)), (some (.inl x3))] [] (up I 240 29 (wr (I 240 29 + 1)))))) := by
  rw [zE me_206 (by decide +kernel : kst 206 = [(7, 3), (19, 4), (39, 4)]) 136]
  rfl
set_option maxRecDepth 20000 in
theorem e_206_39 {d : Nat} {I : zI} {x1 x2 x3 : Int} : zD (d + 1) 206 39 [(some (.inr (some 240))), (some (.inl x1)), (some (.inl x2)), (some (.inl x3))] [] I = (if x3 = 0 then ((cl d 204 [(.inr (some 240)), (.inl 12)] I).bind fun p21 => ((cl d 194 [(.inr (some 240))] p21.2).bind fun p22 => (zD (d + 1) 206 7 [(some (.inr (some 240))), (some (.inl x1)), (some (.inl x2))] [] p22.2))) else ((cl d 204 [(.inr (some 240)), (.inl 9)] I).bind fun p23 => ((cl d 194 [(.inr (some 240))] p23.2).bind fun p24 => (zD (d + 1) 206 7 [(some (.inr (some 240))), (some (.inl x1)), (some (.inl x2))] [] p24.2)))) := by
  rw [zE me_206 (by decide +kernel : kst 206 = [(7, 3), (19, 4), (39, 4)]) 136]
  rfl
set_option maxRecDepth 20000 in
theorem e_207 {d : Nat} {I : zI} : cl (d + 1) 207 [(.inr (some 240))] I = (if I 240 17 = 2 then ((cl d 158 [(.inr (some 240)), (.inl (I 240 18)), (.inl 0), (.inl 2)] I).bind fun p1 => (if p1.1 = 0 then (some (0, p1.2)) else (some (1, p1.2)))) else (some (0, I))) := by
  rw [cl_D (n := 1) (by decide +kernel) rfl, zE me_207 (by decide +kernel : kst 207 = []) 17]
  rfl
set_option maxRecDepth 20000 in
theorem e_208 {d : Nat} {I : zI} : cl (d + 1) 208 [(.inr (some 240))] I = (zD (d + 1) 208 2 [(some (.inr (some 240))), (some (.inl 0))] [] I) := by
  rw [cl_D (n := 1) (by decide +kernel) rfl, zE me_208 (by decide +kernel : kst 208 = [(2, 2), (54, 3)]) 86]
  rfl
set_option maxRecDepth 20000 in
theorem e_208_2 {d : Nat} {I : zI} {x1 : Int} : zD (d + 1) 208 2 [(some (.inr (some 240))), (some (.inl x1))] [] I = ((cl d 207 [(.inr (some 240))] I).bind fun p1 => (if p1.1 = 0 then (if p1.2 240 17 = 0 then (some (x1, p1.2)) else ((cl d 195 [(.inr (some 240)), (.inl 1)] p1.2).bind fun p2 => (some (p2.1, p2.2)))) else (if x1 = 16 then ((cl d 195 [(.inr (some 240)), (.inl 3)] p1.2).bind fun p8 => (some (p8.1, p8.2))) else (if 0 ≤ (wr (32 + x1)) ∧ (wr (32 + x1)) < 48 then ((cl d 194 [(.inr (some 240))] (up p1.2 251 ((wr (32 + x1))).toNat (p1.2 240 18))).bind fun p3 => (if 0 ≤ (wr (32 + x1)) ∧ (wr (32 + x1)) < 48 then ((cl d 202 [(.inr (some 240))] (up p3.2 252 ((wr (32 + x1))).toNat (p3.2 240 28))).bind fun p4 => (if p4.1 = (-1) then (some ((-1), p4.2)) else (if 0 ≤ (wr (32 + x1)) ∧ (wr (32 + x1)) < 48 then ((cl d 196 [(.inr (some 240)), (.inl 3)] (up p4.2 253 ((wr (32 + x1))).toNat (p4.2 240 28))).bind fun p5 => (if p5.1 = 0 then (zD (d + 1) 208 54 [(some (.inr (some 240))), (some (.inl x1)), (some (.inl (wr (32 + x1))))] [] p5.2) else ((cl d 194 [(.inr (some 240))] p5.2).bind fun p6 => ((cl d 206 [(.inr (some 240))] p6.2).bind fun p7 => (if p7.1 = (-1) then (some ((-1), p7.2)) else (zD (d + 1) 208 54 [(some (.inr (some 240))), (some (.inl x1)), (some (.inl (wr (32 + x1))))] [] p7.2)))))) else none))) else none)) else none)))) := by
  rw [zE me_208 (by decide +kernel : kst 208 = [(2, 2), (54, 3)]) 86]
  rfl
set_option maxRecDepth 20000 in
theorem e_208_54 {d : Nat} {I : zI} {x1 x2 : Int} : zD (d + 1) 208 54 [(some (.inr (some 240))), (some (.inl x1)), (some (.inl x2))] [] I = (if 0 ≤ x2 ∧ x2 < 48 then ((cl d 197 [(.inr (some 240)), (.inl 59)] (up I 254 (x2).toNat (I 240 28))).bind fun p9 => (if p9.1 = 0 then ((cl d 195 [(.inr (some 240)), (.inl 1)] p9.2).bind fun p11 => (some (p11.1, p11.2))) else ((cl d 194 [(.inr (some 240))] p9.2).bind fun p10 => (zD (d + 1) 208 2 [(some (.inr (some 240))), (some (.inl (wr (x1 + 1))))] [] p10.2)))) else none) := by
  rw [zE me_208 (by decide +kernel : kst 208 = [(2, 2), (54, 3)]) 86]
  rfl
set_option maxRecDepth 20000 in
theorem e_209 {d : Nat} {I : zI} {x1 : Int} : cl (d + 1) 209 [(.inr (some 240)), (.inl x1)] I = (zD (d + 1) 209 2 [(some (.inr (some 240))), (some (.inl x1)), (some (.inl 0))] [] I) := by
  rw [cl_D (n := 2) (by decide +kernel) rfl, zE me_209 (by decide +kernel : kst 209 = [(2, 3), (69, 3)]) 114]
  rfl
set_option maxRecDepth 20000 in
theorem e_209_2 {d : Nat} {I : zI} {x1 x2 : Int} : zD (d + 1) 209 2 [(some (.inr (some 240))), (some (.inl x1)), (some (.inl x2))] [] I = (if x2 < x1 then (if 0 ≤ (wr (32 + x2)) ∧ (wr (32 + x2)) < 48 then (if 0 ≤ (wr ((wr (16 * I 240 27)) + x2)) ∧ (wr ((wr (16 * I 240 27)) + x2)) < 48 then (if 0 ≤ (wr (32 + x2)) ∧ (wr (32 + x2)) < 48 then (if 0 ≤ (wr ((wr (16 * I 240 27)) + x2)) ∧ (wr ((wr (16 * I 240 27)) + x2)) < 48 then (if 0 ≤ (wr (32 + x2)) ∧ (wr (32 + x2)) < 48 then (if 0 ≤ (wr ((wr (16 * I 240 27)) + x2)) ∧ (wr ((wr (16 * I 240 27)) + x2)) < 48 then (if 0 ≤ (wr (32 + x2)) ∧ (wr (32 + x2)) < 48 then (if 0 ≤ (wr ((wr (16 * I 240 27)) + x2)) ∧ (wr ((wr (16 * I 240 27)) + x2)) < 48 then (zD (d + 1) 209 2 [(some (.inr (some 240))), (some (.inl x1)), (some (.inl (wr (x2 + 1))))] [] (up (up (up (up I 251 ((wr ((wr (16 * I 240 27)) + x2))).toNat (I 251 ((wr (32 + x2))).toNat)) 252 ((wr ((wr (16 * I 240 27)) + x2))).toNat (I 252 ((wr (32 + x2))).toNat)) 253 ((wr ((wr (16 * I 240 27)) + x2))).toNat (I 253 ((wr (32 + x2))).toNat)) 254 ((wr ((wr (16 * I 240 27)) + x2))).toNat (I 254 ((wr (32 + x2))).toNat))) else none) else none) else none) else none) else none) else none) else none) else none) else (zD (d + 1) 209 69 [(some (.inr (some 240))), (some (.inl x1)), (some (.inl 0))] [] I)) := by
  rw [zE me_209 (by decide +kernel : kst 209 = [(2, 3), (69, 3)]) 114]
  rfl
set_option maxRecDepth 20000 in
theorem e_209_69 {d : Nat} {I : zI} {x1 x2 : Int} : zD (d + 1) 209 69 [(some (.inr (some 240))), (some (.inl x1)), (some (.inl x2))] [] I = (if x2 < I 240 28 then (if 0 ≤ (wr (800 + x2)) ∧ (wr (800 + x2)) < 1200 then (if 0 ≤ (wr ((wr (400 * I 240 27)) + x2)) ∧ (wr ((wr (400 * I 240 27)) + x2)) < 1200 then (if 0 ≤ (wr (800 + x2)) ∧ (wr (800 + x2)) < 1200 then (if 0 ≤ (wr ((wr (400 * I 240 27)) + x2)) ∧ (wr ((wr (400 * I 240 27)) + x2)) < 1200 then (zD (d + 1) 209 69 [(some (.inr (some 240))), (some (.inl x1)), (some (.inl (wr (x2 + 1))))] [] (up (up I 255 ((wr ((wr (400 * I 240 27)) + x2))).toNat (I 255 ((wr (800 + x2))).toNat)) 256 ((wr ((wr (400 * I 240 27)) + x2))).toNat (I 256 ((wr (800 + x2))).toNat))) else none) else none) else none) else none) else (if 0 ≤ I 240 27 ∧ I 240 27 < 2 then (some (0, (up I 250 (I 240 27).toNat x1))) else none)) := by
  rw [zE me_209 (by decide +kernel : kst 209 = [(2, 3), (69, 3)]) 114]
  rfl
set_option maxRecDepth 20000 in
theorem e_210 {d : Nat} {I : zI} {x1 x2 : Int} : cl (d + 1) 210 [(.inr (some 240)), (.inl x1), (.inl x2)] I = (if I 240 17 = 3 then ((cl d 158 [(.inr (some 240)), (.inl (I 240 18)), (.inl x1), (.inl x2)] I).bind fun p1 => (if p1.1 = 0 then ((cl d 195 [(.inr (some 240)), (.inl 2)] p1.2).bind fun p3 => (some (p3.1, p3.2))) else ((cl d 194 [(.inr (some 240))] p1.2).bind fun p2 => (some (p1.2 240 18, p2.2))))) else ((cl d 195 [(.inr (some 240)), (.inl 1)] I).bind fun p4 => (some (p4.1, p4.2)))) := by
  rw [cl_D (n := 3) (by decide +kernel) rfl, zE me_210 (by decide +kernel : kst 210 = []) 28]
  rfl
set_option maxRecDepth 20000 in
theorem e_211 {d : Nat} {I : zI} {x1 : Int} : cl (d + 1) 211 [(.inr (some 240)), (.inl x1)] I = ((cl d 197 [(.inr (some 240)), (.inl x1)] I).bind fun p1 => (if p1.1 = 0 then ((cl d 195 [(.inr (some 240)), (.inl 1)] p1.2).bind fun p3 => (some (p3.1, p3.2))) else ((cl d 194 [(.inr (some 240))] p1.2).bind fun p2 => (some (0, p2.2))))) := by
  rw [cl_D (n := 2) (by decide +kernel) rfl, zE me_211 (by decide +kernel : kst 211 = []) 14]
  rfl
set_option maxRecDepth 20000 in
theorem e_212 {d : Nat} {I : zI} {x1 x2 x3 : Int} : cl (d + 1) 212 [(.inr (some 240)), (.inl x1), (.inl x2), (.inl x3)] I = ((cl d 196 [(.inr (some 240)), (.inl x1)] I).bind fun p1 => (if p1.1 = 0 then ((cl d 195 [(.inr (some 240)), (.inl 1)] p1.2).bind fun p4 => (some (p4.1, p4.2))) else ((cl d 194 [(.inr (some 240))] p1.2).bind fun p2 => ((cl d 210 [(.inr (some 240)), (.inl x2), (.inl x3)] p2.2).bind fun p3 => (some (p3.1, p3.2)))))) := by
  rw [cl_D (n := 4) (by decide +kernel) rfl, zE me_212 (by decide +kernel : kst 212 = []) 17]
  rfl
set_option maxRecDepth 20000 in
theorem e_213 {d : Nat} {I : zI} {x1 : Int} : cl (d + 1) 213 [(.inr (some 240)), (.inl x1)] I = ((cl d 212 [(.inr (some 240)), (.inl 18), (.inl 0), (.inl 999)] I).bind fun p1 => (if 0 ≤ x1 ∧ x1 < 128 then (if 0 ≤ x1 ∧ x1 < 128 then (if (up p1.2 258 (x1).toNat p1.1) 258 (x1).toNat = (-1) then (some ((-1), (up p1.2 258 (x1).toNat p1.1))) else ((cl d 212 [(.inr (some 240)), (.inl 19), (.inl 0), (.inl (wr (p1.2 240 7 - 1)))] (up p1.2 258 (x1).toNat p1.1)).bind fun p2 => (if 0 ≤ (wr (x1 + 1)) ∧ (wr (x1 + 1)) < 128 then (if 0 ≤ (wr (x1 + 1)) ∧ (wr (x1 + 1)) < 128 then (if (up p2.2 258 ((wr (x1 + 1))).toNat p2.1) 258 ((wr (x1 + 1))).toNat = (-1) then (some ((-1), (up p2.2 258 ((wr (x1 + 1))).toNat p2.1))) else (if p2.2 240 17 = 2 then ((cl d 158 [(.inr (some 240)), (.inl (p2.2 240 18)), (.inl 20), (.inl 25)] (up p2.2 258 ((wr (x1 + 1))).toNat p2.1)).bind fun p4 => (if p4.1 = 0 then ((cl d 195 [(.inr (some 240)), (.inl 1)] p4.2).bind fun p11 => (some (p11.1, p11.2))) else ((cl d 194 [(.inr (some 240))] p4.2).bind fun p5 => (if 0 ≤ (wr (x1 + 2)) ∧ (wr (x1 + 2)) < 128 then (if (wr (p4.2 240 18 - 20)) = 0 then ((cl d 210 [(.inr (some 240)), (.inl 0), (.inl (wr (p5.2 240 6 - 1)))] (up p5.2 258 ((wr (x1 + 2))).toNat (wr (p4.2 240 18 - 20)))).bind fun p9 => (if 0 ≤ (wr (x1 + 3)) ∧ (wr (x1 + 3)) < 128 then (if 0 ≤ (wr (x1 + 3)) ∧ (wr (x1 + 3)) < 128 then (if (up p9.2 258 ((wr (x1 + 3))).toNat p9.1) 258 ((wr (x1 + 3))).toNat = (-1) then (some ((-1), (up p9.2 258 ((wr (x1 + 3))).toNat p9.1))) else ((cl d 211 [(.inr (some 240)), (.inl 59)] (up p9.2 258 ((wr (x1 + 3))).toNat p9.1)).bind fun p10 => (some (p10.1, p10.2)))) else none) else none)) else (if (wr (p4.2 240 18 - 20)) = 2 then ((cl d 210 [(.inr (some 240)), (.inl 0), (.inl (wr (p5.2 240 8 - 1)))] (up p5.2 258 ((wr (x1 + 2))).toNat (wr (p4.2 240 18 - 20)))).bind fun p7 => (if 0 ≤ (wr (x1 + 3)) ∧ (wr (x1 + 3)) < 128 then (if 0 ≤ (wr (x1 + 3)) ∧ (wr (x1 + 3)) < 128 then (if (up p7.2 258 ((wr (x1 + 3))).toNat p7.1) 258 ((wr (x1 + 3))).toNat = (-1) then (some ((-1), (up p7.2 258 ((wr (x1 + 3))).toNat p7.1))) else ((cl d 211 [(.inr (some 240)), (.inl 59)] (up p7.2 258 ((wr (x1 + 3))).toNat p7.1)).bind fun p8 => (some (p8.1, p8.2)))) else none) else none)) else (if 0 ≤ (wr (x1 + 3)) ∧ (wr (x1 + 3)) < 128 then (if 0 ≤ (wr (x1 + 3)) ∧ (wr (x1 + 3)) < 128 then (if (up (up p5.2 258 ((wr (x1 + 2))).toNat (wr (p4.2 240 18 - 20))) 258 ((wr (x1 + 3))).toNat 0) 258 ((wr (x1 + 3))).toNat = (-1) then (some ((-1), (up (up p5.2 258 ((wr (x1 + 2))).toNat (wr (p4.2 240 18 - 20))) 258 ((wr (x1 + 3))).toNat 0))) else ((cl d 211 [(.inr (some 240)), (.inl 59)] (up (up p5.2 258 ((wr (x1 + 2))).toNat (wr (p4.2 240 18 - 20))) 258 ((wr (x1 + 3))).toNat 0)).bind fun p6 => (some (p6.1, p6.2)))) else none) else none))) else none)))) else ((cl d 195 [(.inr (some 240)), (.inl 1)] (up p2.2 258 ((wr (x1 + 1))).toNat p2.1)).bind fun p3 => (some (p3.1, p3.2))))) else none) else none))) else none) else none)) := by
  rw [cl_D (n := 2) (by decide +kernel) rfl, zE me_213 (by decide +kernel : kst 213 = []) 114]
  rfl
set_option maxRecDepth 20000 in
theorem e_214 {d : Nat} {I : zI} : cl (d + 1) 214 [(.inr (some 240))] I = (zD (d + 1) 214 2 [(some (.inr (some 240))), (some (.inl 0))] [] I) := by
  rw [cl_D (n := 1) (by decide +kernel) rfl, zE me_214 (by decide +kernel : kst 214 = [(2, 2)]) 40]
  rfl
set_option maxRecDepth 20000 in
theorem e_214_2 {d : Nat} {I : zI} {x1 : Int} : zD (d + 1) 214 2 [(some (.inr (some 240))), (some (.inl x1))] [] I = ((cl d 196 [(.inr (some 240)), (.inl 18)] I).bind fun p1 => (if p1.1 = 0 then (if p1.2 240 17 = 0 then (some (x1, p1.2)) else ((cl d 195 [(.inr (some 240)), (.inl 1)] p1.2).bind fun p2 => (some (p2.1, p2.2)))) else (if x1 = 16 then ((cl d 195 [(.inr (some 240)), (.inl 3)] p1.2).bind fun p4 => (some (p4.1, p4.2))) else ((cl d 213 [(.inr (some 240)), (.inl (wr (64 + (wr (4 * x1)))))] p1.2).bind fun p3 => (if p3.1 = (-1) then (some ((-1), p3.2)) else (zD (d + 1) 214 2 [(some (.inr (some 240))), (some (.inl (wr (x1 + 1))))] [] p3.2)))))) := by
  rw [zE me_214 (by decide +kernel : kst 214 = [(2, 2)]) 40]
  rfl
set_option maxRecDepth 20000 in
theorem e_215 {d : Nat} {I : zI} : cl (d + 1) 215 [(.inr (some 240))] I = ((cl d 212 [(.inr (some 240)), (.inl 15), (.inl 0), (.inl 7)] I).bind fun p1 => (if p1.1 = (-1) then (some ((-1), p1.2)) else ((cl d 212 [(.inr (some 240)), (.inl 10), (.inl 0), (.inl 9)] p1.2).bind fun p2 => (if p2.1 = (-1) then (some ((-1), p2.2)) else ((cl d 212 [(.inr (some 240)), (.inl 11), (.inl 0), (.inl 9)] p2.2).bind fun p3 => (if p3.1 = (-1) then (some ((-1), p3.2)) else (if 0 ≤ (wr (8 + p1.1)) ∧ (wr (8 + p1.1)) < 16 then (if 0 ≤ (wr (8 + p1.1)) ∧ (wr (8 + p1.1)) < 16 then ((cl d 211 [(.inr (some 240)), (.inl 59)] (up (up p3.2 259 ((wr (8 + p1.1))).toNat p2.1) 260 ((wr (8 + p1.1))).toNat (wr (p3.1 - 5)))).bind fun p4 => (some (p4.1, p4.2))) else none) else none))))))) := by
  rw [cl_D (n := 1) (by decide +kernel) rfl, zE me_215 (by decide +kernel : kst 215 = []) 55]
  rfl
set_option maxRecDepth 20000 in
theorem e_216 {d : Nat} {I : zI} : cl (d + 1) 216 [(.inr (some 240))] I = (zD (d + 1) 216 2 [(some (.inr (some 240))), (some (.inl 0))] [] I) := by
  rw [cl_D (n := 1) (by decide +kernel) rfl, zE me_216 (by decide +kernel : kst 216 = [(2, 2), (23, 2)]) 56]
  rfl
set_option maxRecDepth 20000 in
theorem e_216_2 {d : Nat} {I : zI} {x1 : Int} : zD (d + 1) 216 2 [(some (.inr (some 240))), (some (.inl x1))] [] I = (if x1 < 8 then (if 0 ≤ (wr (8 + x1)) ∧ (wr (8 + x1)) < 16 then (if 0 ≤ (wr (8 + x1)) ∧ (wr (8 + x1)) < 16 then (zD (d + 1) 216 2 [(some (.inr (some 240))), (some (.inl (wr (x1 + 1))))] [] (up (up I 259 ((wr (8 + x1))).toNat 0) 260 ((wr (8 + x1))).toNat 0)) else none) else none) else (zD (d + 1) 216 23 [(some (.inr (some 240))), (some (.inl 0))] [] I)) := by
  rw [zE me_216 (by decide +kernel : kst 216 = [(2, 2), (23, 2)]) 56]
  rfl
set_option maxRecDepth 20000 in
theorem e_216_23 {d : Nat} {I : zI} {x1 : Int} : zD (d + 1) 216 23 [(some (.inr (some 240))), (some (.inl x1))] [] I = ((cl d 196 [(.inr (some 240)), (.inl 15)] I).bind fun p1 => (if p1.1 = 0 then (if p1.2 240 17 = 0 then (some (x1, p1.2)) else ((cl d 195 [(.inr (some 240)), (.inl 1)] p1.2).bind fun p2 => (some (p2.1, p2.2)))) else (if x1 = 16 then ((cl d 195 [(.inr (some 240)), (.inl 3)] p1.2).bind fun p4 => (some (p4.1, p4.2))) else ((cl d 215 [(.inr (some 240))] p1.2).bind fun p3 => (if p3.1 = (-1) then (some ((-1), p3.2)) else (zD (d + 1) 216 23 [(some (.inr (some 240))), (some (.inl (wr (x1 + 1))))] [] p3.2)))))) := by
  rw [zE me_216 (by decide +kernel : kst 216 = [(2, 2), (23, 2)]) 56]
  rfl
set_option maxRecDepth 20000 in
theorem e_217 {d : Nat} {I : zI} : cl (d + 1) 217 [(.inr (some 240))] I = ((cl d 212 [(.inr (some 240)), (.inl 16), (.inl 0), (.inl (wr (I 240 8 - 1)))] I).bind fun p1 => (if p1.1 = (-1) then (some ((-1), p1.2)) else ((cl d 212 [(.inr (some 240)), (.inl 26), (.inl 0), (.inl (wr (p1.1 - 1)))] p1.2).bind fun p2 => (if p2.1 = (-1) then (some ((-1), p2.2)) else (if 0 ≤ (wr (12 + p1.1)) ∧ (wr (12 + p1.1)) < 24 then (if 0 ≤ (wr (12 + p1.1)) ∧ (wr (12 + p1.1)) < 24 then ((cl d 211 [(.inr (some 240)), (.inl 59)] (up p2.2 261 ((wr (12 + p1.1))).toNat (zor (p2.2 261 ((wr (12 + p1.1))).toNat) (zshl 1 p2.1)))).bind fun p3 => (some (p3.1, p3.2))) else none) else none))))) := by
  rw [cl_D (n := 1) (by decide +kernel) rfl, zE me_217 (by decide +kernel : kst 217 = []) 49]
  rfl
set_option maxRecDepth 20000 in
theorem e_218 {d : Nat} {I : zI} : cl (d + 1) 218 [(.inr (some 240))] I = (zD (d + 1) 218 2 [(some (.inr (some 240))), (some (.inl 0))] [] I) := by
  rw [cl_D (n := 1) (by decide +kernel) rfl, zE me_218 (by decide +kernel : kst 218 = [(2, 2), (16, 2)]) 49]
  rfl
set_option maxRecDepth 20000 in
theorem e_218_2 {d : Nat} {I : zI} {x1 : Int} : zD (d + 1) 218 2 [(some (.inr (some 240))), (some (.inl x1))] [] I = (if x1 < 12 then (if 0 ≤ (wr (12 + x1)) ∧ (wr (12 + x1)) < 24 then (zD (d + 1) 218 2 [(some (.inr (some 240))), (some (.inl (wr (x1 + 1))))] [] (up I 261 ((wr (12 + x1))).toNat 0)) else none) else (zD (d + 1) 218 16 [(some (.inr (some 240))), (some (.inl 0))] [] I)) := by
  rw [zE me_218 (by decide +kernel : kst 218 = [(2, 2), (16, 2)]) 49]
  rfl
set_option maxRecDepth 20000 in
theorem e_218_16 {d : Nat} {I : zI} {x1 : Int} : zD (d + 1) 218 16 [(some (.inr (some 240))), (some (.inl x1))] [] I = ((cl d 196 [(.inr (some 240)), (.inl 16)] I).bind fun p1 => (if p1.1 = 0 then (if p1.2 240 17 = 0 then (some (x1, p1.2)) else ((cl d 195 [(.inr (some 240)), (.inl 1)] p1.2).bind fun p2 => (some (p2.1, p2.2)))) else (if x1 = 16 then ((cl d 195 [(.inr (some 240)), (.inl 3)] p1.2).bind fun p4 => (some (p4.1, p4.2))) else ((cl d 217 [(.inr (some 240))] p1.2).bind fun p3 => (if p3.1 = (-1) then (some ((-1), p3.2)) else (zD (d + 1) 218 16 [(some (.inr (some 240))), (some (.inl (wr (x1 + 1))))] [] p3.2)))))) := by
  rw [zE me_218 (by decide +kernel : kst 218 = [(2, 2), (16, 2)]) 49]
  rfl
set_option maxRecDepth 20000 in
theorem e_219 {d : Nat} {I : zI} {x1 : Int} : cl (d + 1) 219 [(.inr (some 240)), (.inl x1)] I = ((cl d 194 [(.inr (some 240))] (up I 240 27 0)).bind fun p1 => (if x1 = 1 then ((cl d 214 [(.inr (some 240))] p1.2).bind fun p5 => (some (p5.1, p5.2))) else (if x1 = 2 then ((cl d 216 [(.inr (some 240))] p1.2).bind fun p4 => (some (p4.1, p4.2))) else (if x1 = 3 then ((cl d 218 [(.inr (some 240))] p1.2).bind fun p3 => (some (p3.1, p3.2))) else ((cl d 208 [(.inr (some 240))] p1.2).bind fun p2 => (some (p2.1, p2.2))))))) := by
  rw [cl_D (n := 2) (by decide +kernel) rfl, zE me_219 (by decide +kernel : kst 219 = []) 28]
  rfl
set_option maxRecDepth 20000 in
theorem e_220 {d : Nat} {I : zI} {x1 x2 : Int} : cl (d + 1) 220 [(.inr (some 240)), (.inl x1), (.inl x2)] I = (if x1 = 1 then (zD (d + 1) 220 5 [(some (.inr (some 240))), (some (.inl x1)), (some (.inl x2)), (some (.inl 0))] [] I) else (if x1 = 2 then (zD (d + 1) 220 33 [(some (.inr (some 240))), (some (.inl x1)), (some (.inl x2)), (some (.inl 0))] [] I) else (if x1 = 3 then (zD (d + 1) 220 66 [(some (.inr (some 240))), (some (.inl x1)), (some (.inl x2)), (some (.inl 0))] [] I) else (some (0, I))))) := by
  rw [cl_D (n := 3) (by decide +kernel) rfl, zE me_220 (by decide +kernel : kst 220 = [(5, 4), (33, 4), (66, 4)]) 87]
  rfl
set_option maxRecDepth 20000 in
theorem e_220_66 {d : Nat} {I : zI} {x2 x3 : Int} {w1 : Option zV} : zD (d + 1) 220 66 [(some (.inr (some 240))), w1, (some (.inl x2)), (some (.inl x3))] [] I = (if x3 < 12 then (if 0 ≤ (wr (12 + x3)) ∧ (wr (12 + x3)) < 24 then (if 0 ≤ x3 ∧ x3 < 24 then (zD (d + 1) 220 66 [(some (.inr (some 240))), w1, (some (.inl x2)), (some (.inl (wr (x3 + 1))))] [] (up I 261 (x3).toNat (I 261 ((wr (12 + x3))).toNat))) else none) else none) else (some (0, (up I 240 41 x2)))) := by
  rw [zE me_220 (by decide +kernel : kst 220 = [(5, 4), (33, 4), (66, 4)]) 87]
  rfl
set_option maxRecDepth 20000 in
theorem e_220_33 {d : Nat} {I : zI} {x1 x2 x3 : Int} : zD (d + 1) 220 33 [(some (.inr (some 240))), (some (.inl x1)), (some (.inl x2)), (some (.inl x3))] [] I = (if x3 < 8 then (if 0 ≤ (wr (8 + x3)) ∧ (wr (8 + x3)) < 16 then (if 0 ≤ x3 ∧ x3 < 16 then (if 0 ≤ (wr (8 + x3)) ∧ (wr (8 + x3)) < 16 then (if 0 ≤ x3 ∧ x3 < 16 then (zD (d + 1) 220 33 [(some (.inr (some 240))), (some (.inl x1)), (some (.inl x2)), (some (.inl (wr (x3 + 1))))] [] (up (up I 259 (x3).toNat (I 259 ((wr (8 + x3))).toNat)) 260 (x3).toNat (I 260 ((wr (8 + x3))).toNat))) else none) else none) else none) else none) else (if x1 = 3 then (zD (d + 1) 220 66 [(some (.inr (some 240))), (some (.inl x1)), (some (.inl x2)), (some (.inl 0))] [] (up I 240 38 x2)) else (some (0, (up I 240 38 x2))))) := by
  rw [zE me_220 (by decide +kernel : kst 220 = [(5, 4), (33, 4), (66, 4)]) 87]
  rfl
set_option maxRecDepth 20000 in
theorem e_220_5 {d : Nat} {I : zI} {x1 x2 x3 : Int} : zD (d + 1) 220 5 [(some (.inr (some 240))), (some (.inl x1)), (some (.inl x2)), (some (.inl x3))] [] I = (if x3 < (wr (4 * x2)) then (if 0 ≤ (wr (64 + x3)) ∧ (wr (64 + x3)) < 128 then (if 0 ≤ x3 ∧ x3 < 128 then (zD (d + 1) 220 5 [(some (.inr (some 240))), (some (.inl x1)), (some (.inl x2)), (some (.inl (wr (x3 + 1))))] [] (up I 258 (x3).toNat (I 258 ((wr (64 + x3))).toNat))) else none) else none) else (if x1 = 2 then (zD (d + 1) 220 33 [(some (.inr (some 240))), (some (.inl x1)), (some (.inl x2)), (some (.inl 0))] [] (up (up I 240 36 x2) 240 3 0)) else (if x1 = 3 then (zD (d + 1) 220 66 [(some (.inr (some 240))), (some (.inl x1)), (some (.inl x2)), (some (.inl 0))] [] (up (up I 240 36 x2) 240 3 0)) else (some (0, (up (up I 240 36 x2) 240 3 0)))))) := by
  rw [zE me_220 (by decide +kernel : kst 220 = [(5, 4), (33, 4), (66, 4)]) 87]
  rfl
set_option maxRecDepth 20000 in
theorem e_221 {d : Nat} {I : zI} {x1 : Int} : cl (d + 1) 221 [(.inr (some 240)), (.inl x1)] I = ((cl d 158 [(.inr (some 240)), (.inl x1), (.inl 0), (.inl 3)] (up (up (up (up (up (up I 240 0 0) 240 34 0) 240 35 (-1)) 240 15 0) 240 28 0) 240 29 0)).bind fun p1 => (if p1.1 = 0 then (zD (d + 1) 221 41 [(some (.inr (some 240))), (some (.inl x1)), (some (.inl (-1)))] [] p1.2) else ((cl d 219 [(.inr (some 240)), (.inl x1)] p1.2).bind fun p2 => (if p2.1 = (-1) then (zD (d + 1) 221 41 [(some (.inr (some 240))), (some (.inl x1)), (some (.inl p2.1))] [] (up (up p2.2 240 34 (p2.2 240 32)) 240 35 (p2.2 240 33))) else (zD (d + 1) 221 41 [(some (.inr (some 240))), (some (.inl x1)), (some (.inl p2.1))] [] p2.2))))) := by
  rw [cl_D (n := 2) (by decide +kernel) rfl, zE me_221 (by decide +kernel : kst 221 = [(41, 3)]) 63]
  rfl
set_option maxRecDepth 20000 in
theorem e_221_41 {d : Nat} {I : zI} {x1 x2 : Int} : zD (d + 1) 221 41 [(some (.inr (some 240))), (some (.inl x1)), (some (.inl x2))] [] I = (if x2 = (-1) then (some ((-1), (up I 240 14 0))) else (if x1 = 0 then ((cl d 209 [(.inr (some 240)), (.inl x2)] (up I 240 14 0)).bind fun p4 => (some (x2, p4.2))) else ((cl d 220 [(.inr (some 240)), (.inl x1), (.inl x2)] (up I 240 14 0)).bind fun p3 => (some (x2, p3.2))))) := by
  rw [zE me_221 (by decide +kernel : kst 221 = [(41, 3)]) 63]
  rfl
set_option maxRecDepth 20000 in
theorem e_222 {d : Nat} {I : zI} {x1 : Int} : cl (d + 1) 222 [(.inr (some 240)), (.inl x1)] I = (if x1 = 0 then (some (I 240 34, (up I 240 0 0))) else (if x1 = 1 then (some (I 240 35, (up I 240 0 0))) else (some ((-1), (up I 240 0 0))))) := by
  rw [cl_D (n := 2) (by decide +kernel) rfl, zE me_222 (by decide +kernel : kst 222 = []) 18]
  rfl
set_option maxRecDepth 20000 in
theorem e_223 {d : Nat} {I : zI} {x1 x2 x3 : Int} : cl (d + 1) 223 [(.inr (some 240)), (.inl x1), (.inl x2), (.inl x3)] I = (if x1 = 2 then (some ((wr (x2 + x3)), I)) else (if x1 = 3 then (some ((wr (x2 - x3)), I)) else (if x1 = 4 then (some ((wr (x2 * x3)), I)) else (if x1 = 5 then (if x3 = 0 then none else (some ((zdiv x2 x3), I))) else (if x1 = 6 then (if x2 < x3 then (some (1, I)) else (some (0, I))) else (if x1 = 7 then (if x2 = x3 then (some (1, I)) else (some (0, I))) else (if x1 = 8 then (if x3 < x2 then (some (1, I)) else (some (0, I))) else (if x1 = 10 then (some ((wr (x2 * x3)), I)) else (if 0 < (wr (x2 + x3)) then (some (1, I)) else (some (0, I))))))))))) := by
  rw [cl_D (n := 4) (by decide +kernel) rfl, zE me_223 (by decide +kernel : kst 223 = []) 75]
  rfl
set_option maxRecDepth 20000 in
theorem e_224 {d : Nat} {I : zI} {x1 x2 x3 : Int} : cl (d + 1) 224 [(.inr (some 240)), (.inl x1), (.inl x2), (.inl x3)] I = (zD (d + 1) 224 8 [(some (.inr (some 240))), (some (.inl x1)), (some (.inl x2)), (some (.inl x3)), (some (.inl 0)), (some (.inl (wr ((wr (400 * x1)) + x2))))] [] I) := by
  rw [cl_D (n := 4) (by decide +kernel) rfl, zE me_224 (by decide +kernel : kst 224 = [(8, 6), (26, 6)]) 108]
  rfl
set_option maxRecDepth 20000 in
theorem e_224_8 {d : Nat} {I : zI} {x1 x3 x4 x5 : Int} {w2 : Option zV} : zD (d + 1) 224 8 [(some (.inr (some 240))), (some (.inl x1)), w2, (some (.inl x3)), (some (.inl x4)), (some (.inl x5))] [] I = (if x5 < (wr ((wr (400 * x1)) + x3)) then (if 0 ≤ x5 ∧ x5 < 1200 then (if I 255 (x5).toNat = 0 then (zD (d + 1) 224 26 [(some (.inr (some 240))), (some (.inl x1)), w2, (some (.inl x3)), (some (.inl x4)), (some (.inl x5))] [] I) else (if 0 ≤ x5 ∧ x5 < 1200 then (if I 255 (x5).toNat = 1 then (zD (d + 1) 224 26 [(some (.inr (some 240))), (some (.inl x1)), w2, (some (.inl x3)), (some (.inl x4)), (some (.inl x5))] [] I) else (if 0 ≤ x5 ∧ x5 < 1200 then (if I 255 (x5).toNat = 9 then (if 0 ≤ (wr (x4 - 1)) ∧ (wr (x4 - 1)) < 420 then (if 0 ≤ (wr (x4 - 1)) ∧ (wr (x4 - 1)) < 420 then (zD (d + 1) 224 8 [(some (.inr (some 240))), (some (.inl x1)), w2, (some (.inl x3)), (some (.inl x4)), (some (.inl (wr (x5 + 1))))] [] (up I 263 ((wr (x4 - 1))).toNat (wr (1 - I 263 ((wr (x4 - 1))).toNat)))) else none) else none) else (if 0 ≤ x5 ∧ x5 < 1200 then (if 0 ≤ (wr ((wr (x4 - 1)) - 1)) ∧ (wr ((wr (x4 - 1)) - 1)) < 420 then (if 0 ≤ (wr (x4 - 1)) ∧ (wr (x4 - 1)) < 420 then ((cl d 223 [(.inr (some 240)), (.inl (I 255 (x5).toNat)), (.inl (I 263 ((wr ((wr (x4 - 1)) - 1))).toNat)), (.inl (I 263 ((wr (x4 - 1))).toNat))] I).bind fun p1 => (if 0 ≤ (wr ((wr (x4 - 1)) - 1)) ∧ (wr ((wr (x4 - 1)) - 1)) < 420 then (zD (d + 1) 224 8 [(some (.inr (some 240))), (some (.inl x1)), w2, (some (.inl x3)), (some (.inl (wr (x4 - 1)))), (some (.inl (wr (x5 + 1))))] [] (up p1.2 263 ((wr ((wr (x4 - 1)) - 1))).toNat p1.1)) else none)) else none) else none) else none)) else none)) else none)) else none) else (some (I 263 0, I))) := by
  rw [zE me_224 (by decide +kernel : kst 224 = [(8, 6), (26, 6)]) 108]
  rfl
set_option maxRecDepth 20000 in
theorem e_224_26 {d : Nat} {I : zI} {x1 x3 x4 x5 : Int} {w2 : Option zV} : zD (d + 1) 224 26 [(some (.inr (some 240))), (some (.inl x1)), w2, (some (.inl x3)), (some (.inl x4)), (some (.inl x5))] [] I = (if 0 ≤ x5 ∧ x5 < 1200 then (if I 255 (x5).toNat = 0 then (if 0 ≤ x5 ∧ x5 < 1200 then (if 0 ≤ x4 ∧ x4 < 420 then (zD (d + 1) 224 8 [(some (.inr (some 240))), (some (.inl x1)), w2, (some (.inl x3)), (some (.inl (wr (x4 + 1)))), (some (.inl (wr (x5 + 1))))] [] (up I 263 (x4).toNat (I 256 (x5).toNat))) else none) else none) else (if 0 ≤ x5 ∧ x5 < 1200 then (if 0 ≤ I 256 (x5).toNat ∧ I 256 (x5).toNat < 11 then (if 0 ≤ x4 ∧ x4 < 420 then (zD (d + 1) 224 8 [(some (.inr (some 240))), (some (.inl x1)), w2, (some (.inl x3)), (some (.inl (wr (x4 + 1)))), (some (.inl (wr (x5 + 1))))] [] (up I 263 (x4).toNat (I 262 (I 256 (x5).toNat).toNat))) else none) else none) else none)) else none) := by
  rw [zE me_224 (by decide +kernel : kst 224 = [(8, 6), (26, 6)]) 108]
  rfl
set_option maxRecDepth 20000 in
theorem e_225 {d : Nat} {I : zI} {x1 : Int} : cl (d + 1) 225 [(.inr (some 240)), (.inl x1)] I = (zD (d + 1) 225 2 [(some (.inr (some 240))), (some (.inl x1)), (some (.inl 0))] [] I) := by
  rw [cl_D (n := 2) (by decide +kernel) rfl, zE me_225 (by decide +kernel : kst 225 = [(2, 3)]) 43]
  rfl
set_option maxRecDepth 20000 in
theorem e_225_2 {d : Nat} {I : zI} {x1 x2 : Int} : zD (d + 1) 225 2 [(some (.inr (some 240))), (some (.inl x1)), (some (.inl x2))] [] I = (if x2 < I 250 0 then (if 0 ≤ x2 ∧ x2 < 48 then (if I 251 (x2).toNat = x1 then (if 0 ≤ x2 ∧ x2 < 48 then (if 0 ≤ x2 ∧ x2 < 48 then (if I 253 (x2).toNat = I 254 (x2).toNat then (some (x2, I)) else (if 0 ≤ x2 ∧ x2 < 48 then (if 0 ≤ x2 ∧ x2 < 48 then ((cl d 224 [(.inr (some 240)), (.inl 0), (.inl (I 253 (x2).toNat)), (.inl (I 254 (x2).toNat))] I).bind fun p1 => (if p1.1 = 0 then (zD (d + 1) 225 2 [(some (.inr (some 240))), (some (.inl x1)), (some (.inl (wr (x2 + 1))))] [] p1.2) else (some (x2, p1.2)))) else none) else none)) else none) else none) else (zD (d + 1) 225 2 [(some (.inr (some 240))), (some (.inl x1)), (some (.inl (wr (x2 + 1))))] [] I)) else none) else (some ((-1), I))) := by
  rw [zE me_225 (by decide +kernel : kst 225 = [(2, 3)]) 43]
  rfl
set_option maxRecDepth 20000 in
theorem e_226 {d : Nat} {I : zI} {x1 : Int} : cl (d + 1) 226 [(.inr (some 240)), (.inl x1)] I = (if 0 ≤ x1 ∧ x1 < 16 then (some ((wr (I 260 (x1).toNat + 5)), I)) else none) := by
  rw [cl_D (n := 2) (by decide +kernel) rfl, zE me_226 (by decide +kernel : kst 226 = []) 9]
  rfl
set_option maxRecDepth 20000 in
theorem e_227 {d : Nat} {I : zI} {x1 : Int} : cl (d + 1) 227 [(.inr (some 240)), (.inl x1)] I = ((cl d 175 [(.inr (some 240)), (.inl x1)] I).bind fun p1 => ((cl d 176 [(.inr (some 240)), (.inl x1)] p1.2).bind fun p2 => (if 0 ≤ x1 ∧ x1 < 10 then (if p1.1 = (-1) then (zD (d + 1) 227 30 [(some (.inr (some 240))), (some (.inl x1)), (some (.inl p1.1)), (some (.inl p2.1))] [(.inl 0), (.inl 1), (.inr (some 262))] (up p2.2 262 0 (p2.2 245 (x1).toNat))) else (if 0 ≤ (wr (4 + p1.1)) ∧ (wr (4 + p1.1)) < 110 then (zD (d + 1) 227 30 [(some (.inr (some 240))), (some (.inl x1)), (some (.inl p1.1)), (some (.inl p2.1))] [(.inl (p2.2 241 ((wr (4 + p1.1))).toNat)), (.inl 1), (.inr (some 262))] (up p2.2 262 0 (p2.2 245 (x1).toNat))) else none)) else none))) := by
  rw [cl_D (n := 2) (by decide +kernel) rfl, zE me_227 (by decide +kernel : kst 227 = [(30, 4), (45, 4), (61, 4), (76, 4), (96, 4), (127, 4)]) 144]
  rfl
set_option maxRecDepth 20000 in
theorem e_227_30 {d : Nat} {I : zI} {x1 x2 x3 s2 : Int} : zD (d + 1) 227 30 [(some (.inr (some 240))), (some (.inl x1)), (some (.inl x2)), (some (.inl x3))] [(.inl s2), (.inl 1), (.inr (some 262))] I = (if x2 = (-1) then (zD (d + 1) 227 45 [(some (.inr (some 240))), (some (.inl x1)), (some (.inl x2)), (some (.inl x3))] [(.inl 0), (.inl 2), (.inr (some 262))] (up I 262 1 s2)) else (if 0 ≤ (wr (18 + x2)) ∧ (wr (18 + x2)) < 110 then (zD (d + 1) 227 45 [(some (.inr (some 240))), (some (.inl x1)), (some (.inl x2)), (some (.inl x3))] [(.inl (I 241 ((wr (18 + x2))).toNat)), (.inl 2), (.inr (some 262))] (up I 262 1 s2)) else none)) := by
  rw [zE me_227 (by decide +kernel : kst 227 = [(30, 4), (45, 4), (61, 4), (76, 4), (96, 4), (127, 4)]) 144]
  rfl
set_option maxRecDepth 20000 in
theorem e_227_45 {d : Nat} {I : zI} {x1 x2 x3 s2 : Int} : zD (d + 1) 227 45 [(some (.inr (some 240))), (some (.inl x1)), (some (.inl x2)), (some (.inl x3))] [(.inl s2), (.inl 2), (.inr (some 262))] I = (if x2 = (-1) then (zD (d + 1) 227 61 [(some (.inr (some 240))), (some (.inl x1)), (some (.inl x2)), (some (.inl x3))] [(.inl 0), (.inl 3), (.inr (some 262))] (up I 262 2 s2)) else (if 0 ≤ x2 ∧ x2 < 14 then (if 0 ≤ I 244 (x2).toNat ∧ I 244 (x2).toNat < 16 then (zD (d + 1) 227 61 [(some (.inr (some 240))), (some (.inl x1)), (some (.inl x2)), (some (.inl x3))] [(.inl (I 259 (I 244 (x2).toNat).toNat)), (.inl 3), (.inr (some 262))] (up I 262 2 s2)) else none) else none)) := by
  rw [zE me_227 (by decide +kernel : kst 227 = [(30, 4), (45, 4), (61, 4), (76, 4), (96, 4), (127, 4)]) 144]
  rfl
set_option maxRecDepth 20000 in
theorem e_227_61 {d : Nat} {I : zI} {x1 x2 x3 s2 : Int} : zD (d + 1) 227 61 [(some (.inr (some 240))), (some (.inl x1)), (some (.inl x2)), (some (.inl x3))] [(.inl s2), (.inl 3), (.inr (some 262))] I = (if x2 = (-1) then (zD (d + 1) 227 76 [(some (.inr (some 240))), (some (.inl x1)), (some (.inl x2)), (some (.inl x3))] [(.inl 0), (.inl 4), (.inr (some 262))] (up I 262 3 s2)) else (if 0 ≤ x2 ∧ x2 < 14 then ((cl d 226 [(.inr (some 240)), (.inl (I 244 (x2).toNat))] (up I 262 3 s2)).bind fun p3 => (zD (d + 1) 227 76 [(some (.inr (some 240))), (some (.inl x1)), (some (.inl x2)), (some (.inl x3))] [(.inl p3.1), (.inl 4), (.inr (some 262))] p3.2)) else none)) := by
  rw [zE me_227 (by decide +kernel : kst 227 = [(30, 4), (45, 4), (61, 4), (76, 4), (96, 4), (127, 4)]) 144]
  rfl
set_option maxRecDepth 20000 in
theorem e_227_76 {d : Nat} {I : zI} {x1 x2 x3 s2 : Int} : zD (d + 1) 227 76 [(some (.inr (some 240))), (some (.inl x1)), (some (.inl x2)), (some (.inl x3))] [(.inl s2), (.inl 4), (.inr (some 262))] I = (if x3 = (-1) then (zD (d + 1) 227 96 [(some (.inr (some 240))), (some (.inl x1)), (some (.inl x2)), (some (.inl x3))] [(.inl 0), (.inl 5), (.inr (some 262))] (up I 262 4 s2)) else (if 0 ≤ x3 ∧ x3 < 12 then (if 0 ≤ (wr (86 + x3)) ∧ (wr (86 + x3)) < 110 then (zD (d + 1) 227 96 [(some (.inr (some 240))), (some (.inl x1)), (some (.inl x2)), (some (.inl x3))] [(.inl (wr (I 246 (x3).toNat - I 241 ((wr (86 + x3))).toNat))), (.inl 5), (.inr (some 262))] (up I 262 4 s2)) else none) else none)) := by
  rw [zE me_227 (by decide +kernel : kst 227 = [(30, 4), (45, 4), (61, 4), (76, 4), (96, 4), (127, 4)]) 144]
  rfl
set_option maxRecDepth 20000 in
theorem e_227_96 {d : Nat} {I : zI} {x1 x2 x3 s2 : Int} : zD (d + 1) 227 96 [(some (.inr (some 240))), (some (.inl x1)), (some (.inl x2)), (some (.inl x3))] [(.inl s2), (.inl 5), (.inr (some 262))] I = (if 0 ≤ (wr (76 + x1)) ∧ (wr (76 + x1)) < 110 then (if x2 = (-1) then (zD (d + 1) 227 127 [(some (.inr (some 240))), (some (.inl x1)), (some (.inl x2)), (some (.inl x3))] [(.inl 0), (.inl 8), (.inr (some 262))] (up (up (up I 262 5 s2) 262 6 (I 241 ((wr (76 + x1))).toNat)) 262 7 (I 241 3))) else (if 0 ≤ x2 ∧ x2 < 14 then (zD (d + 1) 227 127 [(some (.inr (some 240))), (some (.inl x1)), (some (.inl x2)), (some (.inl x3))] [(.inl (I 244 (x2).toNat)), (.inl 8), (.inr (some 262))] (up (up (up I 262 5 s2) 262 6 (I 241 ((wr (76 + x1))).toNat)) 262 7 (I 241 3))) else none)) else none) := by
  rw [zE me_227 (by decide +kernel : kst 227 = [(30, 4), (45, 4), (61, 4), (76, 4), (96, 4), (127, 4)]) 144]
  rfl
set_option maxRecDepth 20000 in
theorem e_227_127 {d : Nat} {I : zI} {x3 s2 : Int} {w1 w2 : Option zV} : zD (d + 1) 227 127 [(some (.inr (some 240))), w1, w2, (some (.inl x3))] [(.inl s2), (.inl 8), (.inr (some 262))] I = (some (0, (up (up (up I 262 8 s2) 262 9 x3) 262 10 (I 241 0)))) := by
  rw [zE me_227 (by decide +kernel : kst 227 = [(30, 4), (45, 4), (61, 4), (76, 4), (96, 4), (127, 4)]) 144]
  rfl
