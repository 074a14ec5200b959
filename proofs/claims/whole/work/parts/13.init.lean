def kc_X11_init (h : kH) (a : Nat) : kH := (uP (uN (uP (uN (uP (uN (uP (uN (uP (uN (uP (uN (uP (uN (uP (uN (uP (uN (uP (uN (uP (uN (uP (uN (uP (uN (uP (uN (uP (uN (uP (uN (uP (uN (uP (uN (uP (uN (uP (uN (uP (uN (uP (uN (uP (uN (uP (uN (uP (uN (uI (uP (uN (uP (uN (uP (uN (uP (uN (uP (uN (uP (uN (uP (uN (uP (uN (uP (uI (uI (uI (uI (uI (uI (uI (uI (uI (uI (uI (uI (uI (uI (uI (uI (uI (uI (uI (uI (uI (uI (uI (uI (uI (uI (uI (uI (uI (uI (uI (uI (uI (uI (uI (uI (uI (uI (uI (uI (uI (uI (uI (uI (uI (uI (uI (uI (uI (uI (uI (uI (uI (uI (uI (uI (uI (uI (uI (uI (uI (uI (uI (uI (uI (uI (uI (uI (uI (uI (uI (uI (uI (uI (uI (uI (uI (uI (uI (uI (uI (uI (uI (uI (uI (uI (uI (uI (uI (uI (uI (uI (uI (uI (uI (uI (uI (uI (uI (uI (uI (uI (uI (uI (uI (uI (uI (uI (uI (uI (uI (uI (uI (uI (uI (uI (uI (uI (uI (uI (uI (uI (uI (uI (uI (uI (uI (uI (uI (uI (uI (uI (uI (uI (uI (uI (uI (uI (uN (uP (uN (uP (uN (uP (uN (uP (uN (uP (uN (uP (uN (uP (uN (uP (uN h 1 110) a 1 (some (hn h))) 1 660) a 2 (some (hn h + 1))) 1 110) a 4 (some (hn h + 2))) 1 14) a 9 (some (hn h + 3))) 1 10) a 10 (some (hn h + 4))) 1 12) a 11 (some (hn h + 5))) 1 600) a 12 (some (hn h + 6))) 1 400) a 13 (some (hn h + 7))) 1 138) (hn h + 8) 0 (Int32.ofInt 32)) (hn h + 8) 1 (Int32.ofInt 119)) (hn h + 8) 2 (Int32.ofInt 114)) (hn h + 8) 3 (Int32.ofInt 105)) (hn h + 8) 4 (Int32.ofInt 116)) (hn h + 8) 5 (Int32.ofInt 101)) (hn h + 8) 6 (Int32.ofInt 115)) (hn h + 8) 7 (Int32.ofInt 32)) (hn h + 8) 8 (Int32.ofInt 98)) (hn h + 8) 9 (Int32.ofInt 108)) (hn h + 8) 10 (Int32.ofInt 111)) (hn h + 8) 11 (Int32.ofInt 116)) (hn h + 8) 12 (Int32.ofInt 115)) (hn h + 8) 13 (Int32.ofInt 32)) (hn h + 8) 14 (Int32.ofInt 108)) (hn h + 8) 15 (Int32.ofInt 105)) (hn h + 8) 16 (Int32.ofInt 102)) (hn h + 8) 17 (Int32.ofInt 116)) (hn h + 8) 18 (Int32.ofInt 115)) (hn h + 8) 19 (Int32.ofInt 32)) (hn h + 8) 20 (Int32.ofInt 119)) (hn h + 8) 21 (Int32.ofInt 104)) (hn h + 8) 22 (Int32.ofInt 101)) (hn h + 8) 23 (Int32.ofInt 110)) (hn h + 8) 24 (Int32.ofInt 32)) (hn h + 8) 25 (Int32.ofInt 111)) (hn h + 8) 26 (Int32.ofInt 114)) (hn h + 8) 27 (Int32.ofInt 32)) (hn h + 8) 28 (Int32.ofInt 97)) (hn h + 8) 29 (Int32.ofInt 110)) (hn h + 8) 30 (Int32.ofInt 100)) (hn h + 8) 31 (Int32.ofInt 32)) (hn h + 8) 32 (Int32.ofInt 110)) (hn h + 8) 33 (Int32.ofInt 111)) (hn h + 8) 34 (Int32.ofInt 116)) (hn h + 8) 35 (Int32.ofInt 32)) (hn h + 8) 36 (Int32.ofInt 104)) (hn h + 8) 37 (Int32.ofInt 97)) (hn h + 8) 38 (Int32.ofInt 110)) (hn h + 8) 39 (Int32.ofInt 100)) (hn h + 8) 40 (Int32.ofInt 32)) (hn h + 8) 41 (Int32.ofInt 105)) (hn h + 8) 42 (Int32.ofInt 110)) (hn h + 8) 43 (Int32.ofInt 107)) (hn h + 8) 44 (Int32.ofInt 32)) (hn h + 8) 45 (Int32.ofInt 119)) (hn h + 8) 46 (Int32.ofInt 111)) (hn h + 8) 47 (Int32.ofInt 114)) (hn h + 8) 48 (Int32.ofInt 110)) (hn h + 8) 49 (Int32.ofInt 32)) (hn h + 8) 50 (Int32.ofInt 119)) (hn h + 8) 51 (Int32.ofInt 105)) (hn h + 8) 52 (Int32.ofInt 108)) (hn h + 8) 53 (Int32.ofInt 100)) (hn h + 8) 54 (Int32.ofInt 32)) (hn h + 8) 55 (Int32.ofInt 102)) (hn h + 8) 56 (Int32.ofInt 105)) (hn h + 8) 57 (Int32.ofInt 110)) (hn h + 8) 58 (Int32.ofInt 101)) (hn h + 8) 59 (Int32.ofInt 32)) (hn h + 8) 60 (Int32.ofInt 108)) (hn h + 8) 61 (Int32.ofInt 101)) (hn h + 8) 62 (Int32.ofInt 102)) (hn h + 8) 63 (Int32.ofInt 116)) (hn h + 8) 64 (Int32.ofInt 32)) (hn h + 8) 65 (Int32.ofInt 115)) (hn h + 8) 66 (Int32.ofInt 105)) (hn h + 8) 67 (Int32.ofInt 103)) (hn h + 8) 68 (Int32.ofInt 110)) (hn h + 8) 69 (Int32.ofInt 101)) (hn h + 8) 70 (Int32.ofInt 100)) (hn h + 8) 71 (Int32.ofInt 32)) (hn h + 8) 72 (Int32.ofInt 108)) (hn h + 8) 73 (Int32.ofInt 105)) (hn h + 8) 74 (Int32.ofInt 102)) (hn h + 8) 75 (Int32.ofInt 116)) (hn h + 8) 76 (Int32.ofInt 101)) (hn h + 8) 77 (Int32.ofInt 100)) (hn h + 8) 78 (Int32.ofInt 32)) (hn h + 8) 79 (Int32.ofInt 98)) (hn h + 8) 80 (Int32.ofInt 105)) (hn h + 8) 81 (Int32.ofInt 114)) (hn h + 8) 82 (Int32.ofInt 100)) (hn h + 8) 83 (Int32.ofInt 32)) (hn h + 8) 84 (Int32.ofInt 100)) (hn h + 8) 85 (Int32.ofInt 101)) (hn h + 8) 86 (Int32.ofInt 101)) (hn h + 8) 87 (Int32.ofInt 100)) (hn h + 8) 88 (Int32.ofInt 32)) (hn h + 8) 89 (Int32.ofInt 104)) (hn h + 8) 90 (Int32.ofInt 111)) (hn h + 8) 91 (Int32.ofInt 117)) (hn h + 8) 92 (Int32.ofInt 114)) (hn h + 8) 93 (Int32.ofInt 32)) (hn h + 8) 94 (Int32.ofInt 97)) (hn h + 8) 95 (Int32.ofInt 116)) (hn h + 8) 96 (Int32.ofInt 32)) (hn h + 8) 97 (Int32.ofInt 99)) (hn h + 8) 98 (Int32.ofInt 108)) (hn h + 8) 99 (Int32.ofInt 101)) (hn h + 8) 100 (Int32.ofInt 114)) (hn h + 8) 101 (Int32.ofInt 107)) (hn h + 8) 102 (Int32.ofInt 32)) (hn h + 8) 103 (Int32.ofInt 116)) (hn h + 8) 104 (Int32.ofInt 97)) (hn h + 8) 105 (Int32.ofInt 107)) (hn h + 8) 106 (Int32.ofInt 101)) (hn h + 8) 107 (Int32.ofInt 32)) (hn h + 8) 108 (Int32.ofInt 100)) (hn h + 8) 109 (Int32.ofInt 114)) (hn h + 8) 110 (Int32.ofInt 111)) (hn h + 8) 111 (Int32.ofInt 112)) (hn h + 8) 112 (Int32.ofInt 32)) (hn h + 8) 113 (Int32.ofInt 119)) (hn h + 8) 114 (Int32.ofInt 114)) (hn h + 8) 115 (Int32.ofInt 105)) (hn h + 8) 116 (Int32.ofInt 116)) (hn h + 8) 117 (Int32.ofInt 101)) (hn h + 8) 118 (Int32.ofInt 32)) (hn h + 8) 119 (Int32.ofInt 114)) (hn h + 8) 120 (Int32.ofInt 101)) (hn h + 8) 121 (Int32.ofInt 115)) (hn h + 8) 122 (Int32.ofInt 116)) (hn h + 8) 123 (Int32.ofInt 32)) (hn h + 8) 124 (Int32.ofInt 100)) (hn h + 8) 125 (Int32.ofInt 105)) (hn h + 8) 126 (Int32.ofInt 112)) (hn h + 8) 127 (Int32.ofInt 32)) (hn h + 8) 128 (Int32.ofInt 99)) (hn h + 8) 129 (Int32.ofInt 117)) (hn h + 8) 130 (Int32.ofInt 116)) (hn h + 8) 131 (Int32.ofInt 32)) (hn h + 8) 132 (Int32.ofInt 97)) (hn h + 8) 133 (Int32.ofInt 102)) (hn h + 8) 134 (Int32.ofInt 116)) (hn h + 8) 135 (Int32.ofInt 101)) (hn h + 8) 136 (Int32.ofInt 114)) (hn h + 8) 137 (Int32.ofInt 32)) a 19 (some (hn h + 8))) 1 2) a 20 (some (hn h + 9))) 1 48) a 21 (some (hn h + 10))) 1 48) a 22 (some (hn h + 11))) 1 48) a 23 (some (hn h + 12))) 1 48) a 24 (some (hn h + 13))) 1 1200) a 25 (some (hn h + 14))) 1 1200) a 26 (some (hn h + 15))) 1 40) a 30 (some (hn h + 16))) a 35 (Int32.ofInt (-1))) 1 128) a 37 (some (hn h + 17))) 1 16) a 39 (some (hn h + 18))) 1 16) a 40 (some (hn h + 19))) 1 24) a 42 (some (hn h + 20))) 1 11) a 43 (some (hn h + 21))) 1 420) a 44 (some (hn h + 22))) 1 12) a 45 (some (hn h + 23))) 1 144) a 46 (some (hn h + 24))) 1 10) a 48 (some (hn h + 25))) 1 11) a 49 (some (hn h + 26))) 1 11) a 50 (some (hn h + 27))) 1 4) a 52 (some (hn h + 28))) 1 2001) a 53 (some (hn h + 29))) 1 12) a 54 (some (hn h + 30))) 1 3) a 55 (some (hn h + 31))) 1 3) a 56 (some (hn h + 32))) 1 9) a 60 (some (hn h + 33))) 1 81) a 61 (some (hn h + 34))) 1 12) a 63 (some (hn h + 35))) 1 10) a 65 (some (hn h + 36))) 1 8) a 67 (some (hn h + 37))) 1 40) a 68 (some (hn h + 38))) 1 6) a 70 (some (hn h + 39))) 1 4096) a 71 (some (hn h + 40))) 1 2200) a 75 (some (hn h + 41)))
theorem hn_X11_init (h : kH) (a : Nat) : hn (kc_X11_init h a) = hn h + 42 := by simp only [kc_X11_init, hn_uI, hn_uP, hn_uN, Nat.add_assoc, Nat.reduceAdd]
theorem le_X11_init (h : kH) (a : Nat) : kLe h (kc_X11_init h a) := by
  unfold kc_X11_init
  repeat first | exact kLe_rf _ | refine kLe_I ?_ _ _ _ | refine kLe_P ?_ _ _ _ | refine kLe_N ?_ _ _
theorem ol_X11_init {h : kH} {a b c : Nat} (o : kO h b c) : kO (kc_X11_init h a) b c := kLe_O (le_X11_init h a) o
theorem ou_X11_init {h : kH} {a b : Nat} (o : kU h b) : kU (kc_X11_init h a) b := kLe_U (le_X11_init h a) o
set_option maxHeartbeats 600000 in
set_option maxRecDepth 100000 in
theorem ks_X11_init {g : kG} {d a : Nat} {h : kH} {Q : Int32 → kH → Prop} (ha : kO h a 11) (hm : hn h + 42 ≤ 1000000) (q : Q 0 (kc_X11_init h a)) : Ev g 157 (d + 1) (.inr (some a) :: []) h Q := by
  have ha1 : a < hn h := ha.1
  refine Ev_wq (stops := []) (n := 1) (mc := 42) (ms := 13976) 731 (by decide) me_157 (by decide +kernel) rfl (by decide) ?_
  show wq g 157 d none 42 13976 kc_157 [] Q 731 0 0 0 [some (.inr (some a))] [] h
  have z16 : ∀ n : Nat, n < 2147483648 → (Int32.ofInt (n : Int)).toNatClampNeg = n := fun n hn' => by rw [zi_ix (by omega) (by omega)]; omega
  have t0 : (Int32.ofInt 0).toNatClampNeg = 0 := by decide
  have s0 : ¬ Int32.ofInt 0 < 0 := by decide
  have t1 : (Int32.ofInt 1).toNatClampNeg = 1 := by decide
  have s1 : ¬ Int32.ofInt 1 < 0 := by decide
  have t2 : (Int32.ofInt 2).toNatClampNeg = 2 := by decide
  have s2 : ¬ Int32.ofInt 2 < 0 := by decide
  have t3 : (Int32.ofInt 3).toNatClampNeg = 3 := by decide
  have s3 : ¬ Int32.ofInt 3 < 0 := by decide
  have t4 : (Int32.ofInt 4).toNatClampNeg = 4 := by decide
  have s4 : ¬ Int32.ofInt 4 < 0 := by decide
  have t5 : (Int32.ofInt 5).toNatClampNeg = 5 := by decide
  have s5 : ¬ Int32.ofInt 5 < 0 := by decide
  have t6 : (Int32.ofInt 6).toNatClampNeg = 6 := by decide
  have s6 : ¬ Int32.ofInt 6 < 0 := by decide
  have t7 : (Int32.ofInt 7).toNatClampNeg = 7 := by decide
  have s7 : ¬ Int32.ofInt 7 < 0 := by decide
  have t8 : (Int32.ofInt 8).toNatClampNeg = 8 := by decide
  have s8 : ¬ Int32.ofInt 8 < 0 := by decide
  have t9 : (Int32.ofInt 9).toNatClampNeg = 9 := by decide
  have s9 : ¬ Int32.ofInt 9 < 0 := by decide
  have t10 : (Int32.ofInt 10).toNatClampNeg = 10 := by decide
  have s10 : ¬ Int32.ofInt 10 < 0 := by decide
  have t11 : (Int32.ofInt 11).toNatClampNeg = 11 := by decide
  have s11 : ¬ Int32.ofInt 11 < 0 := by decide
  have t12 : (Int32.ofInt 12).toNatClampNeg = 12 := by decide
  have s12 : ¬ Int32.ofInt 12 < 0 := by decide
  have t13 : (Int32.ofInt 13).toNatClampNeg = 13 := by decide
  have s13 : ¬ Int32.ofInt 13 < 0 := by decide
  have t14 : (Int32.ofInt 14).toNatClampNeg = 14 := by decide
  have s14 : ¬ Int32.ofInt 14 < 0 := by decide
  have t15 : (Int32.ofInt 15).toNatClampNeg = 15 := by decide
  have s15 : ¬ Int32.ofInt 15 < 0 := by decide
  have t16 : (Int32.ofInt 16).toNatClampNeg = 16 := by decide
  have s16 : ¬ Int32.ofInt 16 < 0 := by decide
  have t17 : (Int32.ofInt 17).toNatClampNeg = 17 := by decide
  have s17 : ¬ Int32.ofInt 17 < 0 := by decide
  have t18 : (Int32.ofInt 18).toNatClampNeg = 18 := by decide
  have s18 : ¬ Int32.ofInt 18 < 0 := by decide
  have t19 : (Int32.ofInt 19).toNatClampNeg = 19 := by decide
  have s19 : ¬ Int32.ofInt 19 < 0 := by decide
  have t20 : (Int32.ofInt 20).toNatClampNeg = 20 := by decide
  have s20 : ¬ Int32.ofInt 20 < 0 := by decide
  have t21 : (Int32.ofInt 21).toNatClampNeg = 21 := by decide
  have s21 : ¬ Int32.ofInt 21 < 0 := by decide
  have t22 : (Int32.ofInt 22).toNatClampNeg = 22 := by decide
  have s22 : ¬ Int32.ofInt 22 < 0 := by decide
  have t23 : (Int32.ofInt 23).toNatClampNeg = 23 := by decide
  have s23 : ¬ Int32.ofInt 23 < 0 := by decide
  have t24 : (Int32.ofInt 24).toNatClampNeg = 24 := by decide
  have s24 : ¬ Int32.ofInt 24 < 0 := by decide
  have t25 : (Int32.ofInt 25).toNatClampNeg = 25 := by decide
  have s25 : ¬ Int32.ofInt 25 < 0 := by decide
  have t26 : (Int32.ofInt 26).toNatClampNeg = 26 := by decide
  have s26 : ¬ Int32.ofInt 26 < 0 := by decide
  have t27 : (Int32.ofInt 27).toNatClampNeg = 27 := by decide
  have s27 : ¬ Int32.ofInt 27 < 0 := by decide
  have t28 : (Int32.ofInt 28).toNatClampNeg = 28 := by decide
  have s28 : ¬ Int32.ofInt 28 < 0 := by decide
  have t29 : (Int32.ofInt 29).toNatClampNeg = 29 := by decide
  have s29 : ¬ Int32.ofInt 29 < 0 := by decide
  have t30 : (Int32.ofInt 30).toNatClampNeg = 30 := by decide
  have s30 : ¬ Int32.ofInt 30 < 0 := by decide
  have t31 : (Int32.ofInt 31).toNatClampNeg = 31 := by decide
  have s31 : ¬ Int32.ofInt 31 < 0 := by decide
  have t32 : (Int32.ofInt 32).toNatClampNeg = 32 := by decide
  have s32 : ¬ Int32.ofInt 32 < 0 := by decide
  have t33 : (Int32.ofInt 33).toNatClampNeg = 33 := by decide
  have s33 : ¬ Int32.ofInt 33 < 0 := by decide
  have t34 : (Int32.ofInt 34).toNatClampNeg = 34 := by decide
  have s34 : ¬ Int32.ofInt 34 < 0 := by decide
  have t35 : (Int32.ofInt 35).toNatClampNeg = 35 := by decide
  have s35 : ¬ Int32.ofInt 35 < 0 := by decide
  have t36 : (Int32.ofInt 36).toNatClampNeg = 36 := by decide
  have s36 : ¬ Int32.ofInt 36 < 0 := by decide
  have t37 : (Int32.ofInt 37).toNatClampNeg = 37 := by decide
  have s37 : ¬ Int32.ofInt 37 < 0 := by decide
  have t38 : (Int32.ofInt 38).toNatClampNeg = 38 := by decide
  have s38 : ¬ Int32.ofInt 38 < 0 := by decide
  have t39 : (Int32.ofInt 39).toNatClampNeg = 39 := by decide
  have s39 : ¬ Int32.ofInt 39 < 0 := by decide
  have t40 : (Int32.ofInt 40).toNatClampNeg = 40 := by decide
  have s40 : ¬ Int32.ofInt 40 < 0 := by decide
  have t41 : (Int32.ofInt 41).toNatClampNeg = 41 := by decide
  have s41 : ¬ Int32.ofInt 41 < 0 := by decide
  have t42 : (Int32.ofInt 42).toNatClampNeg = 42 := by decide
  have s42 : ¬ Int32.ofInt 42 < 0 := by decide
  have t43 : (Int32.ofInt 43).toNatClampNeg = 43 := by decide
  have s43 : ¬ Int32.ofInt 43 < 0 := by decide
  have t44 : (Int32.ofInt 44).toNatClampNeg = 44 := by decide
  have s44 : ¬ Int32.ofInt 44 < 0 := by decide
  have t45 : (Int32.ofInt 45).toNatClampNeg = 45 := by decide
  have s45 : ¬ Int32.ofInt 45 < 0 := by decide
  have t46 : (Int32.ofInt 46).toNatClampNeg = 46 := by decide
  have s46 : ¬ Int32.ofInt 46 < 0 := by decide
  have t47 : (Int32.ofInt 47).toNatClampNeg = 47 := by decide
  have s47 : ¬ Int32.ofInt 47 < 0 := by decide
  have t48 : (Int32.ofInt 48).toNatClampNeg = 48 := by decide
  have s48 : ¬ Int32.ofInt 48 < 0 := by decide
  have t49 : (Int32.ofInt 49).toNatClampNeg = 49 := by decide
  have s49 : ¬ Int32.ofInt 49 < 0 := by decide
  have t50 : (Int32.ofInt 50).toNatClampNeg = 50 := by decide
  have s50 : ¬ Int32.ofInt 50 < 0 := by decide
  have t51 : (Int32.ofInt 51).toNatClampNeg = 51 := by decide
  have s51 : ¬ Int32.ofInt 51 < 0 := by decide
  have t52 : (Int32.ofInt 52).toNatClampNeg = 52 := by decide
  have s52 : ¬ Int32.ofInt 52 < 0 := by decide
  have t53 : (Int32.ofInt 53).toNatClampNeg = 53 := by decide
  have s53 : ¬ Int32.ofInt 53 < 0 := by decide
  have t54 : (Int32.ofInt 54).toNatClampNeg = 54 := by decide
  have s54 : ¬ Int32.ofInt 54 < 0 := by decide
  have t55 : (Int32.ofInt 55).toNatClampNeg = 55 := by decide
  have s55 : ¬ Int32.ofInt 55 < 0 := by decide
  have t56 : (Int32.ofInt 56).toNatClampNeg = 56 := by decide
  have s56 : ¬ Int32.ofInt 56 < 0 := by decide
  have t57 : (Int32.ofInt 57).toNatClampNeg = 57 := by decide
  have s57 : ¬ Int32.ofInt 57 < 0 := by decide
  have t58 : (Int32.ofInt 58).toNatClampNeg = 58 := by decide
  have s58 : ¬ Int32.ofInt 58 < 0 := by decide
  have t59 : (Int32.ofInt 59).toNatClampNeg = 59 := by decide
  have s59 : ¬ Int32.ofInt 59 < 0 := by decide
  have t60 : (Int32.ofInt 60).toNatClampNeg = 60 := by decide
  have s60 : ¬ Int32.ofInt 60 < 0 := by decide
  have t61 : (Int32.ofInt 61).toNatClampNeg = 61 := by decide
  have s61 : ¬ Int32.ofInt 61 < 0 := by decide
  have t62 : (Int32.ofInt 62).toNatClampNeg = 62 := by decide
  have s62 : ¬ Int32.ofInt 62 < 0 := by decide
  have t63 : (Int32.ofInt 63).toNatClampNeg = 63 := by decide
  have s63 : ¬ Int32.ofInt 63 < 0 := by decide
  have t64 : (Int32.ofInt 64).toNatClampNeg = 64 := by decide
  have s64 : ¬ Int32.ofInt 64 < 0 := by decide
  have t65 : (Int32.ofInt 65).toNatClampNeg = 65 := by decide
  have s65 : ¬ Int32.ofInt 65 < 0 := by decide
  have t66 : (Int32.ofInt 66).toNatClampNeg = 66 := by decide
  have s66 : ¬ Int32.ofInt 66 < 0 := by decide
  have t67 : (Int32.ofInt 67).toNatClampNeg = 67 := by decide
  have s67 : ¬ Int32.ofInt 67 < 0 := by decide
  have t68 : (Int32.ofInt 68).toNatClampNeg = 68 := by decide
  have s68 : ¬ Int32.ofInt 68 < 0 := by decide
  have t69 : (Int32.ofInt 69).toNatClampNeg = 69 := by decide
  have s69 : ¬ Int32.ofInt 69 < 0 := by decide
  have t70 : (Int32.ofInt 70).toNatClampNeg = 70 := by decide
  have s70 : ¬ Int32.ofInt 70 < 0 := by decide
  have t71 : (Int32.ofInt 71).toNatClampNeg = 71 := by decide
  have s71 : ¬ Int32.ofInt 71 < 0 := by decide
  have t72 : (Int32.ofInt 72).toNatClampNeg = 72 := by decide
  have s72 : ¬ Int32.ofInt 72 < 0 := by decide
  have t73 : (Int32.ofInt 73).toNatClampNeg = 73 := by decide
  have s73 : ¬ Int32.ofInt 73 < 0 := by decide
  have t74 : (Int32.ofInt 74).toNatClampNeg = 74 := by decide
  have s74 : ¬ Int32.ofInt 74 < 0 := by decide
  have t75 : (Int32.ofInt 75).toNatClampNeg = 75 := by decide
  have s75 : ¬ Int32.ofInt 75 < 0 := by decide
  have t76 : (Int32.ofInt 76).toNatClampNeg = 76 := by decide
  have s76 : ¬ Int32.ofInt 76 < 0 := by decide
  have t77 : (Int32.ofInt 77).toNatClampNeg = 77 := by decide
  have s77 : ¬ Int32.ofInt 77 < 0 := by decide
  have t78 : (Int32.ofInt 78).toNatClampNeg = 78 := by decide
  have s78 : ¬ Int32.ofInt 78 < 0 := by decide
  have t79 : (Int32.ofInt 79).toNatClampNeg = 79 := by decide
  have s79 : ¬ Int32.ofInt 79 < 0 := by decide
  have t80 : (Int32.ofInt 80).toNatClampNeg = 80 := by decide
  have s80 : ¬ Int32.ofInt 80 < 0 := by decide
  have t81 : (Int32.ofInt 81).toNatClampNeg = 81 := by decide
  have s81 : ¬ Int32.ofInt 81 < 0 := by decide
  have t82 : (Int32.ofInt 82).toNatClampNeg = 82 := by decide
  have s82 : ¬ Int32.ofInt 82 < 0 := by decide
  have t83 : (Int32.ofInt 83).toNatClampNeg = 83 := by decide
  have s83 : ¬ Int32.ofInt 83 < 0 := by decide
  have t84 : (Int32.ofInt 84).toNatClampNeg = 84 := by decide
  have s84 : ¬ Int32.ofInt 84 < 0 := by decide
  have t85 : (Int32.ofInt 85).toNatClampNeg = 85 := by decide
  have s85 : ¬ Int32.ofInt 85 < 0 := by decide
  have t86 : (Int32.ofInt 86).toNatClampNeg = 86 := by decide
  have s86 : ¬ Int32.ofInt 86 < 0 := by decide
  have t87 : (Int32.ofInt 87).toNatClampNeg = 87 := by decide
  have s87 : ¬ Int32.ofInt 87 < 0 := by decide
  have t88 : (Int32.ofInt 88).toNatClampNeg = 88 := by decide
  have s88 : ¬ Int32.ofInt 88 < 0 := by decide
  have t89 : (Int32.ofInt 89).toNatClampNeg = 89 := by decide
  have s89 : ¬ Int32.ofInt 89 < 0 := by decide
  have t90 : (Int32.ofInt 90).toNatClampNeg = 90 := by decide
  have s90 : ¬ Int32.ofInt 90 < 0 := by decide
  have t91 : (Int32.ofInt 91).toNatClampNeg = 91 := by decide
  have s91 : ¬ Int32.ofInt 91 < 0 := by decide
  have t92 : (Int32.ofInt 92).toNatClampNeg = 92 := by decide
  have s92 : ¬ Int32.ofInt 92 < 0 := by decide
  have t93 : (Int32.ofInt 93).toNatClampNeg = 93 := by decide
  have s93 : ¬ Int32.ofInt 93 < 0 := by decide
  have t94 : (Int32.ofInt 94).toNatClampNeg = 94 := by decide
  have s94 : ¬ Int32.ofInt 94 < 0 := by decide
  have t95 : (Int32.ofInt 95).toNatClampNeg = 95 := by decide
  have s95 : ¬ Int32.ofInt 95 < 0 := by decide
  have t96 : (Int32.ofInt 96).toNatClampNeg = 96 := by decide
  have s96 : ¬ Int32.ofInt 96 < 0 := by decide
  have t97 : (Int32.ofInt 97).toNatClampNeg = 97 := by decide
  have s97 : ¬ Int32.ofInt 97 < 0 := by decide
  have t98 : (Int32.ofInt 98).toNatClampNeg = 98 := by decide
  have s98 : ¬ Int32.ofInt 98 < 0 := by decide
  have t99 : (Int32.ofInt 99).toNatClampNeg = 99 := by decide
  have s99 : ¬ Int32.ofInt 99 < 0 := by decide
  have t100 : (Int32.ofInt 100).toNatClampNeg = 100 := by decide
  have s100 : ¬ Int32.ofInt 100 < 0 := by decide
  have t101 : (Int32.ofInt 101).toNatClampNeg = 101 := by decide
  have s101 : ¬ Int32.ofInt 101 < 0 := by decide
  have t102 : (Int32.ofInt 102).toNatClampNeg = 102 := by decide
  have s102 : ¬ Int32.ofInt 102 < 0 := by decide
  have t103 : (Int32.ofInt 103).toNatClampNeg = 103 := by decide
  have s103 : ¬ Int32.ofInt 103 < 0 := by decide
  have t104 : (Int32.ofInt 104).toNatClampNeg = 104 := by decide
  have s104 : ¬ Int32.ofInt 104 < 0 := by decide
  have t105 : (Int32.ofInt 105).toNatClampNeg = 105 := by decide
  have s105 : ¬ Int32.ofInt 105 < 0 := by decide
  have t106 : (Int32.ofInt 106).toNatClampNeg = 106 := by decide
  have s106 : ¬ Int32.ofInt 106 < 0 := by decide
  have t107 : (Int32.ofInt 107).toNatClampNeg = 107 := by decide
  have s107 : ¬ Int32.ofInt 107 < 0 := by decide
  have t108 : (Int32.ofInt 108).toNatClampNeg = 108 := by decide
  have s108 : ¬ Int32.ofInt 108 < 0 := by decide
  have t109 : (Int32.ofInt 109).toNatClampNeg = 109 := by decide
  have s109 : ¬ Int32.ofInt 109 < 0 := by decide
  have t110 : (Int32.ofInt 110).toNatClampNeg = 110 := by decide
  have s110 : ¬ Int32.ofInt 110 < 0 := by decide
  have t111 : (Int32.ofInt 111).toNatClampNeg = 111 := by decide
  have s111 : ¬ Int32.ofInt 111 < 0 := by decide
  have t112 : (Int32.ofInt 112).toNatClampNeg = 112 := by decide
  have s112 : ¬ Int32.ofInt 112 < 0 := by decide
  have t113 : (Int32.ofInt 113).toNatClampNeg = 113 := by decide
  have s113 : ¬ Int32.ofInt 113 < 0 := by decide
  have t114 : (Int32.ofInt 114).toNatClampNeg = 114 := by decide
  have s114 : ¬ Int32.ofInt 114 < 0 := by decide
  have t115 : (Int32.ofInt 115).toNatClampNeg = 115 := by decide
  have s115 : ¬ Int32.ofInt 115 < 0 := by decide
  have t116 : (Int32.ofInt 116).toNatClampNeg = 116 := by decide
  have s116 : ¬ Int32.ofInt 116 < 0 := by decide
  have t117 : (Int32.ofInt 117).toNatClampNeg = 117 := by decide
  have s117 : ¬ Int32.ofInt 117 < 0 := by decide
  have t118 : (Int32.ofInt 118).toNatClampNeg = 118 := by decide
  have s118 : ¬ Int32.ofInt 118 < 0 := by decide
  have t119 : (Int32.ofInt 119).toNatClampNeg = 119 := by decide
  have s119 : ¬ Int32.ofInt 119 < 0 := by decide
  have t120 : (Int32.ofInt 120).toNatClampNeg = 120 := by decide
  have s120 : ¬ Int32.ofInt 120 < 0 := by decide
  have t121 : (Int32.ofInt 121).toNatClampNeg = 121 := by decide
  have s121 : ¬ Int32.ofInt 121 < 0 := by decide
  have t122 : (Int32.ofInt 122).toNatClampNeg = 122 := by decide
  have s122 : ¬ Int32.ofInt 122 < 0 := by decide
  have t123 : (Int32.ofInt 123).toNatClampNeg = 123 := by decide
  have s123 : ¬ Int32.ofInt 123 < 0 := by decide
  have t124 : (Int32.ofInt 124).toNatClampNeg = 124 := by decide
  have s124 : ¬ Int32.ofInt 124 < 0 := by decide
  have t125 : (Int32.ofInt 125).toNatClampNeg = 125 := by decide
  have s125 : ¬ Int32.ofInt 125 < 0 := by decide
  have t126 : (Int32.ofInt 126).toNatClampNeg = 126 := by decide
  have s126 : ¬ Int32.ofInt 126 < 0 := by decide
  have t127 : (Int32.ofInt 127).toNatClampNeg = 127 := by decide
  have s127 : ¬ Int32.ofInt 127 < 0 := by decide
  have t128 : (Int32.ofInt 128).toNatClampNeg = 128 := by decide
  have s128 : ¬ Int32.ofInt 128 < 0 := by decide
  have t129 : (Int32.ofInt 129).toNatClampNeg = 129 := by decide
  have s129 : ¬ Int32.ofInt 129 < 0 := by decide
  have t130 : (Int32.ofInt 130).toNatClampNeg = 130 := by decide
  have s130 : ¬ Int32.ofInt 130 < 0 := by decide
  have t131 : (Int32.ofInt 131).toNatClampNeg = 131 := by decide
  have s131 : ¬ Int32.ofInt 131 < 0 := by decide
  have t132 : (Int32.ofInt 132).toNatClampNeg = 132 := by decide
  have s132 : ¬ Int32.ofInt 132 < 0 := by decide
  have t133 : (Int32.ofInt 133).toNatClampNeg = 133 := by decide
  have s133 : ¬ Int32.ofInt 133 < 0 := by decide
  have t134 : (Int32.ofInt 134).toNatClampNeg = 134 := by decide
  have s134 : ¬ Int32.ofInt 134 < 0 := by decide
  have t135 : (Int32.ofInt 135).toNatClampNeg = 135 := by decide
  have s135 : ¬ Int32.ofInt 135 < 0 := by decide
  have t136 : (Int32.ofInt 136).toNatClampNeg = 136 := by decide
  have s136 : ¬ Int32.ofInt 136 < 0 := by decide
  have t137 : (Int32.ofInt 137).toNatClampNeg = 137 := by decide
  have s137 : ¬ Int32.ofInt 137 < 0 := by decide
  have t138 : (Int32.ofInt 138).toNatClampNeg = 138 := by decide
  have s138 : ¬ Int32.ofInt 138 < 0 := by decide
  have t144 : (Int32.ofInt 144).toNatClampNeg = 144 := by decide
  have s144 : ¬ Int32.ofInt 144 < 0 := by decide
  have t400 : (Int32.ofInt 400).toNatClampNeg = 400 := by decide
  have s400 : ¬ Int32.ofInt 400 < 0 := by decide
  have t420 : (Int32.ofInt 420).toNatClampNeg = 420 := by decide
  have s420 : ¬ Int32.ofInt 420 < 0 := by decide
  have t600 : (Int32.ofInt 600).toNatClampNeg = 600 := by decide
  have s600 : ¬ Int32.ofInt 600 < 0 := by decide
  have t660 : (Int32.ofInt 660).toNatClampNeg = 660 := by decide
  have s660 : ¬ Int32.ofInt 660 < 0 := by decide
  have t1200 : (Int32.ofInt 1200).toNatClampNeg = 1200 := by decide
  have s1200 : ¬ Int32.ofInt 1200 < 0 := by decide
  have t2001 : (Int32.ofInt 2001).toNatClampNeg = 2001 := by decide
  have s2001 : ¬ Int32.ofInt 2001 < 0 := by decide
  have t2200 : (Int32.ofInt 2200).toNatClampNeg = 2200 := by decide
  have s2200 : ¬ Int32.ofInt 2200 < 0 := by decide
  have t4096 : (Int32.ofInt 4096).toNatClampNeg = 4096 := by decide
  have s4096 : ¬ Int32.ofInt 4096 < 0 := by decide
  simp  only [kc_157, wq, stp, stf, p1, p2, pr, lI, lR, sL, cz, krt, List.map_cons, List.map_nil, List.getElem?_cons_zero, List.getElem?_cons_succ, List.length_cons, List.length_nil, List.set_cons_zero, List.set_cons_succ, List.take_succ_cons, List.take_zero, List.drop_succ_cons, List.drop_zero, List.reverse_cons, List.reverse_nil, List.nil_append, List.cons_append, List.replicate_zero, Nat.reduceAdd, Nat.reduceLT, Nat.reduceLeDiff, Nat.reduceSub, Nat.reduceMul, kq_y, kq_c, kq_n, kf_c, kf_k, Nat.reduceDiv, Nat.reduceMod, if_true, if_false, ite_true, ite_false, Int.reduceToNat, Nat.reduceEqDiff, reduceIte, reduceCtorEq, false_implies, true_implies, implies_true, forall_const, hn_uN, hn_uI, hn_uP,  Nat.add_assoc, t0, s0, t1, s1, t2, s2, t3, s3, t4, s4, t5, s5, t6, s6, t7, s7, t8, s8, t9, s9, t10, s10, t11, s11, t12, s12, t13, s13, t14, s14, t15, s15, t16, s16, t17, s17, t18, s18, t19, s19, t20, s20, t21, s21, t22, s22, t23, s23, t24, s24, t25, s25, t26, s26, t27, s27, t28, s28, t29, s29, t30, s30, t31, s31, t32, s32, t33, s33, t34, s34, t35, s35, t36, s36, t37, s37, t38, s38, t39, s39, t40, s40, t41, s41, t42, s42, t43, s43, t44, s44, t45, s45, t46, s46, t47, s47, t48, s48, t49, s49, t50, s50, t51, s51, t52, s52, t53, s53, t54, s54, t55, s55, t56, s56, t57, s57, t58, s58, t59, s59, t60, s60, t61, s61, t62, s62, t63, s63, t64, s64, t65, s65, t66, s66, t67, s67, t68, s68, t69, s69, t70, s70, t71, s71, t72, s72, t73, s73, t74, s74, t75, s75, t76, s76, t77, s77, t78, s78, t79, s79, t80, s80, t81, s81, t82, s82, t83, s83, t84, s84, t85, s85, t86, s86, t87, s87, t88, s88, t89, s89, t90, s90, t91, s91, t92, s92, t93, s93, t94, s94, t95, s95, t96, s96, t97, s97, t98, s98, t99, s99, t100, s100, t101, s101, t102, s102, t103, s103, t104, s104, t105, s105, t106, s106, t107, s107, t108, s108, t109, s109, t110, s110, t111, s111, t112, s112, t113, s113, t114, s114, t115, s115, t116, s116, t117, s117, t118, s118, t119, s119, t120, s120, t121, s121, t122, s122, t123, s123, t124, s124, t125, s125, t126, s126, t127, s127, t128, s128, t129, s129, t130, s130, t131, s131, t132, s132, t133, s133, t134, s134, t135, s135, t136, s136, t137, s137, t138, s138, t144, s144, t400, s400, t420, s420, t600, s600, t660, s660, t1200, s1200, t2001, s2001, t2200, s2200, t4096, s4096,  true_and, and_true, not_false_eq_true, kO_uI, kO_uP, kJ_uI, kJ_uP, kU_uI, kU_uP, kl_uI, kl_uP, kl_uN, hP_uP, hP_uI, u2]
  repeat' first
    | ((with_reducible show Q _ _); exact q)
    | with_reducible apply And.intro
    | with_reducible exact ha
    | (with_reducible show _ < _; omega)
    | (with_reducible show _ ≤ _; omega)
    | (with_reducible show _ ≤ _; simp only [hn_uN, hn_uI, hn_uP]; omega)
    | (refine kLe_O (h := h) ?_ ha; (repeat first | exact kLe_rf _ | refine kLe_I ?_ _ _ _ | refine kLe_P ?_ _ _ _ | refine kLe_N ?_ _ _); done)
    | (simp [ha, hn_uN, hn_uI, hn_uP, Nat.add_assoc, kO_uN, kU_uN, kJ_uN, kO_uI, kO_uP, kU_uI, kU_uP, kl_uI, kl_uP, kl_uN]; done)
