/-! ===== the constructors of AnswerDoor and of the model ===== -/
def r_55 (ρ : RHO) : RHO := (up2 (r_45 (up2 (r_22 (up2 (r_0 (up2 (r_16 (up2 (r_51 (up2 (r_43 (up2 (r_38 (up2 (r_13 (up2 (r_6 ρ) 0 0 (some 1))) 0 1 (some 6))) 0 2 (some 16))) 0 3 (some 30))) 0 4 (some 32))) 0 5 (some 40))) 0 6 (some 42))) 0 7 (some 50))) 0 8 (some 55))
def w_55 (w : WW) : WW := (up2 (w_45 (w_22 (w_0 (w_16 (w_51 (w_43 (w_38 (w_13 (w_6 w))))))))) 0 9 N1)
set_option maxHeartbeats 8000000 in
theorem cn_55 {d : Nat} {w : WW} {ρ : RHO} {Post : Option Value → Sto → Prop} (z0 : ZR 1 w ρ) (hp : ZR 57 (w_55 w) (r_55 ρ) → Post none (cW 57 (w_55 w) (r_55 ρ))) : Ex (d + 3) 55 [.ref 0] (cW 1 w ρ) 56 9735 Post := by
  refine en_55 (Nat.le_of_ble_eq_true rfl) ?_
  show RU_55 (d + 2) (56, 9735) Post 0 [(0, .ref 0)] [] (cW 1 w ρ) 0 0
  refine R_seg [(.aload_n 0, 1, 0, 0, 0, 0), (.invokespecial 3, 3, 0, 4, 0, 0), (.aload_n 0, 1, 0, 0, 0, 0), (.new 9, 3, 1, 0, 0, 0), (.dup, 1, 0, 0, 0, 0)] (by decide +kernel : segB 10 true prog_1_method_1_code 0 [(.aload_n 0, 1, 0, 0, 0, 0), (.invokespecial 3, 3, 0, 4, 0, 0), (.aload_n 0, 1, 0, 0, 0, 0), (.new 9, 3, 1, 0, 0, 0), (.dup, 1, 0, 0, 0, 0)] = true) (pc' := 9) (lv' := [(0, .ref 0)]) (st' := [.ref 1, .ref 1, .ref 0]) (S' := newC (cW 1 w ρ) 1 5) (kc' := 1) (ks' := 5) rfl ⟨trivial, by decide, trivial, ⟨by decide, by decide⟩, rfl, trivial⟩ ?_
  rw [cw_new rfl z0]
  have z1 := z0.le (Nat.le_succ 1)
  refine R_spec ck_55_9 (by decide) 1 [] 4 16 rfl rfl (by decide) (by decide) (by decide) ?_
  refine cn_6 (d := d) z1 (fun z2 => ?_)
  show RU_55 (d + 2) (56, 9735) Post 12 [(0, .ref 0)] [.ref 1, .ref 0] (cW 6 (w_6 w) (r_6 ρ)) 5 21
  refine R_seg [(.putfield 12, 3, 10, 0, 2, 0), (.aload_n 0, 1, 0, 0, 0, 0), (.new 16, 3, 3, 0, 0, 0), (.dup, 1, 0, 0, 0, 0)] (by decide +kernel : segB 10 true prog_1_method_1_code 12 [(.putfield 12, 3, 10, 0, 2, 0), (.aload_n 0, 1, 0, 0, 0, 0), (.new 16, 3, 3, 0, 0, 0), (.dup, 1, 0, 0, 0, 0)] = true) (pc' := 20) (lv' := [(0, .ref 0)]) (st' := [.ref 6, .ref 6, .ref 0]) (S' := newC (cW 6 _ (up2 _ 0 0 (some 1))) 3 5) (kc' := 6) (ks' := 26) rfl ⟨rfl, trivial, ⟨by decide, by decide⟩, rfl, trivial⟩ ?_
  have z3 := z2.ref 0 0 (some 1) (by decide)
  rw [cw_new rfl z3]
  have z4 := z3.le (Nat.le_succ 6)
  refine R_spec ck_55_20 (by decide) 6 [] 9 110 rfl rfl (by decide) (by decide) (by decide) ?_
  refine cn_13 (d := d) z4 (fun z5 => ?_)
  show RU_55 (d + 2) (56, 9735) Post 23 [(0, .ref 0)] [.ref 6, .ref 0] (cW 16 (w_13 (w_6 w)) (r_13 (up2 (r_6 ρ) 0 0 (some 1)))) 15 136
  refine R_seg [(.putfield 19, 3, 10, 1, 2, 0), (.aload_n 0, 1, 0, 0, 0, 0), (.new 23, 3, 6, 0, 0, 0), (.dup, 1, 0, 0, 0, 0)] (by decide +kernel : segB 10 true prog_1_method_1_code 23 [(.putfield 19, 3, 10, 1, 2, 0), (.aload_n 0, 1, 0, 0, 0, 0), (.new 23, 3, 6, 0, 0, 0), (.dup, 1, 0, 0, 0, 0)] = true) (pc' := 31) (lv' := [(0, .ref 0)]) (st' := [.ref 16, .ref 16, .ref 0]) (S' := newC (cW 16 _ (up2 _ 0 1 (some 6))) 6 13) (kc' := 16) (ks' := 149) rfl ⟨rfl, trivial, ⟨by decide, by decide⟩, rfl, trivial⟩ ?_
  have z6 := z5.ref 0 1 (some 6) (by decide)
  rw [cw_new rfl z6]
  have z7 := z6.le (Nat.le_succ 16)
  refine R_spec ck_55_31 (by decide) 16 [] 13 3570 rfl rfl (by decide) (by decide) (by decide) ?_
  refine cn_38 (d := d) z7 (fun z8 => ?_)
  show RU_55 (d + 2) (56, 9735) Post 34 [(0, .ref 0)] [.ref 16, .ref 0] (cW 30 (w_38 (w_13 (w_6 w))) (r_38 (up2 (r_13 (up2 (r_6 ρ) 0 0 (some 1))) 0 1 (some 6)))) 29 3719
  refine R_seg [(.putfield 26, 3, 10, 2, 2, 0), (.aload_n 0, 1, 0, 0, 0, 0), (.new 30, 3, 7, 0, 0, 0), (.dup, 1, 0, 0, 0, 0)] (by decide +kernel : segB 10 true prog_1_method_1_code 34 [(.putfield 26, 3, 10, 2, 2, 0), (.aload_n 0, 1, 0, 0, 0, 0), (.new 30, 3, 7, 0, 0, 0), (.dup, 1, 0, 0, 0, 0)] = true) (pc' := 42) (lv' := [(0, .ref 0)]) (st' := [.ref 30, .ref 30, .ref 0]) (S' := newC (cW 30 _ (up2 _ 0 2 (some 16))) 7 2) (kc' := 30) (ks' := 3721) rfl ⟨rfl, trivial, ⟨by decide, by decide⟩, rfl, trivial⟩ ?_
  have z9 := z8.ref 0 2 (some 16) (by decide)
  rw [cw_new rfl z9]
  have z10 := z9.le (Nat.le_succ 30)
  refine R_spec ck_55_42 (by decide) 30 [] 1 200 rfl rfl (by decide) (by decide) (by decide) ?_
  refine cn_43 (d := d + 1) z10 (fun z11 => ?_)
  show RU_55 (d + 2) (56, 9735) Post 45 [(0, .ref 0)] [.ref 30, .ref 0] (cW 32 (w_43 (w_38 (w_13 (w_6 w)))) (r_43 (up2 (r_38 (up2 (r_13 (up2 (r_6 ρ) 0 0 (some 1))) 0 1 (some 6))) 0 2 (some 16)))) 31 3921
  refine R_seg [(.putfield 33, 3, 10, 3, 2, 0), (.aload_n 0, 1, 0, 0, 0, 0), (.new 37, 3, 9, 0, 0, 0), (.dup, 1, 0, 0, 0, 0)] (by decide +kernel : segB 10 true prog_1_method_1_code 45 [(.putfield 33, 3, 10, 3, 2, 0), (.aload_n 0, 1, 0, 0, 0, 0), (.new 37, 3, 9, 0, 0, 0), (.dup, 1, 0, 0, 0, 0)] = true) (pc' := 53) (lv' := [(0, .ref 0)]) (st' := [.ref 32, .ref 32, .ref 0]) (S' := newC (cW 32 _ (up2 _ 0 3 (some 30))) 9 8) (kc' := 32) (ks' := 3929) rfl ⟨rfl, trivial, ⟨by decide, by decide⟩, rfl, trivial⟩ ?_
  have z12 := z11.ref 0 3 (some 30) (by decide)
  rw [cw_new rfl z12]
  have z13 := z12.le (Nat.le_succ 32)
  refine R_spec ck_55_53 (by decide) 32 [] 7 340 rfl rfl (by decide) (by decide) (by decide) ?_
  refine cn_51 (d := d + 1) z13 (fun z14 => ?_)
  show RU_55 (d + 2) (56, 9735) Post 56 [(0, .ref 0)] [.ref 32, .ref 0] (cW 40 (w_51 (w_43 (w_38 (w_13 (w_6 w))))) (r_51 (up2 (r_43 (up2 (r_38 (up2 (r_13 (up2 (r_6 ρ) 0 0 (some 1))) 0 1 (some 6))) 0 2 (some 16))) 0 3 (some 30)))) 39 4269
  refine R_seg [(.putfield 40, 3, 10, 4, 2, 0), (.aload_n 0, 1, 0, 0, 0, 0), (.new 44, 3, 4, 0, 0, 0), (.dup, 1, 0, 0, 0, 0), (.aload_n 0, 1, 0, 0, 0, 0), (.getfield 40, 3, 10, 4, 2, 0), (.aload_n 0, 1, 0, 0, 0, 0), (.getfield 26, 3, 10, 2, 2, 0)] (by decide +kernel : segB 10 true prog_1_method_1_code 56 [(.putfield 40, 3, 10, 4, 2, 0), (.aload_n 0, 1, 0, 0, 0, 0), (.new 44, 3, 4, 0, 0, 0), (.dup, 1, 0, 0, 0, 0), (.aload_n 0, 1, 0, 0, 0, 0), (.getfield 40, 3, 10, 4, 2, 0), (.aload_n 0, 1, 0, 0, 0, 0), (.getfield 26, 3, 10, 2, 2, 0)] = true) (pc' := 72) (lv' := [(0, .ref 0)]) (st' := [.ref 16, .ref 32, .ref 40, .ref 40, .ref 0]) (S' := newC (cW 40 _ (up2 _ 0 4 (some 32))) 4 8) (kc' := 40) (ks' := 4277) rfl ⟨rfl, trivial, ⟨by decide, by decide⟩, rfl, trivial, rfl, trivial, rfl, trivial⟩ ?_
  have z15 := z14.ref 0 4 (some 32) (by decide)
  rw [cw_new rfl z15]
  have z16 := z15.le (Nat.le_succ 40)
  refine R_spec ck_55_72 (by decide) 40 [.ref 32, .ref 16] 1 5 rfl rfl (by decide) (by decide) (by decide) ?_
  refine cn_16 (d := d + 1) z16 (fun z17 => ?_)
  show RU_55 (d + 2) (56, 9735) Post 75 [(0, .ref 0)] [.ref 40, .ref 0] (cW 42 (w_16 (w_51 (w_43 (w_38 (w_13 (w_6 w)))))) (r_16 (up2 (r_51 (up2 (r_43 (up2 (r_38 (up2 (r_13 (up2 (r_6 ρ) 0 0 (some 1))) 0 1 (some 6))) 0 2 (some 16))) 0 3 (some 30))) 0 4 (some 32)))) 41 4282
  refine R_seg [(.putfield 49, 3, 10, 5, 2, 0), (.aload_n 0, 1, 0, 0, 0, 0), (.new 53, 3, 0, 0, 0, 0), (.dup, 1, 0, 0, 0, 0)] (by decide +kernel : segB 10 true prog_1_method_1_code 75 [(.putfield 49, 3, 10, 5, 2, 0), (.aload_n 0, 1, 0, 0, 0, 0), (.new 53, 3, 0, 0, 0, 0), (.dup, 1, 0, 0, 0, 0)] = true) (pc' := 83) (lv' := [(0, .ref 0)]) (st' := [.ref 42, .ref 42, .ref 0]) (S' := newC (cW 42 _ (up2 _ 0 5 (some 40))) 0 10) (kc' := 42) (ks' := 4292) rfl ⟨rfl, trivial, ⟨by decide, by decide⟩, rfl, trivial⟩ ?_
  have z18 := z17.ref 0 5 (some 40) (by decide)
  rw [cw_new rfl z18]
  have z19 := z18.le (Nat.le_succ 42)
  refine R_spec ck_55_83 (by decide) 42 [] 7 1344 rfl rfl (by decide) (by decide) (by decide) ?_
  refine cn_0 (d := d + 1) z19 (fun z20 => ?_)
  show RU_55 (d + 2) (56, 9735) Post 86 [(0, .ref 0)] [.ref 42, .ref 0] (cW 50 (w_0 (w_16 (w_51 (w_43 (w_38 (w_13 (w_6 w))))))) (r_0 (up2 (r_16 (up2 (r_51 (up2 (r_43 (up2 (r_38 (up2 (r_13 (up2 (r_6 ρ) 0 0 (some 1))) 0 1 (some 6))) 0 2 (some 16))) 0 3 (some 30))) 0 4 (some 32))) 0 5 (some 40)))) 49 5636
  refine R_seg [(.putfield 56, 3, 10, 6, 2, 0), (.aload_n 0, 1, 0, 0, 0, 0), (.new 60, 3, 5, 0, 0, 0), (.dup, 1, 0, 0, 0, 0), (.aload_n 0, 1, 0, 0, 0, 0), (.getfield 12, 3, 10, 0, 2, 0), (.aload_n 0, 1, 0, 0, 0, 0), (.getfield 19, 3, 10, 1, 2, 0), (.aload_n 0, 1, 0, 0, 0, 0), (.getfield 26, 3, 10, 2, 2, 0), (.aload_n 0, 1, 0, 0, 0, 0), (.getfield 40, 3, 10, 4, 2, 0), (.aload_n 0, 1, 0, 0, 0, 0), (.getfield 56, 3, 10, 6, 2, 0)] (by decide +kernel : segB 10 true prog_1_method_1_code 86 [(.putfield 56, 3, 10, 6, 2, 0), (.aload_n 0, 1, 0, 0, 0, 0), (.new 60, 3, 5, 0, 0, 0), (.dup, 1, 0, 0, 0, 0), (.aload_n 0, 1, 0, 0, 0, 0), (.getfield 12, 3, 10, 0, 2, 0), (.aload_n 0, 1, 0, 0, 0, 0), (.getfield 19, 3, 10, 1, 2, 0), (.aload_n 0, 1, 0, 0, 0, 0), (.getfield 26, 3, 10, 2, 2, 0), (.aload_n 0, 1, 0, 0, 0, 0), (.getfield 40, 3, 10, 4, 2, 0), (.aload_n 0, 1, 0, 0, 0, 0), (.getfield 56, 3, 10, 6, 2, 0)] = true) (pc' := 114) (lv' := [(0, .ref 0)]) (st' := [.ref 42, .ref 32, .ref 16, .ref 6, .ref 1, .ref 50, .ref 50, .ref 0]) (S' := newC (cW 50 _ (up2 _ 0 6 (some 42))) 5 12) (kc' := 50) (ks' := 5648) rfl ⟨rfl, trivial, ⟨by decide, by decide⟩, rfl, trivial, rfl, trivial, rfl, trivial, rfl, trivial, rfl, trivial, rfl, trivial⟩ ?_
  have z21 := z20.ref 0 6 (some 42) (by decide)
  rw [cw_new rfl z21]
  have z22 := z21.le (Nat.le_succ 50)
  refine R_spec ck_55_114 (by decide) 50 [.ref 1, .ref 6, .ref 16, .ref 32, .ref 42] 4 581 rfl rfl (by decide) (by decide) (by decide) ?_
  refine cn_22 (d := d + 1) z22 (fun z23 => ?_)
  show RU_55 (d + 2) (56, 9735) Post 117 [(0, .ref 0)] [.ref 50, .ref 0] (cW 55 (w_22 (w_0 (w_16 (w_51 (w_43 (w_38 (w_13 (w_6 w)))))))) (r_22 (up2 (r_0 (up2 (r_16 (up2 (r_51 (up2 (r_43 (up2 (r_38 (up2 (r_13 (up2 (r_6 ρ) 0 0 (some 1))) 0 1 (some 6))) 0 2 (some 16))) 0 3 (some 30))) 0 4 (some 32))) 0 5 (some 40))) 0 6 (some 42)))) 54 6229
  refine R_seg [(.putfield 65, 3, 10, 7, 2, 0), (.aload_n 0, 1, 0, 0, 0, 0), (.new 69, 3, 8, 0, 0, 0), (.dup, 1, 0, 0, 0, 0), (.aload_n 0, 1, 0, 0, 0, 0), (.getfield 26, 3, 10, 2, 2, 0), (.aload_n 0, 1, 0, 0, 0, 0), (.getfield 40, 3, 10, 4, 2, 0), (.aload_n 0, 1, 0, 0, 0, 0), (.getfield 65, 3, 10, 7, 2, 0), (.getfield 71, 3, 5, 0, 2, 0)] (by decide +kernel : segB 10 true prog_1_method_1_code 117 [(.putfield 65, 3, 10, 7, 2, 0), (.aload_n 0, 1, 0, 0, 0, 0), (.new 69, 3, 8, 0, 0, 0), (.dup, 1, 0, 0, 0, 0), (.aload_n 0, 1, 0, 0, 0, 0), (.getfield 26, 3, 10, 2, 2, 0), (.aload_n 0, 1, 0, 0, 0, 0), (.getfield 40, 3, 10, 4, 2, 0), (.aload_n 0, 1, 0, 0, 0, 0), (.getfield 65, 3, 10, 7, 2, 0), (.getfield 71, 3, 5, 0, 2, 0)] = true) (pc' := 140) (lv' := [(0, .ref 0)]) (st' := [.ref 51, .ref 32, .ref 16, .ref 55, .ref 55, .ref 0]) (S' := newC (cW 55 _ (up2 _ 0 7 (some 50))) 8 6) (kc' := 55) (ks' := 6235) rfl ⟨rfl, trivial, ⟨by decide, by decide⟩, rfl, trivial, rfl, trivial, rfl, trivial, rfl, rfl, trivial⟩ ?_
  have z24 := z23.ref 0 7 (some 50) (by decide)
  rw [cw_new rfl z24]
  have z25 := z24.le (Nat.le_succ 55)
  refine R_spec ck_55_140 (by decide) 55 [.ref 16, .ref 32, .ref 51] 1 3500 rfl rfl (by decide) (by decide) (by decide) ?_
  refine cn_45 (d := d + 1) z25 (fun z26 => ?_)
  show RU_55 (d + 2) (56, 9735) Post 143 [(0, .ref 0)] [.ref 55, .ref 0] (cW 57 (w_45 (w_22 (w_0 (w_16 (w_51 (w_43 (w_38 (w_13 (w_6 w))))))))) (r_45 (up2 (r_22 (up2 (r_0 (up2 (r_16 (up2 (r_51 (up2 (r_43 (up2 (r_38 (up2 (r_13 (up2 (r_6 ρ) 0 0 (some 1))) 0 1 (some 6))) 0 2 (some 16))) 0 3 (some 30))) 0 4 (some 32))) 0 5 (some 40))) 0 6 (some 42))) 0 7 (some 50)))) 56 9735
  refine R_seg [(.putfield 78, 3, 10, 8, 2, 0), (.aload_n 0, 1, 0, 0, 0, 0), (.iconst (-1), 1, 0, 0, 0, -1), (.putfield 82, 3, 10, 9, 0, 0)] (by decide +kernel : segB 10 true prog_1_method_1_code 143 [(.putfield 78, 3, 10, 8, 2, 0), (.aload_n 0, 1, 0, 0, 0, 0), (.iconst (-1), 1, 0, 0, 0, -1), (.putfield 82, 3, 10, 9, 0, 0)] = true) (pc' := 151) (lv' := [(0, .ref 0)]) (st' := []) (S' := setI (cW 57 _ (up2 _ 0 8 (some 55))) 0 9 (-1)) (kc' := 56) (ks' := 9735) rfl ⟨rfl, trivial, trivial, ⟨rfl, ⟨rfl, rfl⟩⟩, trivial⟩ ?_
  have z27 := (z26.ref 0 8 (some 55) (by decide)).int 0 9 N1 (by decide)
  show RU_55 (d + 2) (56, 9735) Post 151 [(0, .ref 0)] [] (kd0.take 57, up2 (nw (w_45 (w_22 (w_0 (w_16 (w_51 (w_43 (w_38 (w_13 (w_6 w)))))))))) 0 9 (-1), t00, (up2 (r_45 (up2 (r_22 (up2 (r_0 (up2 (r_16 (up2 (r_51 (up2 (r_43 (up2 (r_38 (up2 (r_13 (up2 (r_6 ρ) 0 0 (some 1))) 0 1 (some 6))) 0 2 (some 16))) 0 3 (some 30))) 0 4 (some 32))) 0 5 (some 40))) 0 6 (some 42))) 0 7 (some 50))) 0 8 (some 55))) 56 9735
  rw [nw_up (v := -1) (n := N1) rfl]
  exact R_ret ck_55_151 rfl (hp z27)
def r_79 (ρ : RHO) : RHO := (up2 (up2 (up2 (up2 (up2 (up2 (up2 (up2 (up2 (up2 (up2 (up2 (up2 (up2 (up2 (up2 (up2 (up2 (up2 (up2 (up2 (up2 (up2 (up2 (up2 (up2 (up2 (up2 (up2 (up2 (up2 (up2 (up2 (up2 (up2 (up2 (up2 (up2 (up2 (up2 (up2 (up2 (up2 (up2 (up2 (up2 (up2 ρ 57 2 (some 58)) 57 3 (some 59)) 57 4 (some 60)) 57 5 (some 61)) 57 6 (some 62)) 57 7 (some 63)) 57 8 (some 64)) 57 9 (some 65)) 57 11 (some 66)) 57 12 (some 67)) 57 13 (some 68)) 57 14 (some 69)) 57 15 (some 70)) 57 16 (some 71)) 57 17 (some 72)) 57 18 (some 73)) 57 19 (some 74)) 57 20 (some 75)) 57 21 (some 76)) 57 22 (some 77)) 57 23 (some 78)) 57 24 (some 79)) 57 25 (some 80)) 57 26 (some 81)) 57 27 (some 82)) 57 28 (some 83)) 57 29 (some 84)) 57 30 (some 85)) 57 31 (some 86)) 57 36 (some 87)) 57 37 (some 88)) 57 38 (some 89)) 57 39 (some 90)) 57 40 (some 91)) 57 41 (some 92)) 57 42 (some 93)) 57 44 (some 94)) 57 45 (some 95)) 57 46 (some 96)) 57 48 (some 97)) 57 52 (some 98)) 57 53 (some 99)) 57 54 (some 100)) 57 55 (some 101)) 57 56 (some 102)) 57 57 (some 103)) 57 61 (some 104))
theorem cw_all {w : WW} {ρ : RHO} (h : ρ = rho0) : cW 105 w ρ = stt (nw w) t00 := by
  subst h
  rfl
section STV
variable {d : Nat} {cc : ByteArray} {nL : Nat} {rt : Option FieldType} {cp : Nat × Nat} {Post : Option Value → Sto → Prop} {pc : Nat} {w : WW} {kc ks : Nat}
theorem R_stv_iconst {z} {v : Int32} {f i k j sz x : Nat} (h : segB 11 true cc pc [(.aload_n 0, 1, 0, 0, 0, 0), (.getfield f, 3, 11, i, 2, 0), (.iload_n 1, 1, 0, 0, 0, 0), (.iconst z, 1, 0, 0, 0, v)] = true) (ha : decode cc (pc + 6) = .ok (.iastore, 1) ∧ lnkB 11 true (pc + 6) (.iastore, 1, 0, 0, 0, 0) = true) (hr : rho0 57 i = some k) (hk : kd0[k]? = some (13, sz)) (hj : j < sz) (hs : sz < 2147483648) (hv : v = nI x) (kx : Runs (Ex d) cc 11 true nL rt none cp Post (pc + 7) [(1, .int (nI j)), (0, .ref 57)] [] (stt (nw (up2 w k j x)) t00) kc ks) : Runs (Ex d) cc 11 true nL rt none cp Post pc [(1, .int (nI j)), (0, .ref 57)] [] (stt (nw w) t00) kc ks := by
  refine R_seg _ h (pc' := pc + 6) (lv' := [(1, .int (nI j)), (0, .ref 57)]) (st' := [.int v, .int (nI j), va_rf (rho0 57 i)]) (S' := stt (nw w) t00) (kc' := kc) (ks' := ks) rfl ⟨trivial, rfl, trivial, trivial, trivial⟩ ?_
  rw [hr]
  refine R_iast (n := sz) (j := j) ha hk rfl hj ?_ hs
  show Runs (Ex d) cc 11 true nL rt none cp Post (pc + 7) [(1, .int (nI j)), (0, .ref 57)] [] (kd0, up2 (nw w) k j v, t00, rho0) kc ks
  rw [nw_up hv]
  exact kx
theorem R_stv_bipush {z} {v : Int32} {f i k j sz x : Nat} (h : segB 11 true cc pc [(.aload_n 0, 1, 0, 0, 0, 0), (.getfield f, 3, 11, i, 2, 0), (.iload_n 1, 1, 0, 0, 0, 0), (.bipush z, 2, 0, 0, 0, v)] = true) (ha : decode cc (pc + 7) = .ok (.iastore, 1) ∧ lnkB 11 true (pc + 7) (.iastore, 1, 0, 0, 0, 0) = true) (hr : rho0 57 i = some k) (hk : kd0[k]? = some (13, sz)) (hj : j < sz) (hs : sz < 2147483648) (hv : v = nI x) (kx : Runs (Ex d) cc 11 true nL rt none cp Post (pc + 8) [(1, .int (nI j)), (0, .ref 57)] [] (stt (nw (up2 w k j x)) t00) kc ks) : Runs (Ex d) cc 11 true nL rt none cp Post pc [(1, .int (nI j)), (0, .ref 57)] [] (stt (nw w) t00) kc ks := by
  refine R_seg _ h (pc' := pc + 7) (lv' := [(1, .int (nI j)), (0, .ref 57)]) (st' := [.int v, .int (nI j), va_rf (rho0 57 i)]) (S' := stt (nw w) t00) (kc' := kc) (ks' := ks) rfl ⟨trivial, rfl, trivial, trivial, trivial⟩ ?_
  rw [hr]
  refine R_iast (n := sz) (j := j) ha hk rfl hj ?_ hs
  show Runs (Ex d) cc 11 true nL rt none cp Post (pc + 8) [(1, .int (nI j)), (0, .ref 57)] [] (kd0, up2 (nw w) k j v, t00, rho0) kc ks
  rw [nw_up hv]
  exact kx
end STV
theorem l_79_449 {d : Nat} {cp : Nat × Nat} {Post : Option Value → Sto → Prop} {w : WW} {kc ks : Nat} (hp : RU_79 d cp Post 468 [(1, .int (nI 6)), (0, .ref 57)] [] (stt (nw (flw w 70 0 6 1)) t00) kc ks) : ∀ (n i : Nat), i ≤ 6 → 6 - i < n → RU_79 d cp Post 449 [(1, .int (nI i)), (0, .ref 57)] [] (stt (nw (flw w 70 0 i 1)) t00) kc ks := by
  intro n
  induction n with
  | zero => intro i h1 h2; exact absurd h2 (by omega)
  | succ n ih =>
    intro i h1 h2
    refine R_seg sg_79_449 sk_79_449 (pc' := 452) (lv' := [(1, .int (nI i)), (0, .ref 57)]) (st' := [.int (nI 6), .int (nI i)]) (S' := stt (nw (flw w 70 0 i 1)) t00) (kc' := kc) (ks' := ks) rfl ⟨trivial, trivial, trivial⟩ ?_
    refine R_icmp ck_79_452 (fun (c : nI 6 ≤ nI i) => ?_) (fun (c : ¬ nI 6 ≤ nI i) => ?_)
    · have c : 6 ≤ i := (nI_leI (by omega) (by omega)).mp c
      rw [show i = 6 by omega]
      exact hp
    · have c : i < 6 := Nat.not_le.mp (fun q => c ((nI_leI (by omega) (by omega)).mpr q))
      refine R_stv_iconst (i := 15) (k := 70) (sz := 6) (x := 1) (by decide +kernel : segB 11 true prog_13_method_1_code 455 [(.aload_n 0, 1, 0, 0, 0, 0), (.getfield 46, 3, 11, 15, 2, 0), (.iload_n 1, 1, 0, 0, 0, 0), (.iconst 1, 1, 0, 0, 0, 1)] = true) ca_79_461 rfl rfl c (by decide) rfl ?_
      rw [flw_s _ _ _ _ _ (Nat.zero_le _)]
      refine R_seg sg_79_462 sk_79_462 (pc' := 465) (lv' := [(1, .int (nI i + 1)), (0, .ref 57)]) (st' := []) (S' := stt (nw (flw w 70 0 (i + 1) 1)) t00) (kc' := kc) (ks' := ks) rfl ⟨(by decide), trivial⟩ ?_
      refine R_goto ck_79_465 ?_
      rw [nI_1]
      exact ih (i + 1) (by omega) (by omega)
theorem x_79_449 {d : Nat} {cp : Nat × Nat} {Post : Option Value → Sto → Prop} {w : WW} {kc ks : Nat} (hp : RU_79 d cp Post 468 [(1, .int (nI 6)), (0, .ref 57)] [] (stt (nw (flw w 70 0 6 1)) t00) kc ks) : RU_79 d cp Post 449 [(1, .int (nI 0)), (0, .ref 57)] [] (stt (nw w) t00) kc ks := by
  have q := l_79_449 hp 7 0 (by decide) (by decide)
  rw [flw_0] at q
  exact q
theorem l_79_470 {d : Nat} {cp : Nat × Nat} {Post : Option Value → Sto → Prop} {w : WW} {kc ks : Nat} (hp : RU_79 d cp Post 489 [(1, .int (nI 24)), (0, .ref 57)] [] (stt (nw (flw w 74 0 24 5)) t00) kc ks) : ∀ (n i : Nat), i ≤ 24 → 24 - i < n → RU_79 d cp Post 470 [(1, .int (nI i)), (0, .ref 57)] [] (stt (nw (flw w 74 0 i 5)) t00) kc ks := by
  intro n
  induction n with
  | zero => intro i h1 h2; exact absurd h2 (by omega)
  | succ n ih =>
    intro i h1 h2
    refine R_seg sg_79_470 sk_79_470 (pc' := 473) (lv' := [(1, .int (nI i)), (0, .ref 57)]) (st' := [.int (nI 24), .int (nI i)]) (S' := stt (nw (flw w 74 0 i 5)) t00) (kc' := kc) (ks' := ks) rfl ⟨trivial, trivial, trivial⟩ ?_
    refine R_icmp ck_79_473 (fun (c : nI 24 ≤ nI i) => ?_) (fun (c : ¬ nI 24 ≤ nI i) => ?_)
    · have c : 24 ≤ i := (nI_leI (by omega) (by omega)).mp c
      rw [show i = 24 by omega]
      exact hp
    · have c : i < 24 := Nat.not_le.mp (fun q => c ((nI_leI (by omega) (by omega)).mpr q))
      refine R_stv_iconst (i := 19) (k := 74) (sz := 24) (x := 5) (by decide +kernel : segB 11 true prog_13_method_1_code 476 [(.aload_n 0, 1, 0, 0, 0, 0), (.getfield 58, 3, 11, 19, 2, 0), (.iload_n 1, 1, 0, 0, 0, 0), (.iconst 5, 1, 0, 0, 0, 5)] = true) ca_79_482 rfl rfl c (by decide) rfl ?_
      rw [flw_s _ _ _ _ _ (Nat.zero_le _)]
      refine R_seg sg_79_483 sk_79_483 (pc' := 486) (lv' := [(1, .int (nI i + 1)), (0, .ref 57)]) (st' := []) (S' := stt (nw (flw w 74 0 (i + 1) 5)) t00) (kc' := kc) (ks' := ks) rfl ⟨(by decide), trivial⟩ ?_
      refine R_goto ck_79_486 ?_
      rw [nI_1]
      exact ih (i + 1) (by omega) (by omega)
theorem x_79_470 {d : Nat} {cp : Nat × Nat} {Post : Option Value → Sto → Prop} {w : WW} {kc ks : Nat} (hp : RU_79 d cp Post 489 [(1, .int (nI 24)), (0, .ref 57)] [] (stt (nw (flw w 74 0 24 5)) t00) kc ks) : RU_79 d cp Post 470 [(1, .int (nI 0)), (0, .ref 57)] [] (stt (nw w) t00) kc ks := by
  have q := l_79_470 hp 25 0 (by decide) (by decide)
  rw [flw_0] at q
  exact q
theorem l_79_491 {d : Nat} {cp : Nat × Nat} {Post : Option Value → Sto → Prop} {w : WW} {kc ks : Nat} (hp : RU_79 d cp Post 511 [(1, .int (nI 768)), (0, .ref 57)] [] (stt (nw (flw w 78 0 768 N1)) t00) kc ks) : ∀ (n i : Nat), i ≤ 768 → 768 - i < n → RU_79 d cp Post 491 [(1, .int (nI i)), (0, .ref 57)] [] (stt (nw (flw w 78 0 i N1)) t00) kc ks := by
  intro n
  induction n with
  | zero => intro i h1 h2; exact absurd h2 (by omega)
  | succ n ih =>
    intro i h1 h2
    refine R_seg sg_79_491 sk_79_491 (pc' := 495) (lv' := [(1, .int (nI i)), (0, .ref 57)]) (st' := [.int (nI 768), .int (nI i)]) (S' := stt (nw (flw w 78 0 i N1)) t00) (kc' := kc) (ks' := ks) rfl ⟨trivial, trivial, trivial⟩ ?_
    refine R_icmp ck_79_495 (fun (c : nI 768 ≤ nI i) => ?_) (fun (c : ¬ nI 768 ≤ nI i) => ?_)
    · have c : 768 ≤ i := (nI_leI (by omega) (by omega)).mp c
      rw [show i = 768 by omega]
      exact hp
    · have c : i < 768 := Nat.not_le.mp (fun q => c ((nI_leI (by omega) (by omega)).mpr q))
      refine R_stv_iconst (i := 23) (k := 78) (sz := 768) (x := N1) (by decide +kernel : segB 11 true prog_13_method_1_code 498 [(.aload_n 0, 1, 0, 0, 0, 0), (.getfield 71, 3, 11, 23, 2, 0), (.iload_n 1, 1, 0, 0, 0, 0), (.iconst (-1), 1, 0, 0, 0, -1)] = true) ca_79_504 rfl rfl c (by decide) rfl ?_
      rw [flw_s _ _ _ _ _ (Nat.zero_le _)]
      refine R_seg sg_79_505 sk_79_505 (pc' := 508) (lv' := [(1, .int (nI i + 1)), (0, .ref 57)]) (st' := []) (S' := stt (nw (flw w 78 0 (i + 1) N1)) t00) (kc' := kc) (ks' := ks) rfl ⟨(by decide), trivial⟩ ?_
      refine R_goto ck_79_508 ?_
      rw [nI_1]
      exact ih (i + 1) (by omega) (by omega)
theorem x_79_491 {d : Nat} {cp : Nat × Nat} {Post : Option Value → Sto → Prop} {w : WW} {kc ks : Nat} (hp : RU_79 d cp Post 511 [(1, .int (nI 768)), (0, .ref 57)] [] (stt (nw (flw w 78 0 768 N1)) t00) kc ks) : RU_79 d cp Post 491 [(1, .int (nI 0)), (0, .ref 57)] [] (stt (nw w) t00) kc ks := by
  have q := l_79_491 hp 769 0 (by decide) (by decide)
  rw [flw_0] at q
  exact q
theorem l_79_513 {d : Nat} {cp : Nat × Nat} {Post : Option Value → Sto → Prop} {w : WW} {kc ks : Nat} (hp : RU_79 d cp Post 533 [(1, .int (nI 192)), (0, .ref 57)] [] (stt (nw (flw w 81 0 192 N1)) t00) kc ks) : ∀ (n i : Nat), i ≤ 192 → 192 - i < n → RU_79 d cp Post 513 [(1, .int (nI i)), (0, .ref 57)] [] (stt (nw (flw w 81 0 i N1)) t00) kc ks := by
  intro n
  induction n with
  | zero => intro i h1 h2; exact absurd h2 (by omega)
  | succ n ih =>
    intro i h1 h2
    refine R_seg sg_79_513 sk_79_513 (pc' := 517) (lv' := [(1, .int (nI i)), (0, .ref 57)]) (st' := [.int (nI 192), .int (nI i)]) (S' := stt (nw (flw w 81 0 i N1)) t00) (kc' := kc) (ks' := ks) rfl ⟨trivial, trivial, trivial⟩ ?_
    refine R_icmp ck_79_517 (fun (c : nI 192 ≤ nI i) => ?_) (fun (c : ¬ nI 192 ≤ nI i) => ?_)
    · have c : 192 ≤ i := (nI_leI (by omega) (by omega)).mp c
      rw [show i = 192 by omega]
      exact hp
    · have c : i < 192 := Nat.not_le.mp (fun q => c ((nI_leI (by omega) (by omega)).mpr q))
      refine R_stv_iconst (i := 26) (k := 81) (sz := 192) (x := N1) (by decide +kernel : segB 11 true prog_13_method_1_code 520 [(.aload_n 0, 1, 0, 0, 0, 0), (.getfield 80, 3, 11, 26, 2, 0), (.iload_n 1, 1, 0, 0, 0, 0), (.iconst (-1), 1, 0, 0, 0, -1)] = true) ca_79_526 rfl rfl c (by decide) rfl ?_
      rw [flw_s _ _ _ _ _ (Nat.zero_le _)]
      refine R_seg sg_79_527 sk_79_527 (pc' := 530) (lv' := [(1, .int (nI i + 1)), (0, .ref 57)]) (st' := []) (S' := stt (nw (flw w 81 0 (i + 1) N1)) t00) (kc' := kc) (ks' := ks) rfl ⟨(by decide), trivial⟩ ?_
      refine R_goto ck_79_530 ?_
      rw [nI_1]
      exact ih (i + 1) (by omega) (by omega)
theorem x_79_513 {d : Nat} {cp : Nat × Nat} {Post : Option Value → Sto → Prop} {w : WW} {kc ks : Nat} (hp : RU_79 d cp Post 533 [(1, .int (nI 192)), (0, .ref 57)] [] (stt (nw (flw w 81 0 192 N1)) t00) kc ks) : RU_79 d cp Post 513 [(1, .int (nI 0)), (0, .ref 57)] [] (stt (nw w) t00) kc ks := by
  have q := l_79_513 hp 193 0 (by decide) (by decide)
  rw [flw_0] at q
  exact q
def w_79 (w : WW) : WW := (up2 (up2 (up2 (up2 (up2 (up2 (up2 (up2 (up2 (up2 (up2 (up2 (up2 (up2 (up2 (up2 (flw (flw (flw (flw (up2 (up2 (up2 (up2 (up2 (up2 (up2 (up2 (up2 (up2 (up2 (up2 (up2 (up2 (up2 (up2 (up2 (up2 (up2 (up2 (up2 (up2 (up2 (up2 (up2 (up2 (up2 (up2 (up2 (up2 (up2 w 57 58 N1) 58 0 1) 59 0 8) 60 0 8) 62 0 10) 64 0 N1) 65 0 N1) 58 1 1) 59 1 8) 60 1 8) 62 1 10) 64 1 N1) 65 1 N1) 58 2 1) 59 2 8) 60 2 8) 62 2 10) 64 2 N1) 65 2 N1) 58 3 1) 59 3 8) 60 3 8) 62 3 10) 64 3 N1) 65 3 N1) 58 4 1) 59 4 8) 60 4 8) 62 4 10) 64 4 N1) 65 4 N1) 70 0 6 1) 74 0 24 5) 78 0 768 N1) 81 0 192 N1) 82 0 63) 83 0 100) 84 0 10) 85 0 100) 82 1 63) 83 1 100) 84 1 10) 85 1 100) 82 2 63) 83 2 100) 84 2 10) 85 2 100) 82 3 63) 83 3 100) 84 3 10) 85 3 100)
set_option maxHeartbeats 8000000 in
theorem cn_79 {d : Nat} {w : WW} {ρ : RHO} {Post : Option Value → Sto → Prop} (z0 : ZR 58 w ρ) (hr : r_79 ρ = rho0) (hp : Post none (stt (nw (w_79 w)) t00)) : Ex (d + 1) 79 [.ref 57] (cW 58 w ρ) 47 71123 Post := by
  refine en_79 (Nat.le_of_ble_eq_true rfl) ?_
  show RU_79 d (47, 71123) Post 0 [(0, .ref 57)] [] (cW 58 w ρ) 0 0
  refine R_ob (by decide +kernel : segB 11 true prog_13_method_1_code 0 [(.aload_n 0, 1, 0, 0, 0, 0), (.invokespecial 3, 3, 0, 4, 0, 0)] = true) ?_
  refine R_ar_iconst (k := 57) (n := 58) (m := 5) (by decide +kernel : segB 11 true prog_13_method_1_code 4 [(.aload_n 0, 1, 0, 0, 0, 0), (.iconst 5, 1, 0, 0, 0, 5), (.newarray .int, 2, 13, 0, 0, 0), (.putfield 9, 3, 11, 2, 2, 0)] = true) ⟨by decide, by decide, by decide⟩ rfl (by decide) rfl ⟨by decide, by decide⟩ z0 (fun z1 => ?_)
  refine R_ar_iconst (k := 57) (n := 59) (m := 5) (by decide +kernel : segB 11 true prog_13_method_1_code 11 [(.aload_n 0, 1, 0, 0, 0, 0), (.iconst 5, 1, 0, 0, 0, 5), (.newarray .int, 2, 13, 0, 0, 0), (.putfield 13, 3, 11, 3, 2, 0)] = true) ⟨by decide, by decide, by decide⟩ rfl (by decide) rfl ⟨by decide, by decide⟩ z1 (fun z2 => ?_)
  refine R_ar_iconst (k := 57) (n := 60) (m := 5) (by decide +kernel : segB 11 true prog_13_method_1_code 18 [(.aload_n 0, 1, 0, 0, 0, 0), (.iconst 5, 1, 0, 0, 0, 5), (.newarray .int, 2, 13, 0, 0, 0), (.putfield 16, 3, 11, 4, 2, 0)] = true) ⟨by decide, by decide, by decide⟩ rfl (by decide) rfl ⟨by decide, by decide⟩ z2 (fun z3 => ?_)
  refine R_ar_iconst (k := 57) (n := 61) (m := 5) (by decide +kernel : segB 11 true prog_13_method_1_code 25 [(.aload_n 0, 1, 0, 0, 0, 0), (.iconst 5, 1, 0, 0, 0, 5), (.newarray .int, 2, 13, 0, 0, 0), (.putfield 19, 3, 11, 5, 2, 0)] = true) ⟨by decide, by decide, by decide⟩ rfl (by decide) rfl ⟨by decide, by decide⟩ z3 (fun z4 => ?_)
  refine R_ar_iconst (k := 57) (n := 62) (m := 5) (by decide +kernel : segB 11 true prog_13_method_1_code 32 [(.aload_n 0, 1, 0, 0, 0, 0), (.iconst 5, 1, 0, 0, 0, 5), (.newarray .int, 2, 13, 0, 0, 0), (.putfield 22, 3, 11, 6, 2, 0)] = true) ⟨by decide, by decide, by decide⟩ rfl (by decide) rfl ⟨by decide, by decide⟩ z4 (fun z5 => ?_)
  refine R_ar_iconst (k := 57) (n := 63) (m := 5) (by decide +kernel : segB 11 true prog_13_method_1_code 39 [(.aload_n 0, 1, 0, 0, 0, 0), (.iconst 5, 1, 0, 0, 0, 5), (.newarray .int, 2, 13, 0, 0, 0), (.putfield 25, 3, 11, 7, 2, 0)] = true) ⟨by decide, by decide, by decide⟩ rfl (by decide) rfl ⟨by decide, by decide⟩ z5 (fun z6 => ?_)
  refine R_ar_iconst (k := 57) (n := 64) (m := 5) (by decide +kernel : segB 11 true prog_13_method_1_code 46 [(.aload_n 0, 1, 0, 0, 0, 0), (.iconst 5, 1, 0, 0, 0, 5), (.newarray .int, 2, 13, 0, 0, 0), (.putfield 28, 3, 11, 8, 2, 0)] = true) ⟨by decide, by decide, by decide⟩ rfl (by decide) rfl ⟨by decide, by decide⟩ z6 (fun z7 => ?_)
  refine R_ar_iconst (k := 57) (n := 65) (m := 5) (by decide +kernel : segB 11 true prog_13_method_1_code 53 [(.aload_n 0, 1, 0, 0, 0, 0), (.iconst 5, 1, 0, 0, 0, 5), (.newarray .int, 2, 13, 0, 0, 0), (.putfield 31, 3, 11, 9, 2, 0)] = true) ⟨by decide, by decide, by decide⟩ rfl (by decide) rfl ⟨by decide, by decide⟩ z7 (fun z8 => ?_)
  refine R_ar_bipush (k := 57) (n := 66) (m := 20) (by decide +kernel : segB 11 true prog_13_method_1_code 60 [(.aload_n 0, 1, 0, 0, 0, 0), (.bipush 20, 2, 0, 0, 0, 20), (.newarray .int, 2, 13, 0, 0, 0), (.putfield 34, 3, 11, 11, 2, 0)] = true) ⟨by decide, by decide, by decide⟩ rfl (by decide) rfl ⟨by decide, by decide⟩ z8 (fun z9 => ?_)
  refine R_ar_bipush (k := 57) (n := 67) (m := 20) (by decide +kernel : segB 11 true prog_13_method_1_code 68 [(.aload_n 0, 1, 0, 0, 0, 0), (.bipush 20, 2, 0, 0, 0, 20), (.newarray .int, 2, 13, 0, 0, 0), (.putfield 37, 3, 11, 12, 2, 0)] = true) ⟨by decide, by decide, by decide⟩ rfl (by decide) rfl ⟨by decide, by decide⟩ z9 (fun z10 => ?_)
  refine R_ar_bipush (k := 57) (n := 68) (m := 20) (by decide +kernel : segB 11 true prog_13_method_1_code 76 [(.aload_n 0, 1, 0, 0, 0, 0), (.bipush 20, 2, 0, 0, 0, 20), (.newarray .int, 2, 13, 0, 0, 0), (.putfield 40, 3, 11, 13, 2, 0)] = true) ⟨by decide, by decide, by decide⟩ rfl (by decide) rfl ⟨by decide, by decide⟩ z10 (fun z11 => ?_)
  refine R_ar_bipush (k := 57) (n := 69) (m := 6) (by decide +kernel : segB 11 true prog_13_method_1_code 84 [(.aload_n 0, 1, 0, 0, 0, 0), (.bipush 6, 2, 0, 0, 0, 6), (.newarray .int, 2, 13, 0, 0, 0), (.putfield 43, 3, 11, 14, 2, 0)] = true) ⟨by decide, by decide, by decide⟩ rfl (by decide) rfl ⟨by decide, by decide⟩ z11 (fun z12 => ?_)
  refine R_ar_bipush (k := 57) (n := 70) (m := 6) (by decide +kernel : segB 11 true prog_13_method_1_code 92 [(.aload_n 0, 1, 0, 0, 0, 0), (.bipush 6, 2, 0, 0, 0, 6), (.newarray .int, 2, 13, 0, 0, 0), (.putfield 46, 3, 11, 15, 2, 0)] = true) ⟨by decide, by decide, by decide⟩ rfl (by decide) rfl ⟨by decide, by decide⟩ z12 (fun z13 => ?_)
  refine R_ar_bipush (k := 57) (n := 71) (m := 6) (by decide +kernel : segB 11 true prog_13_method_1_code 100 [(.aload_n 0, 1, 0, 0, 0, 0), (.bipush 6, 2, 0, 0, 0, 6), (.newarray .int, 2, 13, 0, 0, 0), (.putfield 49, 3, 11, 16, 2, 0)] = true) ⟨by decide, by decide, by decide⟩ rfl (by decide) rfl ⟨by decide, by decide⟩ z13 (fun z14 => ?_)
  refine R_ar_bipush (k := 57) (n := 72) (m := 24) (by decide +kernel : segB 11 true prog_13_method_1_code 108 [(.aload_n 0, 1, 0, 0, 0, 0), (.bipush 24, 2, 0, 0, 0, 24), (.newarray .int, 2, 13, 0, 0, 0), (.putfield 52, 3, 11, 17, 2, 0)] = true) ⟨by decide, by decide, by decide⟩ rfl (by decide) rfl ⟨by decide, by decide⟩ z14 (fun z15 => ?_)
  refine R_ar_bipush (k := 57) (n := 73) (m := 24) (by decide +kernel : segB 11 true prog_13_method_1_code 116 [(.aload_n 0, 1, 0, 0, 0, 0), (.bipush 24, 2, 0, 0, 0, 24), (.newarray .int, 2, 13, 0, 0, 0), (.putfield 55, 3, 11, 18, 2, 0)] = true) ⟨by decide, by decide, by decide⟩ rfl (by decide) rfl ⟨by decide, by decide⟩ z15 (fun z16 => ?_)
  refine R_ar_bipush (k := 57) (n := 74) (m := 24) (by decide +kernel : segB 11 true prog_13_method_1_code 124 [(.aload_n 0, 1, 0, 0, 0, 0), (.bipush 24, 2, 0, 0, 0, 24), (.newarray .int, 2, 13, 0, 0, 0), (.putfield 58, 3, 11, 19, 2, 0)] = true) ⟨by decide, by decide, by decide⟩ rfl (by decide) rfl ⟨by decide, by decide⟩ z16 (fun z17 => ?_)
  refine R_ar_bipush (k := 57) (n := 75) (m := 24) (by decide +kernel : segB 11 true prog_13_method_1_code 132 [(.aload_n 0, 1, 0, 0, 0, 0), (.bipush 24, 2, 0, 0, 0, 24), (.newarray .boolean, 2, 15, 0, 0, 0), (.putfield 61, 3, 11, 20, 2, 0)] = true) ⟨by decide, by decide, by decide⟩ rfl (by decide) rfl ⟨by decide, by decide⟩ z17 (fun z18 => ?_)
  refine R_ar_sipush (k := 57) (n := 76) (m := 192) (by decide +kernel : segB 11 true prog_13_method_1_code 140 [(.aload_n 0, 1, 0, 0, 0, 0), (.sipush 192, 3, 0, 0, 0, 192), (.newarray .boolean, 2, 15, 0, 0, 0), (.putfield 65, 3, 11, 21, 2, 0)] = true) ⟨by decide, by decide, by decide⟩ rfl (by decide) rfl ⟨by decide, by decide⟩ z18 (fun z19 => ?_)
  refine R_ar_sipush (k := 57) (n := 77) (m := 768) (by decide +kernel : segB 11 true prog_13_method_1_code 149 [(.aload_n 0, 1, 0, 0, 0, 0), (.sipush 768, 3, 0, 0, 0, 768), (.newarray .int, 2, 13, 0, 0, 0), (.putfield 68, 3, 11, 22, 2, 0)] = true) ⟨by decide, by decide, by decide⟩ rfl (by decide) rfl ⟨by decide, by decide⟩ z19 (fun z20 => ?_)
  refine R_ar_sipush (k := 57) (n := 78) (m := 768) (by decide +kernel : segB 11 true prog_13_method_1_code 158 [(.aload_n 0, 1, 0, 0, 0, 0), (.sipush 768, 3, 0, 0, 0, 768), (.newarray .int, 2, 13, 0, 0, 0), (.putfield 71, 3, 11, 23, 2, 0)] = true) ⟨by decide, by decide, by decide⟩ rfl (by decide) rfl ⟨by decide, by decide⟩ z20 (fun z21 => ?_)
  refine R_ar_sipush (k := 57) (n := 79) (m := 768) (by decide +kernel : segB 11 true prog_13_method_1_code 167 [(.aload_n 0, 1, 0, 0, 0, 0), (.sipush 768, 3, 0, 0, 0, 768), (.newarray .int, 2, 13, 0, 0, 0), (.putfield 74, 3, 11, 24, 2, 0)] = true) ⟨by decide, by decide, by decide⟩ rfl (by decide) rfl ⟨by decide, by decide⟩ z21 (fun z22 => ?_)
  refine R_ar_sipush (k := 57) (n := 80) (m := 768) (by decide +kernel : segB 11 true prog_13_method_1_code 176 [(.aload_n 0, 1, 0, 0, 0, 0), (.sipush 768, 3, 0, 0, 0, 768), (.newarray .int, 2, 13, 0, 0, 0), (.putfield 77, 3, 11, 25, 2, 0)] = true) ⟨by decide, by decide, by decide⟩ rfl (by decide) rfl ⟨by decide, by decide⟩ z22 (fun z23 => ?_)
  refine R_ar_sipush (k := 57) (n := 81) (m := 192) (by decide +kernel : segB 11 true prog_13_method_1_code 185 [(.aload_n 0, 1, 0, 0, 0, 0), (.sipush 192, 3, 0, 0, 0, 192), (.newarray .int, 2, 13, 0, 0, 0), (.putfield 80, 3, 11, 26, 2, 0)] = true) ⟨by decide, by decide, by decide⟩ rfl (by decide) rfl ⟨by decide, by decide⟩ z23 (fun z24 => ?_)
  refine R_ar_iconst (k := 57) (n := 82) (m := 4) (by decide +kernel : segB 11 true prog_13_method_1_code 194 [(.aload_n 0, 1, 0, 0, 0, 0), (.iconst 4, 1, 0, 0, 0, 4), (.newarray .int, 2, 13, 0, 0, 0), (.putfield 83, 3, 11, 27, 2, 0)] = true) ⟨by decide, by decide, by decide⟩ rfl (by decide) rfl ⟨by decide, by decide⟩ z24 (fun z25 => ?_)
  refine R_ar_iconst (k := 57) (n := 83) (m := 4) (by decide +kernel : segB 11 true prog_13_method_1_code 201 [(.aload_n 0, 1, 0, 0, 0, 0), (.iconst 4, 1, 0, 0, 0, 4), (.newarray .int, 2, 13, 0, 0, 0), (.putfield 86, 3, 11, 28, 2, 0)] = true) ⟨by decide, by decide, by decide⟩ rfl (by decide) rfl ⟨by decide, by decide⟩ z25 (fun z26 => ?_)
  refine R_ar_iconst (k := 57) (n := 84) (m := 4) (by decide +kernel : segB 11 true prog_13_method_1_code 208 [(.aload_n 0, 1, 0, 0, 0, 0), (.iconst 4, 1, 0, 0, 0, 4), (.newarray .int, 2, 13, 0, 0, 0), (.putfield 89, 3, 11, 29, 2, 0)] = true) ⟨by decide, by decide, by decide⟩ rfl (by decide) rfl ⟨by decide, by decide⟩ z26 (fun z27 => ?_)
  refine R_ar_iconst (k := 57) (n := 85) (m := 4) (by decide +kernel : segB 11 true prog_13_method_1_code 215 [(.aload_n 0, 1, 0, 0, 0, 0), (.iconst 4, 1, 0, 0, 0, 4), (.newarray .int, 2, 13, 0, 0, 0), (.putfield 92, 3, 11, 30, 2, 0)] = true) ⟨by decide, by decide, by decide⟩ rfl (by decide) rfl ⟨by decide, by decide⟩ z27 (fun z28 => ?_)
  refine R_ar_sipush (k := 57) (n := 86) (m := 200) (by decide +kernel : segB 11 true prog_13_method_1_code 222 [(.aload_n 0, 1, 0, 0, 0, 0), (.sipush 200, 3, 0, 0, 0, 200), (.newarray .byte, 2, 12, 0, 0, 0), (.putfield 95, 3, 11, 31, 2, 0)] = true) ⟨by decide, by decide, by decide⟩ rfl (by decide) rfl ⟨by decide, by decide⟩ z28 (fun z29 => ?_)
  refine R_ar_bipush (k := 57) (n := 87) (m := 20) (by decide +kernel : segB 11 true prog_13_method_1_code 231 [(.aload_n 0, 1, 0, 0, 0, 0), (.bipush 20, 2, 0, 0, 0, 20), (.newarray .int, 2, 13, 0, 0, 0), (.putfield 99, 3, 11, 36, 2, 0)] = true) ⟨by decide, by decide, by decide⟩ rfl (by decide) rfl ⟨by decide, by decide⟩ z29 (fun z30 => ?_)
  refine R_ar_bipush (k := 57) (n := 88) (m := 20) (by decide +kernel : segB 11 true prog_13_method_1_code 239 [(.aload_n 0, 1, 0, 0, 0, 0), (.bipush 20, 2, 0, 0, 0, 20), (.newarray .int, 2, 13, 0, 0, 0), (.putfield 102, 3, 11, 37, 2, 0)] = true) ⟨by decide, by decide, by decide⟩ rfl (by decide) rfl ⟨by decide, by decide⟩ z30 (fun z31 => ?_)
  refine R_ar_bipush (k := 57) (n := 89) (m := 20) (by decide +kernel : segB 11 true prog_13_method_1_code 247 [(.aload_n 0, 1, 0, 0, 0, 0), (.bipush 20, 2, 0, 0, 0, 20), (.newarray .int, 2, 13, 0, 0, 0), (.putfield 105, 3, 11, 38, 2, 0)] = true) ⟨by decide, by decide, by decide⟩ rfl (by decide) rfl ⟨by decide, by decide⟩ z31 (fun z32 => ?_)
  refine R_ar_bipush (k := 57) (n := 90) (m := 120) (by decide +kernel : segB 11 true prog_13_method_1_code 255 [(.aload_n 0, 1, 0, 0, 0, 0), (.bipush 120, 2, 0, 0, 0, 120), (.newarray .int, 2, 13, 0, 0, 0), (.putfield 108, 3, 11, 39, 2, 0)] = true) ⟨by decide, by decide, by decide⟩ rfl (by decide) rfl ⟨by decide, by decide⟩ z32 (fun z33 => ?_)
  refine R_ar_bipush (k := 57) (n := 91) (m := 120) (by decide +kernel : segB 11 true prog_13_method_1_code 263 [(.aload_n 0, 1, 0, 0, 0, 0), (.bipush 120, 2, 0, 0, 0, 120), (.newarray .int, 2, 13, 0, 0, 0), (.putfield 111, 3, 11, 40, 2, 0)] = true) ⟨by decide, by decide, by decide⟩ rfl (by decide) rfl ⟨by decide, by decide⟩ z33 (fun z34 => ?_)
  refine R_ar_bipush (k := 57) (n := 92) (m := 20) (by decide +kernel : segB 11 true prog_13_method_1_code 271 [(.aload_n 0, 1, 0, 0, 0, 0), (.bipush 20, 2, 0, 0, 0, 20), (.newarray .long, 2, 14, 0, 0, 0), (.putfield 114, 3, 11, 41, 2, 0)] = true) ⟨by decide, by decide, by decide⟩ rfl (by decide) rfl ⟨by decide, by decide⟩ z34 (fun z35 => ?_)
  refine R_ar_iconst (k := 57) (n := 93) (m := 5) (by decide +kernel : segB 11 true prog_13_method_1_code 279 [(.aload_n 0, 1, 0, 0, 0, 0), (.iconst 5, 1, 0, 0, 0, 5), (.newarray .int, 2, 13, 0, 0, 0), (.putfield 118, 3, 11, 42, 2, 0)] = true) ⟨by decide, by decide, by decide⟩ rfl (by decide) rfl ⟨by decide, by decide⟩ z35 (fun z36 => ?_)
  refine R_ar_sipush (k := 57) (n := 94) (m := 192) (by decide +kernel : segB 11 true prog_13_method_1_code 286 [(.aload_n 0, 1, 0, 0, 0, 0), (.sipush 192, 3, 0, 0, 0, 192), (.newarray .int, 2, 13, 0, 0, 0), (.putfield 121, 3, 11, 44, 2, 0)] = true) ⟨by decide, by decide, by decide⟩ rfl (by decide) rfl ⟨by decide, by decide⟩ z36 (fun z37 => ?_)
  refine R_ar_sipush (k := 57) (n := 95) (m := 192) (by decide +kernel : segB 11 true prog_13_method_1_code 295 [(.aload_n 0, 1, 0, 0, 0, 0), (.sipush 192, 3, 0, 0, 0, 192), (.newarray .int, 2, 13, 0, 0, 0), (.putfield 124, 3, 11, 45, 2, 0)] = true) ⟨by decide, by decide, by decide⟩ rfl (by decide) rfl ⟨by decide, by decide⟩ z37 (fun z38 => ?_)
  refine R_ar_sipush (k := 57) (n := 96) (m := 3840) (by decide +kernel : segB 11 true prog_13_method_1_code 304 [(.aload_n 0, 1, 0, 0, 0, 0), (.sipush 3840, 3, 0, 0, 0, 3840), (.newarray .boolean, 2, 15, 0, 0, 0), (.putfield 127, 3, 11, 46, 2, 0)] = true) ⟨by decide, by decide, by decide⟩ rfl (by decide) rfl ⟨by decide, by decide⟩ z38 (fun z39 => ?_)
  refine R_ar_sipush (k := 57) (n := 97) (m := 192) (by decide +kernel : segB 11 true prog_13_method_1_code 313 [(.aload_n 0, 1, 0, 0, 0, 0), (.sipush 192, 3, 0, 0, 0, 192), (.newarray .int, 2, 13, 0, 0, 0), (.putfield 130, 3, 11, 48, 2, 0)] = true) ⟨by decide, by decide, by decide⟩ rfl (by decide) rfl ⟨by decide, by decide⟩ z39 (fun z40 => ?_)
  refine R_ar_sipush (k := 57) (n := 98) (m := 192) (by decide +kernel : segB 11 true prog_13_method_1_code 322 [(.aload_n 0, 1, 0, 0, 0, 0), (.sipush 192, 3, 0, 0, 0, 192), (.newarray .int, 2, 13, 0, 0, 0), (.putfield 133, 3, 11, 52, 2, 0)] = true) ⟨by decide, by decide, by decide⟩ rfl (by decide) rfl ⟨by decide, by decide⟩ z40 (fun z41 => ?_)
  refine R_ar_sipush (k := 57) (n := 99) (m := 192) (by decide +kernel : segB 11 true prog_13_method_1_code 331 [(.aload_n 0, 1, 0, 0, 0, 0), (.sipush 192, 3, 0, 0, 0, 192), (.newarray .int, 2, 13, 0, 0, 0), (.putfield 136, 3, 11, 53, 2, 0)] = true) ⟨by decide, by decide, by decide⟩ rfl (by decide) rfl ⟨by decide, by decide⟩ z41 (fun z42 => ?_)
  refine R_ar_sipush (k := 57) (n := 100) (m := 192) (by decide +kernel : segB 11 true prog_13_method_1_code 340 [(.aload_n 0, 1, 0, 0, 0, 0), (.sipush 192, 3, 0, 0, 0, 192), (.newarray .int, 2, 13, 0, 0, 0), (.putfield 139, 3, 11, 54, 2, 0)] = true) ⟨by decide, by decide, by decide⟩ rfl (by decide) rfl ⟨by decide, by decide⟩ z42 (fun z43 => ?_)
  refine R_ar_sipush (k := 57) (n := 101) (m := 192) (by decide +kernel : segB 11 true prog_13_method_1_code 349 [(.aload_n 0, 1, 0, 0, 0, 0), (.sipush 192, 3, 0, 0, 0, 192), (.newarray .int, 2, 13, 0, 0, 0), (.putfield 142, 3, 11, 55, 2, 0)] = true) ⟨by decide, by decide, by decide⟩ rfl (by decide) rfl ⟨by decide, by decide⟩ z43 (fun z44 => ?_)
  refine R_ar_sipush (k := 57) (n := 102) (m := 192) (by decide +kernel : segB 11 true prog_13_method_1_code 358 [(.aload_n 0, 1, 0, 0, 0, 0), (.sipush 192, 3, 0, 0, 0, 192), (.newarray .int, 2, 13, 0, 0, 0), (.putfield 145, 3, 11, 56, 2, 0)] = true) ⟨by decide, by decide, by decide⟩ rfl (by decide) rfl ⟨by decide, by decide⟩ z44 (fun z45 => ?_)
  refine R_ar_sipush (k := 57) (n := 103) (m := 1536) (by decide +kernel : segB 11 true prog_13_method_1_code 367 [(.aload_n 0, 1, 0, 0, 0, 0), (.sipush 1536, 3, 0, 0, 0, 1536), (.newarray .int, 2, 13, 0, 0, 0), (.putfield 148, 3, 11, 57, 2, 0)] = true) ⟨by decide, by decide, by decide⟩ rfl (by decide) rfl ⟨by decide, by decide⟩ z45 (fun z46 => ?_)
  refine R_pi_iconst (k := 57) (x := N1) (by decide +kernel : segB 11 true prog_13_method_1_code 376 [(.aload_n 0, 1, 0, 0, 0, 0), (.iconst (-1), 1, 0, 0, 0, -1), (.putfield 151, 3, 11, 58, 0, 0)] = true) rfl ⟨rfl, rfl⟩ rfl (by decide) z46 (fun z47 => ?_)
  refine R_ar_ldc (k := 57) (n := 104) (m := 60000) (by decide +kernel : segB 11 true prog_13_method_1_code 381 [(.aload_n 0, 1, 0, 0, 0, 0), (.ldc 155, 2, 0, 0, 0, 60000), (.newarray .int, 2, 13, 0, 0, 0), (.putfield 156, 3, 11, 61, 2, 0)] = true) ⟨by decide, by decide, by decide⟩ rfl (by decide) rfl ⟨by decide, by decide⟩ z47 (fun z48 => ?_)
  show RU_79 d (47, 71123) Post 389 [(0, .ref 57)] [] (cW 105 (up2 w 57 58 N1) (r_79 ρ)) 47 71123
  rw [cw_all hr]
  refine R_seg [(.iconst 0, 1, 0, 0, 0, 0), (.istore_n 1, 1, 0, 0, 0, 0)] (by decide +kernel : segB 11 true prog_13_method_1_code 389 [(.iconst 0, 1, 0, 0, 0, 0), (.istore_n 1, 1, 0, 0, 0, 0)] = true) (pc' := 391) (lv' := [(1, .int (nI 0)), (0, .ref 57)]) (st' := []) (S' := stt (nw _) t00) (kc' := 47) (ks' := 71123) rfl ⟨trivial, by decide, trivial⟩ ?_
  refine R_seg sg_79_391 sk_79_391 (pc' := 393) (lv' := [(1, .int (nI 0)), (0, .ref 57)]) (st' := [.int 5, .int (nI 0)]) (S' := stt (nw _) t00) (kc' := 47) (ks' := 71123) rfl ⟨trivial, trivial, trivial⟩ ?_
  refine R_icmp ck_79_393 (fun (c : (5 : Int32) ≤ nI 0) => absurd c (by decide)) (fun _ => ?_)
  refine R_stv_iconst (i := 2) (k := 58) (sz := 5) (x := 1) (by decide +kernel : segB 11 true prog_13_method_1_code 396 [(.aload_n 0, 1, 0, 0, 0, 0), (.getfield 9, 3, 11, 2, 2, 0), (.iload_n 1, 1, 0, 0, 0, 0), (.iconst 1, 1, 0, 0, 0, 1)] = true) ca_79_402 rfl rfl (by decide) (by decide) rfl ?_
  refine R_stv_bipush (i := 3) (k := 59) (sz := 5) (x := 8) (by decide +kernel : segB 11 true prog_13_method_1_code 403 [(.aload_n 0, 1, 0, 0, 0, 0), (.getfield 13, 3, 11, 3, 2, 0), (.iload_n 1, 1, 0, 0, 0, 0), (.bipush 8, 2, 0, 0, 0, 8)] = true) ca_79_410 rfl rfl (by decide) (by decide) rfl ?_
  refine R_stv_bipush (i := 4) (k := 60) (sz := 5) (x := 8) (by decide +kernel : segB 11 true prog_13_method_1_code 411 [(.aload_n 0, 1, 0, 0, 0, 0), (.getfield 16, 3, 11, 4, 2, 0), (.iload_n 1, 1, 0, 0, 0, 0), (.bipush 8, 2, 0, 0, 0, 8)] = true) ca_79_418 rfl rfl (by decide) (by decide) rfl ?_
  refine R_stv_bipush (i := 6) (k := 62) (sz := 5) (x := 10) (by decide +kernel : segB 11 true prog_13_method_1_code 419 [(.aload_n 0, 1, 0, 0, 0, 0), (.getfield 22, 3, 11, 6, 2, 0), (.iload_n 1, 1, 0, 0, 0, 0), (.bipush 10, 2, 0, 0, 0, 10)] = true) ca_79_426 rfl rfl (by decide) (by decide) rfl ?_
  refine R_stv_iconst (i := 8) (k := 64) (sz := 5) (x := N1) (by decide +kernel : segB 11 true prog_13_method_1_code 427 [(.aload_n 0, 1, 0, 0, 0, 0), (.getfield 28, 3, 11, 8, 2, 0), (.iload_n 1, 1, 0, 0, 0, 0), (.iconst (-1), 1, 0, 0, 0, -1)] = true) ca_79_433 rfl rfl (by decide) (by decide) rfl ?_
  refine R_stv_iconst (i := 9) (k := 65) (sz := 5) (x := N1) (by decide +kernel : segB 11 true prog_13_method_1_code 434 [(.aload_n 0, 1, 0, 0, 0, 0), (.getfield 31, 3, 11, 9, 2, 0), (.iload_n 1, 1, 0, 0, 0, 0), (.iconst (-1), 1, 0, 0, 0, -1)] = true) ca_79_440 rfl rfl (by decide) (by decide) rfl ?_
  refine R_seg sg_79_441 sk_79_441 (pc' := 444) (lv' := [(1, .int (nI 1)), (0, .ref 57)]) (st' := []) (S' := stt (nw _) t00) (kc' := 47) (ks' := 71123) rfl ⟨(by decide), trivial⟩ ?_
  refine R_goto ck_79_444 ?_
  refine R_seg sg_79_391 sk_79_391 (pc' := 393) (lv' := [(1, .int (nI 1)), (0, .ref 57)]) (st' := [.int 5, .int (nI 1)]) (S' := stt (nw _) t00) (kc' := 47) (ks' := 71123) rfl ⟨trivial, trivial, trivial⟩ ?_
  refine R_icmp ck_79_393 (fun (c : (5 : Int32) ≤ nI 1) => absurd c (by decide)) (fun _ => ?_)
  refine R_stv_iconst (i := 2) (k := 58) (sz := 5) (x := 1) (by decide +kernel : segB 11 true prog_13_method_1_code 396 [(.aload_n 0, 1, 0, 0, 0, 0), (.getfield 9, 3, 11, 2, 2, 0), (.iload_n 1, 1, 0, 0, 0, 0), (.iconst 1, 1, 0, 0, 0, 1)] = true) ca_79_402 rfl rfl (by decide) (by decide) rfl ?_
  refine R_stv_bipush (i := 3) (k := 59) (sz := 5) (x := 8) (by decide +kernel : segB 11 true prog_13_method_1_code 403 [(.aload_n 0, 1, 0, 0, 0, 0), (.getfield 13, 3, 11, 3, 2, 0), (.iload_n 1, 1, 0, 0, 0, 0), (.bipush 8, 2, 0, 0, 0, 8)] = true) ca_79_410 rfl rfl (by decide) (by decide) rfl ?_
  refine R_stv_bipush (i := 4) (k := 60) (sz := 5) (x := 8) (by decide +kernel : segB 11 true prog_13_method_1_code 411 [(.aload_n 0, 1, 0, 0, 0, 0), (.getfield 16, 3, 11, 4, 2, 0), (.iload_n 1, 1, 0, 0, 0, 0), (.bipush 8, 2, 0, 0, 0, 8)] = true) ca_79_418 rfl rfl (by decide) (by decide) rfl ?_
  refine R_stv_bipush (i := 6) (k := 62) (sz := 5) (x := 10) (by decide +kernel : segB 11 true prog_13_method_1_code 419 [(.aload_n 0, 1, 0, 0, 0, 0), (.getfield 22, 3, 11, 6, 2, 0), (.iload_n 1, 1, 0, 0, 0, 0), (.bipush 10, 2, 0, 0, 0, 10)] = true) ca_79_426 rfl rfl (by decide) (by decide) rfl ?_
  refine R_stv_iconst (i := 8) (k := 64) (sz := 5) (x := N1) (by decide +kernel : segB 11 true prog_13_method_1_code 427 [(.aload_n 0, 1, 0, 0, 0, 0), (.getfield 28, 3, 11, 8, 2, 0), (.iload_n 1, 1, 0, 0, 0, 0), (.iconst (-1), 1, 0, 0, 0, -1)] = true) ca_79_433 rfl rfl (by decide) (by decide) rfl ?_
  refine R_stv_iconst (i := 9) (k := 65) (sz := 5) (x := N1) (by decide +kernel : segB 11 true prog_13_method_1_code 434 [(.aload_n 0, 1, 0, 0, 0, 0), (.getfield 31, 3, 11, 9, 2, 0), (.iload_n 1, 1, 0, 0, 0, 0), (.iconst (-1), 1, 0, 0, 0, -1)] = true) ca_79_440 rfl rfl (by decide) (by decide) rfl ?_
  refine R_seg sg_79_441 sk_79_441 (pc' := 444) (lv' := [(1, .int (nI 2)), (0, .ref 57)]) (st' := []) (S' := stt (nw _) t00) (kc' := 47) (ks' := 71123) rfl ⟨(by decide), trivial⟩ ?_
  refine R_goto ck_79_444 ?_
  refine R_seg sg_79_391 sk_79_391 (pc' := 393) (lv' := [(1, .int (nI 2)), (0, .ref 57)]) (st' := [.int 5, .int (nI 2)]) (S' := stt (nw _) t00) (kc' := 47) (ks' := 71123) rfl ⟨trivial, trivial, trivial⟩ ?_
  refine R_icmp ck_79_393 (fun (c : (5 : Int32) ≤ nI 2) => absurd c (by decide)) (fun _ => ?_)
  refine R_stv_iconst (i := 2) (k := 58) (sz := 5) (x := 1) (by decide +kernel : segB 11 true prog_13_method_1_code 396 [(.aload_n 0, 1, 0, 0, 0, 0), (.getfield 9, 3, 11, 2, 2, 0), (.iload_n 1, 1, 0, 0, 0, 0), (.iconst 1, 1, 0, 0, 0, 1)] = true) ca_79_402 rfl rfl (by decide) (by decide) rfl ?_
  refine R_stv_bipush (i := 3) (k := 59) (sz := 5) (x := 8) (by decide +kernel : segB 11 true prog_13_method_1_code 403 [(.aload_n 0, 1, 0, 0, 0, 0), (.getfield 13, 3, 11, 3, 2, 0), (.iload_n 1, 1, 0, 0, 0, 0), (.bipush 8, 2, 0, 0, 0, 8)] = true) ca_79_410 rfl rfl (by decide) (by decide) rfl ?_
  refine R_stv_bipush (i := 4) (k := 60) (sz := 5) (x := 8) (by decide +kernel : segB 11 true prog_13_method_1_code 411 [(.aload_n 0, 1, 0, 0, 0, 0), (.getfield 16, 3, 11, 4, 2, 0), (.iload_n 1, 1, 0, 0, 0, 0), (.bipush 8, 2, 0, 0, 0, 8)] = true) ca_79_418 rfl rfl (by decide) (by decide) rfl ?_
  refine R_stv_bipush (i := 6) (k := 62) (sz := 5) (x := 10) (by decide +kernel : segB 11 true prog_13_method_1_code 419 [(.aload_n 0, 1, 0, 0, 0, 0), (.getfield 22, 3, 11, 6, 2, 0), (.iload_n 1, 1, 0, 0, 0, 0), (.bipush 10, 2, 0, 0, 0, 10)] = true) ca_79_426 rfl rfl (by decide) (by decide) rfl ?_
  refine R_stv_iconst (i := 8) (k := 64) (sz := 5) (x := N1) (by decide +kernel : segB 11 true prog_13_method_1_code 427 [(.aload_n 0, 1, 0, 0, 0, 0), (.getfield 28, 3, 11, 8, 2, 0), (.iload_n 1, 1, 0, 0, 0, 0), (.iconst (-1), 1, 0, 0, 0, -1)] = true) ca_79_433 rfl rfl (by decide) (by decide) rfl ?_
  refine R_stv_iconst (i := 9) (k := 65) (sz := 5) (x := N1) (by decide +kernel : segB 11 true prog_13_method_1_code 434 [(.aload_n 0, 1, 0, 0, 0, 0), (.getfield 31, 3, 11, 9, 2, 0), (.iload_n 1, 1, 0, 0, 0, 0), (.iconst (-1), 1, 0, 0, 0, -1)] = true) ca_79_440 rfl rfl (by decide) (by decide) rfl ?_
  refine R_seg sg_79_441 sk_79_441 (pc' := 444) (lv' := [(1, .int (nI 3)), (0, .ref 57)]) (st' := []) (S' := stt (nw _) t00) (kc' := 47) (ks' := 71123) rfl ⟨(by decide), trivial⟩ ?_
  refine R_goto ck_79_444 ?_
  refine R_seg sg_79_391 sk_79_391 (pc' := 393) (lv' := [(1, .int (nI 3)), (0, .ref 57)]) (st' := [.int 5, .int (nI 3)]) (S' := stt (nw _) t00) (kc' := 47) (ks' := 71123) rfl ⟨trivial, trivial, trivial⟩ ?_
  refine R_icmp ck_79_393 (fun (c : (5 : Int32) ≤ nI 3) => absurd c (by decide)) (fun _ => ?_)
  refine R_stv_iconst (i := 2) (k := 58) (sz := 5) (x := 1) (by decide +kernel : segB 11 true prog_13_method_1_code 396 [(.aload_n 0, 1, 0, 0, 0, 0), (.getfield 9, 3, 11, 2, 2, 0), (.iload_n 1, 1, 0, 0, 0, 0), (.iconst 1, 1, 0, 0, 0, 1)] = true) ca_79_402 rfl rfl (by decide) (by decide) rfl ?_
  refine R_stv_bipush (i := 3) (k := 59) (sz := 5) (x := 8) (by decide +kernel : segB 11 true prog_13_method_1_code 403 [(.aload_n 0, 1, 0, 0, 0, 0), (.getfield 13, 3, 11, 3, 2, 0), (.iload_n 1, 1, 0, 0, 0, 0), (.bipush 8, 2, 0, 0, 0, 8)] = true) ca_79_410 rfl rfl (by decide) (by decide) rfl ?_
  refine R_stv_bipush (i := 4) (k := 60) (sz := 5) (x := 8) (by decide +kernel : segB 11 true prog_13_method_1_code 411 [(.aload_n 0, 1, 0, 0, 0, 0), (.getfield 16, 3, 11, 4, 2, 0), (.iload_n 1, 1, 0, 0, 0, 0), (.bipush 8, 2, 0, 0, 0, 8)] = true) ca_79_418 rfl rfl (by decide) (by decide) rfl ?_
  refine R_stv_bipush (i := 6) (k := 62) (sz := 5) (x := 10) (by decide +kernel : segB 11 true prog_13_method_1_code 419 [(.aload_n 0, 1, 0, 0, 0, 0), (.getfield 22, 3, 11, 6, 2, 0), (.iload_n 1, 1, 0, 0, 0, 0), (.bipush 10, 2, 0, 0, 0, 10)] = true) ca_79_426 rfl rfl (by decide) (by decide) rfl ?_
  refine R_stv_iconst (i := 8) (k := 64) (sz := 5) (x := N1) (by decide +kernel : segB 11 true prog_13_method_1_code 427 [(.aload_n 0, 1, 0, 0, 0, 0), (.getfield 28, 3, 11, 8, 2, 0), (.iload_n 1, 1, 0, 0, 0, 0), (.iconst (-1), 1, 0, 0, 0, -1)] = true) ca_79_433 rfl rfl (by decide) (by decide) rfl ?_
  refine R_stv_iconst (i := 9) (k := 65) (sz := 5) (x := N1) (by decide +kernel : segB 11 true prog_13_method_1_code 434 [(.aload_n 0, 1, 0, 0, 0, 0), (.getfield 31, 3, 11, 9, 2, 0), (.iload_n 1, 1, 0, 0, 0, 0), (.iconst (-1), 1, 0, 0, 0, -1)] = true) ca_79_440 rfl rfl (by decide) (by decide) rfl ?_
  refine R_seg sg_79_441 sk_79_441 (pc' := 444) (lv' := [(1, .int (nI 4)), (0, .ref 57)]) (st' := []) (S' := stt (nw _) t00) (kc' := 47) (ks' := 71123) rfl ⟨(by decide), trivial⟩ ?_
  refine R_goto ck_79_444 ?_
  refine R_seg sg_79_391 sk_79_391 (pc' := 393) (lv' := [(1, .int (nI 4)), (0, .ref 57)]) (st' := [.int 5, .int (nI 4)]) (S' := stt (nw _) t00) (kc' := 47) (ks' := 71123) rfl ⟨trivial, trivial, trivial⟩ ?_
  refine R_icmp ck_79_393 (fun (c : (5 : Int32) ≤ nI 4) => absurd c (by decide)) (fun _ => ?_)
  refine R_stv_iconst (i := 2) (k := 58) (sz := 5) (x := 1) (by decide +kernel : segB 11 true prog_13_method_1_code 396 [(.aload_n 0, 1, 0, 0, 0, 0), (.getfield 9, 3, 11, 2, 2, 0), (.iload_n 1, 1, 0, 0, 0, 0), (.iconst 1, 1, 0, 0, 0, 1)] = true) ca_79_402 rfl rfl (by decide) (by decide) rfl ?_
  refine R_stv_bipush (i := 3) (k := 59) (sz := 5) (x := 8) (by decide +kernel : segB 11 true prog_13_method_1_code 403 [(.aload_n 0, 1, 0, 0, 0, 0), (.getfield 13, 3, 11, 3, 2, 0), (.iload_n 1, 1, 0, 0, 0, 0), (.bipush 8, 2, 0, 0, 0, 8)] = true) ca_79_410 rfl rfl (by decide) (by decide) rfl ?_
  refine R_stv_bipush (i := 4) (k := 60) (sz := 5) (x := 8) (by decide +kernel : segB 11 true prog_13_method_1_code 411 [(.aload_n 0, 1, 0, 0, 0, 0), (.getfield 16, 3, 11, 4, 2, 0), (.iload_n 1, 1, 0, 0, 0, 0), (.bipush 8, 2, 0, 0, 0, 8)] = true) ca_79_418 rfl rfl (by decide) (by decide) rfl ?_
  refine R_stv_bipush (i := 6) (k := 62) (sz := 5) (x := 10) (by decide +kernel : segB 11 true prog_13_method_1_code 419 [(.aload_n 0, 1, 0, 0, 0, 0), (.getfield 22, 3, 11, 6, 2, 0), (.iload_n 1, 1, 0, 0, 0, 0), (.bipush 10, 2, 0, 0, 0, 10)] = true) ca_79_426 rfl rfl (by decide) (by decide) rfl ?_
  refine R_stv_iconst (i := 8) (k := 64) (sz := 5) (x := N1) (by decide +kernel : segB 11 true prog_13_method_1_code 427 [(.aload_n 0, 1, 0, 0, 0, 0), (.getfield 28, 3, 11, 8, 2, 0), (.iload_n 1, 1, 0, 0, 0, 0), (.iconst (-1), 1, 0, 0, 0, -1)] = true) ca_79_433 rfl rfl (by decide) (by decide) rfl ?_
  refine R_stv_iconst (i := 9) (k := 65) (sz := 5) (x := N1) (by decide +kernel : segB 11 true prog_13_method_1_code 434 [(.aload_n 0, 1, 0, 0, 0, 0), (.getfield 31, 3, 11, 9, 2, 0), (.iload_n 1, 1, 0, 0, 0, 0), (.iconst (-1), 1, 0, 0, 0, -1)] = true) ca_79_440 rfl rfl (by decide) (by decide) rfl ?_
  refine R_seg sg_79_441 sk_79_441 (pc' := 444) (lv' := [(1, .int (nI 5)), (0, .ref 57)]) (st' := []) (S' := stt (nw _) t00) (kc' := 47) (ks' := 71123) rfl ⟨(by decide), trivial⟩ ?_
  refine R_goto ck_79_444 ?_
  refine R_seg sg_79_391 sk_79_391 (pc' := 393) (lv' := [(1, .int (nI 5)), (0, .ref 57)]) (st' := [.int 5, .int (nI 5)]) (S' := stt (nw _) t00) (kc' := 47) (ks' := 71123) rfl ⟨trivial, trivial, trivial⟩ ?_
  refine R_icmp ck_79_393 (fun _ => ?_) (fun c => absurd (show (5 : Int32) ≤ nI 5 by decide) c)
  refine R_seg [(.iconst 0, 1, 0, 0, 0, 0), (.istore_n 1, 1, 0, 0, 0, 0)] (by decide +kernel : segB 11 true prog_13_method_1_code 447 [(.iconst 0, 1, 0, 0, 0, 0), (.istore_n 1, 1, 0, 0, 0, 0)] = true) (pc' := 449) (lv' := [(1, .int (nI 0)), (0, .ref 57)]) (st' := []) (S' := stt (nw _) t00) (kc' := 47) (ks' := 71123) rfl ⟨trivial, by decide, trivial⟩ ?_
  refine x_79_449 ?_
  refine R_seg [(.iconst 0, 1, 0, 0, 0, 0), (.istore_n 1, 1, 0, 0, 0, 0)] (by decide +kernel : segB 11 true prog_13_method_1_code 468 [(.iconst 0, 1, 0, 0, 0, 0), (.istore_n 1, 1, 0, 0, 0, 0)] = true) (pc' := 470) (lv' := [(1, .int (nI 0)), (0, .ref 57)]) (st' := []) (S' := stt (nw _) t00) (kc' := 47) (ks' := 71123) rfl ⟨trivial, by decide, trivial⟩ ?_
  refine x_79_470 ?_
  refine R_seg [(.iconst 0, 1, 0, 0, 0, 0), (.istore_n 1, 1, 0, 0, 0, 0)] (by decide +kernel : segB 11 true prog_13_method_1_code 489 [(.iconst 0, 1, 0, 0, 0, 0), (.istore_n 1, 1, 0, 0, 0, 0)] = true) (pc' := 491) (lv' := [(1, .int (nI 0)), (0, .ref 57)]) (st' := []) (S' := stt (nw _) t00) (kc' := 47) (ks' := 71123) rfl ⟨trivial, by decide, trivial⟩ ?_
  refine x_79_491 ?_
  refine R_seg [(.iconst 0, 1, 0, 0, 0, 0), (.istore_n 1, 1, 0, 0, 0, 0)] (by decide +kernel : segB 11 true prog_13_method_1_code 511 [(.iconst 0, 1, 0, 0, 0, 0), (.istore_n 1, 1, 0, 0, 0, 0)] = true) (pc' := 513) (lv' := [(1, .int (nI 0)), (0, .ref 57)]) (st' := []) (S' := stt (nw _) t00) (kc' := 47) (ks' := 71123) rfl ⟨trivial, by decide, trivial⟩ ?_
  refine x_79_513 ?_
  refine R_seg [(.iconst 0, 1, 0, 0, 0, 0), (.istore_n 1, 1, 0, 0, 0, 0)] (by decide +kernel : segB 11 true prog_13_method_1_code 533 [(.iconst 0, 1, 0, 0, 0, 0), (.istore_n 1, 1, 0, 0, 0, 0)] = true) (pc' := 535) (lv' := [(1, .int (nI 0)), (0, .ref 57)]) (st' := []) (S' := stt (nw _) t00) (kc' := 47) (ks' := 71123) rfl ⟨trivial, by decide, trivial⟩ ?_
  refine R_seg sg_79_535 sk_79_535 (pc' := 537) (lv' := [(1, .int (nI 0)), (0, .ref 57)]) (st' := [.int 4, .int (nI 0)]) (S' := stt (nw _) t00) (kc' := 47) (ks' := 71123) rfl ⟨trivial, trivial, trivial⟩ ?_
  refine R_icmp ck_79_537 (fun (c : (4 : Int32) ≤ nI 0) => absurd c (by decide)) (fun _ => ?_)
  refine R_stv_bipush (i := 27) (k := 82) (sz := 4) (x := 63) (by decide +kernel : segB 11 true prog_13_method_1_code 540 [(.aload_n 0, 1, 0, 0, 0, 0), (.getfield 83, 3, 11, 27, 2, 0), (.iload_n 1, 1, 0, 0, 0, 0), (.bipush 63, 2, 0, 0, 0, 63)] = true) ca_79_547 rfl rfl (by decide) (by decide) rfl ?_
  refine R_stv_bipush (i := 28) (k := 83) (sz := 4) (x := 100) (by decide +kernel : segB 11 true prog_13_method_1_code 548 [(.aload_n 0, 1, 0, 0, 0, 0), (.getfield 86, 3, 11, 28, 2, 0), (.iload_n 1, 1, 0, 0, 0, 0), (.bipush 100, 2, 0, 0, 0, 100)] = true) ca_79_555 rfl rfl (by decide) (by decide) rfl ?_
  refine R_stv_bipush (i := 29) (k := 84) (sz := 4) (x := 10) (by decide +kernel : segB 11 true prog_13_method_1_code 556 [(.aload_n 0, 1, 0, 0, 0, 0), (.getfield 89, 3, 11, 29, 2, 0), (.iload_n 1, 1, 0, 0, 0, 0), (.bipush 10, 2, 0, 0, 0, 10)] = true) ca_79_563 rfl rfl (by decide) (by decide) rfl ?_
  refine R_stv_bipush (i := 30) (k := 85) (sz := 4) (x := 100) (by decide +kernel : segB 11 true prog_13_method_1_code 564 [(.aload_n 0, 1, 0, 0, 0, 0), (.getfield 92, 3, 11, 30, 2, 0), (.iload_n 1, 1, 0, 0, 0, 0), (.bipush 100, 2, 0, 0, 0, 100)] = true) ca_79_571 rfl rfl (by decide) (by decide) rfl ?_
  refine R_seg sg_79_572 sk_79_572 (pc' := 575) (lv' := [(1, .int (nI 1)), (0, .ref 57)]) (st' := []) (S' := stt (nw _) t00) (kc' := 47) (ks' := 71123) rfl ⟨(by decide), trivial⟩ ?_
  refine R_goto ck_79_575 ?_
  refine R_seg sg_79_535 sk_79_535 (pc' := 537) (lv' := [(1, .int (nI 1)), (0, .ref 57)]) (st' := [.int 4, .int (nI 1)]) (S' := stt (nw _) t00) (kc' := 47) (ks' := 71123) rfl ⟨trivial, trivial, trivial⟩ ?_
  refine R_icmp ck_79_537 (fun (c : (4 : Int32) ≤ nI 1) => absurd c (by decide)) (fun _ => ?_)
  refine R_stv_bipush (i := 27) (k := 82) (sz := 4) (x := 63) (by decide +kernel : segB 11 true prog_13_method_1_code 540 [(.aload_n 0, 1, 0, 0, 0, 0), (.getfield 83, 3, 11, 27, 2, 0), (.iload_n 1, 1, 0, 0, 0, 0), (.bipush 63, 2, 0, 0, 0, 63)] = true) ca_79_547 rfl rfl (by decide) (by decide) rfl ?_
  refine R_stv_bipush (i := 28) (k := 83) (sz := 4) (x := 100) (by decide +kernel : segB 11 true prog_13_method_1_code 548 [(.aload_n 0, 1, 0, 0, 0, 0), (.getfield 86, 3, 11, 28, 2, 0), (.iload_n 1, 1, 0, 0, 0, 0), (.bipush 100, 2, 0, 0, 0, 100)] = true) ca_79_555 rfl rfl (by decide) (by decide) rfl ?_
  refine R_stv_bipush (i := 29) (k := 84) (sz := 4) (x := 10) (by decide +kernel : segB 11 true prog_13_method_1_code 556 [(.aload_n 0, 1, 0, 0, 0, 0), (.getfield 89, 3, 11, 29, 2, 0), (.iload_n 1, 1, 0, 0, 0, 0), (.bipush 10, 2, 0, 0, 0, 10)] = true) ca_79_563 rfl rfl (by decide) (by decide) rfl ?_
  refine R_stv_bipush (i := 30) (k := 85) (sz := 4) (x := 100) (by decide +kernel : segB 11 true prog_13_method_1_code 564 [(.aload_n 0, 1, 0, 0, 0, 0), (.getfield 92, 3, 11, 30, 2, 0), (.iload_n 1, 1, 0, 0, 0, 0), (.bipush 100, 2, 0, 0, 0, 100)] = true) ca_79_571 rfl rfl (by decide) (by decide) rfl ?_
  refine R_seg sg_79_572 sk_79_572 (pc' := 575) (lv' := [(1, .int (nI 2)), (0, .ref 57)]) (st' := []) (S' := stt (nw _) t00) (kc' := 47) (ks' := 71123) rfl ⟨(by decide), trivial⟩ ?_
  refine R_goto ck_79_575 ?_
  refine R_seg sg_79_535 sk_79_535 (pc' := 537) (lv' := [(1, .int (nI 2)), (0, .ref 57)]) (st' := [.int 4, .int (nI 2)]) (S' := stt (nw _) t00) (kc' := 47) (ks' := 71123) rfl ⟨trivial, trivial, trivial⟩ ?_
  refine R_icmp ck_79_537 (fun (c : (4 : Int32) ≤ nI 2) => absurd c (by decide)) (fun _ => ?_)
  refine R_stv_bipush (i := 27) (k := 82) (sz := 4) (x := 63) (by decide +kernel : segB 11 true prog_13_method_1_code 540 [(.aload_n 0, 1, 0, 0, 0, 0), (.getfield 83, 3, 11, 27, 2, 0), (.iload_n 1, 1, 0, 0, 0, 0), (.bipush 63, 2, 0, 0, 0, 63)] = true) ca_79_547 rfl rfl (by decide) (by decide) rfl ?_
  refine R_stv_bipush (i := 28) (k := 83) (sz := 4) (x := 100) (by decide +kernel : segB 11 true prog_13_method_1_code 548 [(.aload_n 0, 1, 0, 0, 0, 0), (.getfield 86, 3, 11, 28, 2, 0), (.iload_n 1, 1, 0, 0, 0, 0), (.bipush 100, 2, 0, 0, 0, 100)] = true) ca_79_555 rfl rfl (by decide) (by decide) rfl ?_
  refine R_stv_bipush (i := 29) (k := 84) (sz := 4) (x := 10) (by decide +kernel : segB 11 true prog_13_method_1_code 556 [(.aload_n 0, 1, 0, 0, 0, 0), (.getfield 89, 3, 11, 29, 2, 0), (.iload_n 1, 1, 0, 0, 0, 0), (.bipush 10, 2, 0, 0, 0, 10)] = true) ca_79_563 rfl rfl (by decide) (by decide) rfl ?_
  refine R_stv_bipush (i := 30) (k := 85) (sz := 4) (x := 100) (by decide +kernel : segB 11 true prog_13_method_1_code 564 [(.aload_n 0, 1, 0, 0, 0, 0), (.getfield 92, 3, 11, 30, 2, 0), (.iload_n 1, 1, 0, 0, 0, 0), (.bipush 100, 2, 0, 0, 0, 100)] = true) ca_79_571 rfl rfl (by decide) (by decide) rfl ?_
  refine R_seg sg_79_572 sk_79_572 (pc' := 575) (lv' := [(1, .int (nI 3)), (0, .ref 57)]) (st' := []) (S' := stt (nw _) t00) (kc' := 47) (ks' := 71123) rfl ⟨(by decide), trivial⟩ ?_
  refine R_goto ck_79_575 ?_
  refine R_seg sg_79_535 sk_79_535 (pc' := 537) (lv' := [(1, .int (nI 3)), (0, .ref 57)]) (st' := [.int 4, .int (nI 3)]) (S' := stt (nw _) t00) (kc' := 47) (ks' := 71123) rfl ⟨trivial, trivial, trivial⟩ ?_
  refine R_icmp ck_79_537 (fun (c : (4 : Int32) ≤ nI 3) => absurd c (by decide)) (fun _ => ?_)
  refine R_stv_bipush (i := 27) (k := 82) (sz := 4) (x := 63) (by decide +kernel : segB 11 true prog_13_method_1_code 540 [(.aload_n 0, 1, 0, 0, 0, 0), (.getfield 83, 3, 11, 27, 2, 0), (.iload_n 1, 1, 0, 0, 0, 0), (.bipush 63, 2, 0, 0, 0, 63)] = true) ca_79_547 rfl rfl (by decide) (by decide) rfl ?_
  refine R_stv_bipush (i := 28) (k := 83) (sz := 4) (x := 100) (by decide +kernel : segB 11 true prog_13_method_1_code 548 [(.aload_n 0, 1, 0, 0, 0, 0), (.getfield 86, 3, 11, 28, 2, 0), (.iload_n 1, 1, 0, 0, 0, 0), (.bipush 100, 2, 0, 0, 0, 100)] = true) ca_79_555 rfl rfl (by decide) (by decide) rfl ?_
  refine R_stv_bipush (i := 29) (k := 84) (sz := 4) (x := 10) (by decide +kernel : segB 11 true prog_13_method_1_code 556 [(.aload_n 0, 1, 0, 0, 0, 0), (.getfield 89, 3, 11, 29, 2, 0), (.iload_n 1, 1, 0, 0, 0, 0), (.bipush 10, 2, 0, 0, 0, 10)] = true) ca_79_563 rfl rfl (by decide) (by decide) rfl ?_
  refine R_stv_bipush (i := 30) (k := 85) (sz := 4) (x := 100) (by decide +kernel : segB 11 true prog_13_method_1_code 564 [(.aload_n 0, 1, 0, 0, 0, 0), (.getfield 92, 3, 11, 30, 2, 0), (.iload_n 1, 1, 0, 0, 0, 0), (.bipush 100, 2, 0, 0, 0, 100)] = true) ca_79_571 rfl rfl (by decide) (by decide) rfl ?_
  refine R_seg sg_79_572 sk_79_572 (pc' := 575) (lv' := [(1, .int (nI 4)), (0, .ref 57)]) (st' := []) (S' := stt (nw _) t00) (kc' := 47) (ks' := 71123) rfl ⟨(by decide), trivial⟩ ?_
  refine R_goto ck_79_575 ?_
  refine R_seg sg_79_535 sk_79_535 (pc' := 537) (lv' := [(1, .int (nI 4)), (0, .ref 57)]) (st' := [.int 4, .int (nI 4)]) (S' := stt (nw _) t00) (kc' := 47) (ks' := 71123) rfl ⟨trivial, trivial, trivial⟩ ?_
  refine R_icmp ck_79_537 (fun _ => ?_) (fun c => absurd (show (4 : Int32) ≤ nI 4 by decide) c)
  exact R_ret ck_79_578 rfl hp
