/-! ===== the law, as a run of the small machine ===== -/
def S00 : Sto := ([], fun _ _ => 0, fun _ _ => 0, fun _ _ => none)
theorem lw_lt {i L : Nat} (hL : L ≤ 3584) (hi : i ≤ L) (h : ¬ Int32.ofNat L - 7 < nI i) : i + 7 ≤ L := by
  by_cases h7 : 7 ≤ L
  · have e : Int32.ofNat L - 7 = nI (L - 7) := by
      have q := nI_add (L - 7) 7
      rw [show L - 7 + 7 = L by omega] at q
      show nI L - nI 7 = nI (L - 7)
      rw [← q, Int32.add_sub_cancel]
    rw [e, nI_ltI (by omega) (by omega)] at h
    omega
  · exfalso
    apply h
    rw [Int32.lt_iff_toInt_lt, nI_toInt (by omega)]
    have e : (Int32.ofNat L - 7).toInt < 0 := by
      rcases (show L = 0 ∨ L = 1 ∨ L = 2 ∨ L = 3 ∨ L = 4 ∨ L = 5 ∨ L = 6 by omega) with rfl | rfl | rfl | rfl | rfl | rfl | rfl <;> decide
    omega
theorem law_loop {L : Nat} {xs : Nat → Int32} (hL : L ≤ 3584) : ∀ (n i : Nat) (w : WW) (τ : Nat → Nat → Int64), Sim w → i ≤ L → L - i < n → LW L xs 18 (lvL i) [] (stt (nw w) τ) 105 80930 := by
  intro n
  induction n with
  | zero => intro i w τ S h1 h2; exact absurd h2 (Nat.not_lt_zero _)
  | succ n ih =>
    intro i w τ S h1 h2
    refine R_seg [(.iload_n 3, 1, 0, 0, 0, 0), (.aload_n 0, 1, 0, 0, 0, 0), (.arraylength, 1, 1, 0, 0, 0), (.bipush 7, 2, 0, 0, 0, 7), (.isub, 1, 0, 0, 0, 0)] (by decide +kernel : segB 12 false code 18 [(.iload_n 3, 1, 0, 0, 0, 0), (.aload_n 0, 1, 0, 0, 0, 0), (.arraylength, 1, 1, 0, 0, 0), (.bipush 7, 2, 0, 0, 0, 7), (.isub, 1, 0, 0, 0, 0)] = true) (pc' := 24) (lv' := lvL i) (st' := [.int (Int32.ofNat L - 7), .int (nI i)]) (S' := stt (nw w) τ) (kc' := 105) (ks' := 80930) rfl ⟨trivial, trivial, trivial, trivial, trivial, trivial⟩ ?_
    refine R_icmp ck_127_24 (fun _ => ?_) (fun (c : ¬ Int32.ofNat L - 7 < nI i) => ?_)
    · refine R_seg [(.iconst 1, 1, 0, 0, 0, 1)] (by decide +kernel : segB 12 false code 1020 [(.iconst 1, 1, 0, 0, 0, 1)] = true) (pc' := 1021) (lv' := lvL i) (st' := [.int 1]) (S' := stt (nw w) τ) (kc' := 105) (ks' := 80930) rfl ⟨trivial, trivial⟩ ?_
      exact R_iret ck_127_1021 rfl rfl rfl
    · have hi : i + 7 ≤ L := lw_lt hL h1 c
      have hk : ∀ w' τ', Sim w' → LW L xs 1014 (lvL i) [] (stt (nw w') τ') 105 80930 := by
        intro w' τ' S'
        refine R_seg [(.iinc 3 7, 3, 0, 0, 0, 7)] (by decide +kernel : segB 12 false code 1014 [(.iinc 3 7, 3, 0, 0, 0, 7)] = true) (pc' := 1017) (lv' := [(3, .int (nI i + 7)), (2, .ref 57), (1, .ref 0), (0, .retAddr 0)]) (st' := []) (S' := stt (nw w') τ') (kc' := 105) (ks' := 80930) rfl ⟨Nat.le_of_ble_eq_true rfl, trivial⟩ ?_
        refine R_goto ck_127_1017 ?_
        rw [show nI i + 7 = nI (i + 7) from nI_add i 7]
        exact ih (i + 7) w' τ' S' hi (by omega)
      refine R_seg [(.aload_n 0, 1, 0, 0, 0, 0), (.iload_n 3, 1, 0, 0, 0, 0), (.iaload, 1, 1, 0, 0, 0), (.bipush 31, 2, 0, 0, 0, 31), (.iand, 1, 0, 0, 0, 0)] (by decide +kernel : segB 12 false code 27 [(.aload_n 0, 1, 0, 0, 0, 0), (.iload_n 3, 1, 0, 0, 0, 0), (.iaload, 1, 1, 0, 0, 0), (.bipush 31, 2, 0, 0, 0, 31), (.iand, 1, 0, 0, 0, 0)] = true) (pc' := 33) (lv' := lvL i) (st' := [.int (xs (nI i).toNatClampNeg &&& 31)]) (S' := stt (nw w) τ) (kc' := 105) (ks' := 80930) rfl ⟨trivial, trivial, vp_in_nI (by omega) (by omega), trivial, trivial, trivial⟩ ?_
      obtain ⟨m, hm, e⟩ : ∃ m : Nat, m < 32 ∧ xs (nI i).toNatClampNeg &&& 31 = nI m := ⟨_, Nat.mod_lt _ (by decide), pk_and _ 5 rfl⟩
      rw [e]
      rcases (show m = 0 ∨ m = 1 ∨ m = 2 ∨ m = 3 ∨ m = 4 ∨ m = 5 ∨ m = 6 ∨ m = 7 ∨ m = 8 ∨ m = 9 ∨ m = 10 ∨ m = 11 ∨ m = 12 ∨ m = 13 ∨ m = 14 ∨ m = 15 ∨ m = 16 ∨ m = 17 ∨ m = 18 ∨ m = 19 ∨ m = 20 ∨ m = 21 ∨ m = 22 ∨ m = 23 ∨ m = 24 ∨ m = 25 ∨ m = 26 ∨ m = 27 ∨ m = 28 ∨ m = 29 ∨ m = 30 ∨ m = 31 by omega) with rfl | rfl | rfl | rfl | rfl | rfl | rfl | rfl | rfl | rfl | rfl | rfl | rfl | rfl | rfl | rfl | rfl | rfl | rfl | rfl | rfl | rfl | rfl | rfl | rfl | rfl | rfl | rfl | rfl | rfl | rfl | rfl
      · refine R_tsw ck_127_33 128 rfl ?_
        exact cs_0 hL hi S hk
      · refine R_tsw ck_127_33 203 rfl ?_
        exact cs_1 hL hi S hk
      · refine R_tsw ck_127_33 246 rfl ?_
        exact cs_2 hL hi S hk
      · refine R_tsw ck_127_33 299 rfl ?_
        by_cases hb : ag xs i 6 = 0
        · exact cs_3_0 hL hi hb S hk
        · exact cs_3_1 hL hi hb S hk
      · refine R_tsw ck_127_33 390 rfl ?_
        by_cases hb : ag xs i 3 = 0
        · exact cs_4_0 hL hi hb S hk
        · exact cs_4_1 hL hi hb S hk
      · refine R_tsw ck_127_33 449 rfl ?_
        exact cs_5 hL hi S hk
      · refine R_tsw ck_127_33 502 rfl ?_
        exact cs_6 hL hi S hk
      · refine R_tsw ck_127_33 555 rfl ?_
        exact cs_7 hL hi S hk
      · refine R_tsw ck_127_33 618 rfl ?_
        exact cs_8 hL hi S hk
      · refine R_tsw ck_127_33 671 rfl ?_
        exact cs_9 hL hi S hk
      · refine R_tsw ck_127_33 694 rfl ?_
        exact cs_10 hL hi S hk
      · refine R_tsw ck_127_33 757 rfl ?_
        exact cs_11 hL hi S hk
      · refine R_tsw ck_127_33 780 rfl ?_
        exact cs_12 hL hi S hk
      · refine R_tsw ck_127_33 833 rfl ?_
        exact cs_13 hL hi S hk
      · refine R_tsw ck_127_33 856 rfl ?_
        exact cs_14 hL hi S hk
      · refine R_tsw ck_127_33 869 rfl ?_
        exact cs_15 hL hi S hk
      · refine R_tsw ck_127_33 892 rfl ?_
        exact cs_16 hL hi S hk
      · refine R_tsw ck_127_33 925 rfl ?_
        exact cs_17 hL hi S hk
      · refine R_tsw ck_127_33 958 rfl ?_
        exact cs_18 hL hi S hk
      · refine R_tsw ck_127_33 991 rfl ?_
        exact cs_19 hL hi S hk
      · refine R_tsw ck_127_33 1014 rfl ?_
        exact hk w τ S
      · refine R_tsw ck_127_33 1014 rfl ?_
        exact hk w τ S
      · refine R_tsw ck_127_33 1014 rfl ?_
        exact hk w τ S
      · refine R_tsw ck_127_33 1014 rfl ?_
        exact hk w τ S
      · refine R_tsw ck_127_33 1014 rfl ?_
        exact hk w τ S
      · refine R_tsw ck_127_33 1014 rfl ?_
        exact hk w τ S
      · refine R_tsw ck_127_33 1014 rfl ?_
        exact hk w τ S
      · refine R_tsw ck_127_33 1014 rfl ?_
        exact hk w τ S
      · refine R_tsw ck_127_33 1014 rfl ?_
        exact hk w τ S
      · refine R_tsw ck_127_33 1014 rfl ?_
        exact hk w τ S
      · refine R_tsw ck_127_33 1014 rfl ?_
        exact hk w τ S
      · refine R_tsw ck_127_33 1014 rfl ?_
        exact hk w τ S
theorem law_pure : ∀ (L : Nat) (xs : Nat → Int32), L ≤ 3584 → ∃ d, d ≤ 2000 ∧ Runs (Ex d) code 12 false 4 (some .boolean) (some (L, xs)) (600000, 7302250) (fun r _ => r = some (.int 1)) 0 [(0, .retAddr 0)] [] S00 0 0 := by
  intro L xs hL
  refine ⟨40, by decide, ?_⟩
  show LW L xs 0 [(0, .retAddr 0)] [] (cW 0 w00 r00) 0 0
  refine R_seg [(.new 7, 3, 10, 0, 0, 0), (.dup, 1, 0, 0, 0, 0)] (by decide +kernel : segB 12 false code 0 [(.new 7, 3, 10, 0, 0, 0), (.dup, 1, 0, 0, 0, 0)] = true) (pc' := 4) (lv' := [(0, .retAddr 0)]) (st' := [.ref 0, .ref 0]) (S' := newC (cW 0 w00 r00) 10 10) (kc' := 1) (ks' := 10) rfl ⟨⟨by decide, by decide⟩, rfl, trivial⟩ ?_
  rw [cw_new rfl (z00 0)]
  refine R_spec ck_127_4 (by decide) 0 [] 56 9735 rfl rfl (by decide) (by decide) (by decide) ?_
  refine cn_55 (d := 37) (z00 1) (fun z1 => ?_)
  show LW L xs 7 [(0, .retAddr 0)] [.ref 0] (cW 57 (w_55 w00) (r_55 r00)) 57 9745
  refine R_seg [(.astore_n 1, 1, 0, 0, 0, 0), (.new 10, 3, 11, 0, 0, 0), (.dup, 1, 0, 0, 0, 0)] (by decide +kernel : segB 12 false code 7 [(.astore_n 1, 1, 0, 0, 0, 0), (.new 10, 3, 11, 0, 0, 0), (.dup, 1, 0, 0, 0, 0)] = true) (pc' := 12) (lv' := [(1, .ref 0), (0, .retAddr 0)]) (st' := [.ref 57, .ref 57]) (S' := newC (cW 57 (w_55 w00) (r_55 r00)) 11 62) (kc' := 58) (ks' := 9807) rfl ⟨by decide, ⟨by decide, by decide⟩, rfl, trivial⟩ ?_
  rw [cw_new rfl z1]
  refine R_spec ck_127_12 (by decide) 57 [] 47 71123 rfl rfl (by decide) (by decide) (by decide) ?_
  refine cn_79 (d := 39) (z1.le (Nat.le_succ 57)) rho_all ?_
  show LW L xs 15 [(1, .ref 0), (0, .retAddr 0)] [.ref 57] (stt (nw w0) t00) 105 80930
  refine R_seg [(.astore_n 2, 1, 0, 0, 0, 0), (.iconst 0, 1, 0, 0, 0, 0), (.istore_n 3, 1, 0, 0, 0, 0)] (by decide +kernel : segB 12 false code 15 [(.astore_n 2, 1, 0, 0, 0, 0), (.iconst 0, 1, 0, 0, 0, 0), (.istore_n 3, 1, 0, 0, 0, 0)] = true) (pc' := 18) (lv' := lvL 0) (st' := []) (S' := stt (nw w0) t00) (kc' := 105) (ks' := 80930) rfl ⟨by decide, trivial, by decide, trivial⟩ ?_
  exact law_loop hL (L + 1) 0 w0 t00 w0_sim (Nat.zero_le _) (by omega)
