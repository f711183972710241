/-! ===== where a field leads ===== -/
/-- key j of a row -/
def rk (r : Int32) (j : Nat) : Nat := r.toBitVec.toNat / 2 ^ (5 * j) % 32
theorem rk_lt (r : Int32) (j : Nat) : rk r j < 32 := Nat.mod_lt _ (by decide)
theorem sh_c {r : Int32} {j : Nat} (hj : j ≤ 4) : (r.toUInt32 >>> ((nI j * 5).toUInt32 &&& Int32.toUInt32 31)).toInt32 &&& 31 = nI (rk r j) := by
  have hs : (((nI j * 5).toUInt32 &&& Int32.toUInt32 31).toBitVec % 32).toNat = 5 * j := by
    rcases (show j = 0 ∨ j = 1 ∨ j = 2 ∨ j = 3 ∨ j = 4 by omega) with rfl | rfl | rfl | rfl | rfl <;> rfl
  rw [pk_and _ 5 rfl, pk_ushr r _ (5 * j) hs]
  rfl
theorem sh_m {r : Int32} {j : Nat} (hj : j ≤ 4) : (r >>> (((5 : Int32) * nI j) &&& 31)) &&& 31 = nI (rk r j) := by
  have hs : ((((5 : Int32) * nI j) &&& 31).toBitVec.smod 32).toNat = 5 * j := by
    rcases (show j = 0 ∨ j = 1 ∨ j = 2 ∨ j = 3 ∨ j = 4 by omega) with rfl | rfl | rfl | rfl | rfl <;> rfl
  have h1 := pk_shr r _ (5 * j) hs
  rw [pk_and _ 5 rfl]
  congr 1
  unfold rk
  generalize r >>> (((5 : Int32) * nI j) &&& 31) = y at h1 ⊢
  have hy := BitVec.toInt_eq_toNat_cond y.toBitVec
  have hr := BitVec.toInt_eq_toNat_cond r.toBitVec
  have b1 := y.toBitVec.isLt
  have b2 := r.toBitVec.isLt
  rw [Int.shiftRight_eq_div_pow] at h1
  have h1 : y.toBitVec.toInt = r.toBitVec.toInt / _ := h1
  rw [hy, hr] at h1
  generalize y.toBitVec.toNat = Y at *
  generalize r.toBitVec.toNat = N at *
  rcases (show j = 0 ∨ j = 1 ∨ j = 2 ∨ j = 3 ∨ j = 4 by omega) with rfl | rfl | rfl | rfl | rfl <;> (split at h1 <;> split at h1 <;> simp at h1 ⊢ <;> omega)
/-- how many things a field leads to -/
def lkN (kd : Nat) (r : Int32) (n m : Nat) : Nat := if kd = 1 then (if r = -1 then 0 else 1) else if kd = 2 then (if m < n then m else n) else 0
set_option maxRecDepth 20000 in
theorem x_39n {d : Nat} {σ : Nat → Nat → Int32} {τ : Nat → Nat → Int64} {x f : Nat} (hx : x < 192) (hf : f < 4) (hkd : σ 20 (x / 32 * 4 + f) = 0) {Post : Option Value → Sto → Prop} (hp : Post (some (.int 0)) (stt σ τ)) : Ex (d + 2) 39 [.ref 16, .int (nI x), .int (nI f)] (stt σ τ) 0 0 Post := by
  refine en_39 (Nat.le_of_ble_eq_true rfl) ?_
  show RU_39 (d + 1) (0, 0) Post 0 ([(0, .ref 16), (1, .int (nI x)), (2, .int (nI f))]) ([]) (stt σ τ) 0 0
  refine R_seg sg_39_0 sk_39_0 (pc' := 3) (lv' := [(0, .ref 16), (1, .int (nI x)), (2, .int (nI f))]) (st' := [.int (nI f), .int (nI x), .ref 16]) (S' := stt σ τ) (kc' := 0) (ks' := 0) rfl ⟨trivial, trivial, trivial, trivial⟩ ?_
  refine R_virt ck_39_3 16 [.int (nI x), .int (nI f)] 0 0 (r := []) rfl rfl rfl (Nat.le_of_ble_eq_true rfl) (Nat.le_refl _) (Nat.le_refl _) ?_
  refine x_40 (d := d) (by omega) (by omega) ?_
  show RU_39 (d + 1) (0, 0) Post 6 ([(0, .ref 16), (1, .int (nI x)), (2, .int (nI f))]) ([.int (nI (x / 32 * 4 + f))]) (stt σ τ) 0 0
  refine R_seg sg_39_6 sk_39_6 (pc' := 19) (lv' := [(4, .int (((nI x) * 4) + (nI f))), (3, .int (nI (x / 32 * 4 + f))), (0, .ref 16), (1, .int (nI x)), (2, .int (nI f))]) (st' := [.int (nI (x / 32 * 4 + f)), .ref 20]) (S' := stt σ τ) (kc' := 0) (ks' := 0) rfl ⟨(by decide), trivial, trivial, trivial, trivial, trivial, (by decide), trivial, rfl, trivial, trivial⟩ ?_
  rw [show nI x * 4 + nI f = nI (x * 4 + f) from by simp only [nl_0, nl_1, nl_2, nl_3, nl_4, nl_5, nl_6, nl_8, nl_20, nl_31, nl_32, pk_mul, nI_add]]
  refine R_iald ca_39_19 (j := x / 32 * 4 + f) rfl rfl (by omega) ?_
  show RU_39 (d + 1) (0, 0) Post 20 ([(4, .int (nI (x * 4 + f))), (3, .int (nI (x / 32 * 4 + f))), (0, .ref 16), (1, .int (nI x)), (2, .int (nI f))]) ([.int (σ 20 (x / 32 * 4 + f))]) (stt σ τ) 0 0
  rw [hkd]
  refine R_lsw ck_39_20 82 rfl ?_
  refine R_seg sg_39_82 sk_39_82 (pc' := 83) (lv' := [(4, .int (nI (x * 4 + f))), (3, .int (nI (x / 32 * 4 + f))), (0, .ref 16), (1, .int (nI x)), (2, .int (nI f))]) (st' := [.int 0]) (S' := stt σ τ) (kc' := 0) (ks' := 0) rfl ⟨trivial, trivial⟩ ?_
  refine R_iret ck_39_83 rfl rfl ?_
  exact hp
set_option maxRecDepth 20000 in
theorem x_39r {d : Nat} {σ : Nat → Nat → Int32} {τ : Nat → Nat → Int64} {x f : Nat} (hx : x < 192) (hf : f < 4) (hkd : σ 20 (x / 32 * 4 + f) = 1) {Post : Option Value → Sto → Prop} (hp0 : σ 27 (x * 4 + f) = -1 → Post (some (.int 0)) (stt σ τ)) (hp1 : ¬ σ 27 (x * 4 + f) = -1 → Post (some (.int 1)) (stt σ τ)) : Ex (d + 2) 39 [.ref 16, .int (nI x), .int (nI f)] (stt σ τ) 0 0 Post := by
  refine en_39 (Nat.le_of_ble_eq_true rfl) ?_
  show RU_39 (d + 1) (0, 0) Post 0 ([(0, .ref 16), (1, .int (nI x)), (2, .int (nI f))]) ([]) (stt σ τ) 0 0
  refine R_seg sg_39_0 sk_39_0 (pc' := 3) (lv' := [(0, .ref 16), (1, .int (nI x)), (2, .int (nI f))]) (st' := [.int (nI f), .int (nI x), .ref 16]) (S' := stt σ τ) (kc' := 0) (ks' := 0) rfl ⟨trivial, trivial, trivial, trivial⟩ ?_
  refine R_virt ck_39_3 16 [.int (nI x), .int (nI f)] 0 0 (r := []) rfl rfl rfl (Nat.le_of_ble_eq_true rfl) (Nat.le_refl _) (Nat.le_refl _) ?_
  refine x_40 (d := d) (by omega) (by omega) ?_
  show RU_39 (d + 1) (0, 0) Post 6 ([(0, .ref 16), (1, .int (nI x)), (2, .int (nI f))]) ([.int (nI (x / 32 * 4 + f))]) (stt σ τ) 0 0
  refine R_seg sg_39_6 sk_39_6 (pc' := 19) (lv' := [(4, .int (((nI x) * 4) + (nI f))), (3, .int (nI (x / 32 * 4 + f))), (0, .ref 16), (1, .int (nI x)), (2, .int (nI f))]) (st' := [.int (nI (x / 32 * 4 + f)), .ref 20]) (S' := stt σ τ) (kc' := 0) (ks' := 0) rfl ⟨(by decide), trivial, trivial, trivial, trivial, trivial, (by decide), trivial, rfl, trivial, trivial⟩ ?_
  rw [show nI x * 4 + nI f = nI (x * 4 + f) from by simp only [nl_0, nl_1, nl_2, nl_3, nl_4, nl_5, nl_6, nl_8, nl_20, nl_31, nl_32, pk_mul, nI_add]]
  refine R_iald ca_39_19 (j := x / 32 * 4 + f) rfl rfl (by omega) ?_
  show RU_39 (d + 1) (0, 0) Post 20 ([(4, .int (nI (x * 4 + f))), (3, .int (nI (x / 32 * 4 + f))), (0, .ref 16), (1, .int (nI x)), (2, .int (nI f))]) ([.int (σ 20 (x / 32 * 4 + f))]) (stt σ τ) 0 0
  rw [hkd]
  refine R_lsw ck_39_20 48 rfl ?_
  refine R_seg sg_39_48 sk_39_48 (pc' := 54) (lv' := [(4, .int (nI (x * 4 + f))), (3, .int (nI (x / 32 * 4 + f))), (0, .ref 16), (1, .int (nI x)), (2, .int (nI f))]) (st' := [.int (nI (x * 4 + f)), .ref 27]) (S' := stt σ τ) (kc' := 0) (ks' := 0) rfl ⟨trivial, rfl, trivial, trivial⟩ ?_
  refine R_iald ca_39_54 (j := x * 4 + f) rfl rfl (by omega) ?_
  refine R_seg sg_39_55 sk_39_55 (pc' := 56) (lv' := [(4, .int (nI (x * 4 + f))), (3, .int (nI (x / 32 * 4 + f))), (0, .ref 16), (1, .int (nI x)), (2, .int (nI f))]) (st' := [.int (-1), .int (σ 27 (x * 4 + f))]) (S' := stt σ τ) (kc' := 0) (ks' := 0) rfl ⟨trivial, trivial⟩ ?_
  refine R_icmp ck_39_56 (fun (c_56 : ¬ (σ 27 (x * 4 + f)) = (-1)) => ?_) (fun (c_56 : ¬ ¬ (σ 27 (x * 4 + f)) = (-1)) => ?_)
  · refine R_seg sg_39_63 sk_39_63 (pc' := 64) (lv' := [(4, .int (nI (x * 4 + f))), (3, .int (nI (x / 32 * 4 + f))), (0, .ref 16), (1, .int (nI x)), (2, .int (nI f))]) (st' := [.int 1]) (S' := stt σ τ) (kc' := 0) (ks' := 0) rfl ⟨trivial, trivial⟩ ?_
    refine R_iret ck_39_64 rfl rfl ?_
    exact hp1 c_56
  · refine R_seg sg_39_59 sk_39_59 (pc' := 60) (lv' := [(4, .int (nI (x * 4 + f))), (3, .int (nI (x / 32 * 4 + f))), (0, .ref 16), (1, .int (nI x)), (2, .int (nI f))]) (st' := [.int 0]) (S' := stt σ τ) (kc' := 0) (ks' := 0) rfl ⟨trivial, trivial⟩ ?_
    refine R_goto ck_39_60 ?_
    refine R_iret ck_39_64 rfl rfl ?_
    exact hp0 (Classical.not_not.mp c_56)
set_option maxRecDepth 20000 in
theorem x_39l {d : Nat} {σ : Nat → Nat → Int32} {τ : Nat → Nat → Int64} {x f : Nat} (hx : x < 192) (hf : f < 4) (hkd : σ 20 (x / 32 * 4 + f) = 2) {Post : Option Value → Sto → Prop} {n m : Nat} (hn : σ 28 (x * 4 + f) = nI n) (hn5 : n ≤ 5) (hm : σ 22 (x / 32 * 4 + f) = nI m) (hm5 : m ≤ 5) (hp : Post (some (.int (nI (if m < n then m else n)))) (stt σ τ)) : Ex (d + 2) 39 [.ref 16, .int (nI x), .int (nI f)] (stt σ τ) 0 0 Post := by
  refine en_39 (Nat.le_of_ble_eq_true rfl) ?_
  show RU_39 (d + 1) (0, 0) Post 0 ([(0, .ref 16), (1, .int (nI x)), (2, .int (nI f))]) ([]) (stt σ τ) 0 0
  refine R_seg sg_39_0 sk_39_0 (pc' := 3) (lv' := [(0, .ref 16), (1, .int (nI x)), (2, .int (nI f))]) (st' := [.int (nI f), .int (nI x), .ref 16]) (S' := stt σ τ) (kc' := 0) (ks' := 0) rfl ⟨trivial, trivial, trivial, trivial⟩ ?_
  refine R_virt ck_39_3 16 [.int (nI x), .int (nI f)] 0 0 (r := []) rfl rfl rfl (Nat.le_of_ble_eq_true rfl) (Nat.le_refl _) (Nat.le_refl _) ?_
  refine x_40 (d := d) (by omega) (by omega) ?_
  show RU_39 (d + 1) (0, 0) Post 6 ([(0, .ref 16), (1, .int (nI x)), (2, .int (nI f))]) ([.int (nI (x / 32 * 4 + f))]) (stt σ τ) 0 0
  refine R_seg sg_39_6 sk_39_6 (pc' := 19) (lv' := [(4, .int (((nI x) * 4) + (nI f))), (3, .int (nI (x / 32 * 4 + f))), (0, .ref 16), (1, .int (nI x)), (2, .int (nI f))]) (st' := [.int (nI (x / 32 * 4 + f)), .ref 20]) (S' := stt σ τ) (kc' := 0) (ks' := 0) rfl ⟨(by decide), trivial, trivial, trivial, trivial, trivial, (by decide), trivial, rfl, trivial, trivial⟩ ?_
  rw [show nI x * 4 + nI f = nI (x * 4 + f) from by simp only [nl_0, nl_1, nl_2, nl_3, nl_4, nl_5, nl_6, nl_8, nl_20, nl_31, nl_32, pk_mul, nI_add]]
  refine R_iald ca_39_19 (j := x / 32 * 4 + f) rfl rfl (by omega) ?_
  show RU_39 (d + 1) (0, 0) Post 20 ([(4, .int (nI (x * 4 + f))), (3, .int (nI (x / 32 * 4 + f))), (0, .ref 16), (1, .int (nI x)), (2, .int (nI f))]) ([.int (σ 20 (x / 32 * 4 + f))]) (stt σ τ) 0 0
  rw [hkd]
  refine R_lsw ck_39_20 65 rfl ?_
  refine R_seg sg_39_65 sk_39_65 (pc' := 71) (lv' := [(4, .int (nI (x * 4 + f))), (3, .int (nI (x / 32 * 4 + f))), (0, .ref 16), (1, .int (nI x)), (2, .int (nI f))]) (st' := [.int (nI (x * 4 + f)), .ref 28]) (S' := stt σ τ) (kc' := 0) (ks' := 0) rfl ⟨trivial, rfl, trivial, trivial⟩ ?_
  refine R_iald ca_39_71 (j := x * 4 + f) rfl rfl (by omega) ?_
  show RU_39 (d + 1) (0, 0) Post 72 ([(4, .int (nI (x * 4 + f))), (3, .int (nI (x / 32 * 4 + f))), (0, .ref 16), (1, .int (nI x)), (2, .int (nI f))]) ([.int (σ 28 (x * 4 + f))]) (stt σ τ) 0 0
  rw [hn]
  refine R_seg sg_39_72 sk_39_72 (pc' := 77) (lv' := [(4, .int (nI (x * 4 + f))), (3, .int (nI (x / 32 * 4 + f))), (0, .ref 16), (1, .int (nI x)), (2, .int (nI f))]) (st' := [.int (nI (x / 32 * 4 + f)), .ref 22, .int (nI n)]) (S' := stt σ τ) (kc' := 0) (ks' := 0) rfl ⟨trivial, rfl, trivial, trivial⟩ ?_
  refine R_iald ca_39_77 (j := x / 32 * 4 + f) rfl rfl (by omega) ?_
  show RU_39 (d + 1) (0, 0) Post 78 ([(4, .int (nI (x * 4 + f))), (3, .int (nI (x / 32 * 4 + f))), (0, .ref 16), (1, .int (nI x)), (2, .int (nI f))]) ([.int (σ 22 (x / 32 * 4 + f)), .int (nI n)]) (stt σ τ) 0 0
  rw [hm]
  refine R_seg sg_39_78 sk_39_78 (pc' := 81) (lv' := [(4, .int (nI (x * 4 + f))), (3, .int (nI (x / 32 * 4 + f))), (0, .ref 16), (1, .int (nI x)), (2, .int (nI f))]) (st' := [.int (if nI m < nI n then nI m else nI n)]) (S' := stt σ τ) (kc' := 0) (ks' := 0) rfl ⟨(Nat.le_of_ble_eq_true rfl), trivial⟩ ?_
  refine R_iret ck_39_81 rfl rfl ?_
  rw [show (if nI m < nI n then nI m else nI n) = nI (if m < n then m else n) from by by_cases z : m < n; rw [if_pos z, if_pos (nI_lt z (by omega))]; rw [if_neg z, if_neg (nI_nlt (by omega) (by omega))]]
  exact hp
set_option maxRecDepth 20000 in
theorem x_41r {d : Nat} {σ : Nat → Nat → Int32} {τ : Nat → Nat → Int64} {x f : Nat} (hx : x < 192) (hf : f < 4) (hkd : σ 20 (x / 32 * 4 + f) = 1) {k o : Nat} (ho : σ 21 (x / 32 * 4 + f) = nI o) (ho6 : o < 6) (hk : σ 27 (x * 4 + f) = nI k) (hk2 : k < 32) {j : Nat} {Post : Option Value → Sto → Prop} (hp : Post (some (.int (nI (o * 32 + k)))) (stt σ τ)) : Ex (d + 2) 41 [.ref 16, .int (nI x), .int (nI f), .int (nI j)] (stt σ τ) 0 0 Post := by
  refine en_41 (Nat.le_of_ble_eq_true rfl) ?_
  show RU_41 (d + 1) (0, 0) Post 0 ([(0, .ref 16), (1, .int (nI x)), (2, .int (nI f)), (3, .int (nI j))]) ([]) (stt σ τ) 0 0
  refine R_seg sg_41_0 sk_41_0 (pc' := 3) (lv' := [(0, .ref 16), (1, .int (nI x)), (2, .int (nI f)), (3, .int (nI j))]) (st' := [.int (nI f), .int (nI x), .ref 16]) (S' := stt σ τ) (kc' := 0) (ks' := 0) rfl ⟨trivial, trivial, trivial, trivial⟩ ?_
  refine R_virt ck_41_3 16 [.int (nI x), .int (nI f)] 0 0 (r := []) rfl rfl rfl (Nat.le_of_ble_eq_true rfl) (Nat.le_refl _) (Nat.le_refl _) ?_
  refine x_40 (d := d) (by omega) (by omega) ?_
  show RU_41 (d + 1) (0, 0) Post 6 ([(0, .ref 16), (1, .int (nI x)), (2, .int (nI f)), (3, .int (nI j))]) ([.int (nI (x / 32 * 4 + f))]) (stt σ τ) 0 0
  refine R_seg sg_41_6 sk_41_6 (pc' := 21) (lv' := [(5, .int (((nI x) * 4) + (nI f))), (4, .int (nI (x / 32 * 4 + f))), (0, .ref 16), (1, .int (nI x)), (2, .int (nI f)), (3, .int (nI j))]) (st' := [.int (nI (x / 32 * 4 + f)), .ref 20]) (S' := stt σ τ) (kc' := 0) (ks' := 0) rfl ⟨(by decide), trivial, trivial, trivial, trivial, trivial, (by decide), trivial, rfl, trivial, trivial⟩ ?_
  rw [show nI x * 4 + nI f = nI (x * 4 + f) from by simp only [nl_0, nl_1, nl_2, nl_3, nl_4, nl_5, nl_6, nl_8, nl_20, nl_31, nl_32, pk_mul, nI_add]]
  refine R_iald ca_41_21 (j := x / 32 * 4 + f) rfl rfl (by omega) ?_
  show RU_41 (d + 1) (0, 0) Post 22 ([(5, .int (nI (x * 4 + f))), (4, .int (nI (x / 32 * 4 + f))), (0, .ref 16), (1, .int (nI x)), (2, .int (nI f)), (3, .int (nI j))]) ([.int (σ 20 (x / 32 * 4 + f))]) (stt σ τ) 0 0
  rw [hkd]
  refine R_seg sg_41_22 sk_41_22 (pc' := 23) (lv' := [(5, .int (nI (x * 4 + f))), (4, .int (nI (x / 32 * 4 + f))), (0, .ref 16), (1, .int (nI x)), (2, .int (nI f)), (3, .int (nI j))]) (st' := [.int 1, .int 1]) (S' := stt σ τ) (kc' := 0) (ks' := 0) rfl ⟨trivial, trivial⟩ ?_
  refine R_icmp ck_41_23 (fun c => absurd c (show ¬ ¬ (1 : Int32) = 1 from by decide)) (fun _ => ?_)
  refine R_seg sg_41_26 sk_41_26 (pc' := 32) (lv' := [(5, .int (nI (x * 4 + f))), (4, .int (nI (x / 32 * 4 + f))), (0, .ref 16), (1, .int (nI x)), (2, .int (nI f)), (3, .int (nI j))]) (st' := [.int (nI (x * 4 + f)), .ref 27]) (S' := stt σ τ) (kc' := 0) (ks' := 0) rfl ⟨trivial, rfl, trivial, trivial⟩ ?_
  refine R_iald ca_41_32 (j := x * 4 + f) rfl rfl (by omega) ?_
  show RU_41 (d + 1) (0, 0) Post 33 ([(5, .int (nI (x * 4 + f))), (4, .int (nI (x / 32 * 4 + f))), (0, .ref 16), (1, .int (nI x)), (2, .int (nI f)), (3, .int (nI j))]) ([.int (σ 27 (x * 4 + f))]) (stt σ τ) 0 0
  rw [hk]
  refine R_goto ck_41_33 ?_
  refine R_seg sg_41_47 sk_41_47 (pc' := 55) (lv' := [(6, .int (nI k)), (5, .int (nI (x * 4 + f))), (4, .int (nI (x / 32 * 4 + f))), (0, .ref 16), (1, .int (nI x)), (2, .int (nI f)), (3, .int (nI j))]) (st' := [.int (nI (x / 32 * 4 + f)), .ref 21]) (S' := stt σ τ) (kc' := 0) (ks' := 0) rfl ⟨(by decide), trivial, rfl, trivial, trivial⟩ ?_
  refine R_iald ca_41_55 (j := x / 32 * 4 + f) rfl rfl (by omega) ?_
  show RU_41 (d + 1) (0, 0) Post 56 ([(6, .int (nI k)), (5, .int (nI (x * 4 + f))), (4, .int (nI (x / 32 * 4 + f))), (0, .ref 16), (1, .int (nI x)), (2, .int (nI f)), (3, .int (nI j))]) ([.int (σ 21 (x / 32 * 4 + f))]) (stt σ τ) 0 0
  rw [ho]
  refine R_seg sg_41_56 sk_41_56 (pc' := 65) (lv' := [(6, .int (nI k)), (5, .int (nI (x * 4 + f))), (4, .int (nI (x / 32 * 4 + f))), (0, .ref 16), (1, .int (nI x)), (2, .int (nI f)), (3, .int (nI j))]) (st' := [.int (((nI o) * 32) + ((nI k) &&& 31))]) (S' := stt σ τ) (kc' := 0) (ks' := 0) rfl ⟨trivial, trivial, trivial, trivial, trivial, trivial, trivial⟩ ?_
  refine R_iret ck_41_65 rfl rfl ?_
  rw [show nI o * 32 = nI (o * 32) from by simp only [nl_0, nl_1, nl_2, nl_3, nl_4, nl_5, nl_6, nl_8, nl_20, nl_31, nl_32, pk_mul, nI_add], show nI k &&& 31 = nI k from by rw [pk_andN (k := 5) (by omega) rfl, Nat.mod_eq_of_lt (by omega)], nI_add]
  exact hp
set_option maxRecDepth 20000 in
theorem x_41l {d : Nat} {σ : Nat → Nat → Int32} {τ : Nat → Nat → Int64} {x f : Nat} (hx : x < 192) (hf : f < 4) (hkd : σ 20 (x / 32 * 4 + f) = 2) {j o : Nat} (hj : j ≤ 4) (ho : σ 21 (x / 32 * 4 + f) = nI o) (ho6 : o < 6) {Post : Option Value → Sto → Prop} (hp : Post (some (.int (nI (o * 32 + rk (σ 29 (x * 4 + f)) j)))) (stt σ τ)) : Ex (d + 2) 41 [.ref 16, .int (nI x), .int (nI f), .int (nI j)] (stt σ τ) 0 0 Post := by
  refine en_41 (Nat.le_of_ble_eq_true rfl) ?_
  show RU_41 (d + 1) (0, 0) Post 0 ([(0, .ref 16), (1, .int (nI x)), (2, .int (nI f)), (3, .int (nI j))]) ([]) (stt σ τ) 0 0
  refine R_seg sg_41_0 sk_41_0 (pc' := 3) (lv' := [(0, .ref 16), (1, .int (nI x)), (2, .int (nI f)), (3, .int (nI j))]) (st' := [.int (nI f), .int (nI x), .ref 16]) (S' := stt σ τ) (kc' := 0) (ks' := 0) rfl ⟨trivial, trivial, trivial, trivial⟩ ?_
  refine R_virt ck_41_3 16 [.int (nI x), .int (nI f)] 0 0 (r := []) rfl rfl rfl (Nat.le_of_ble_eq_true rfl) (Nat.le_refl _) (Nat.le_refl _) ?_
  refine x_40 (d := d) (by omega) (by omega) ?_
  show RU_41 (d + 1) (0, 0) Post 6 ([(0, .ref 16), (1, .int (nI x)), (2, .int (nI f)), (3, .int (nI j))]) ([.int (nI (x / 32 * 4 + f))]) (stt σ τ) 0 0
  refine R_seg sg_41_6 sk_41_6 (pc' := 21) (lv' := [(5, .int (((nI x) * 4) + (nI f))), (4, .int (nI (x / 32 * 4 + f))), (0, .ref 16), (1, .int (nI x)), (2, .int (nI f)), (3, .int (nI j))]) (st' := [.int (nI (x / 32 * 4 + f)), .ref 20]) (S' := stt σ τ) (kc' := 0) (ks' := 0) rfl ⟨(by decide), trivial, trivial, trivial, trivial, trivial, (by decide), trivial, rfl, trivial, trivial⟩ ?_
  rw [show nI x * 4 + nI f = nI (x * 4 + f) from by simp only [nl_0, nl_1, nl_2, nl_3, nl_4, nl_5, nl_6, nl_8, nl_20, nl_31, nl_32, pk_mul, nI_add]]
  refine R_iald ca_41_21 (j := x / 32 * 4 + f) rfl rfl (by omega) ?_
  show RU_41 (d + 1) (0, 0) Post 22 ([(5, .int (nI (x * 4 + f))), (4, .int (nI (x / 32 * 4 + f))), (0, .ref 16), (1, .int (nI x)), (2, .int (nI f)), (3, .int (nI j))]) ([.int (σ 20 (x / 32 * 4 + f))]) (stt σ τ) 0 0
  rw [hkd]
  refine R_seg sg_41_22 sk_41_22 (pc' := 23) (lv' := [(5, .int (nI (x * 4 + f))), (4, .int (nI (x / 32 * 4 + f))), (0, .ref 16), (1, .int (nI x)), (2, .int (nI f)), (3, .int (nI j))]) (st' := [.int 1, .int 2]) (S' := stt σ τ) (kc' := 0) (ks' := 0) rfl ⟨trivial, trivial⟩ ?_
  refine R_icmp ck_41_23 (fun _ => ?_) (fun c => absurd (show ¬ (2 : Int32) = 1 from by decide) c)
  refine R_seg sg_41_36 sk_41_36 (pc' := 42) (lv' := [(5, .int (nI (x * 4 + f))), (4, .int (nI (x / 32 * 4 + f))), (0, .ref 16), (1, .int (nI x)), (2, .int (nI f)), (3, .int (nI j))]) (st' := [.int (nI (x * 4 + f)), .ref 29]) (S' := stt σ τ) (kc' := 0) (ks' := 0) rfl ⟨trivial, rfl, trivial, trivial⟩ ?_
  refine R_iald ca_41_42 (j := x * 4 + f) rfl rfl (by omega) ?_
  refine R_seg sg_41_43 sk_41_43 (pc' := 47) (lv' := [(5, .int (nI (x * 4 + f))), (4, .int (nI (x / 32 * 4 + f))), (0, .ref 16), (1, .int (nI x)), (2, .int (nI f)), (3, .int (nI j))]) (st' := [.int (((σ 29 (x * 4 + f)).toUInt32 >>> (((nI j) * 5).toUInt32 &&& Int32.toUInt32 31)).toInt32)]) (S' := stt σ τ) (kc' := 0) (ks' := 0) rfl ⟨trivial, trivial, trivial, trivial, trivial⟩ ?_
  refine R_seg sg_41_47 sk_41_47 (pc' := 55) (lv' := [(6, .int (((σ 29 (x * 4 + f)).toUInt32 >>> (((nI j) * 5).toUInt32 &&& Int32.toUInt32 31)).toInt32)), (5, .int (nI (x * 4 + f))), (4, .int (nI (x / 32 * 4 + f))), (0, .ref 16), (1, .int (nI x)), (2, .int (nI f)), (3, .int (nI j))]) (st' := [.int (nI (x / 32 * 4 + f)), .ref 21]) (S' := stt σ τ) (kc' := 0) (ks' := 0) rfl ⟨(by decide), trivial, rfl, trivial, trivial⟩ ?_
  refine R_iald ca_41_55 (j := x / 32 * 4 + f) rfl rfl (by omega) ?_
  show RU_41 (d + 1) (0, 0) Post 56 ([(6, .int (((σ 29 (x * 4 + f)).toUInt32 >>> (((nI j) * 5).toUInt32 &&& Int32.toUInt32 31)).toInt32)), (5, .int (nI (x * 4 + f))), (4, .int (nI (x / 32 * 4 + f))), (0, .ref 16), (1, .int (nI x)), (2, .int (nI f)), (3, .int (nI j))]) ([.int (σ 21 (x / 32 * 4 + f))]) (stt σ τ) 0 0
  rw [ho]
  refine R_seg sg_41_56 sk_41_56 (pc' := 65) (lv' := [(6, .int (((σ 29 (x * 4 + f)).toUInt32 >>> (((nI j) * 5).toUInt32 &&& Int32.toUInt32 31)).toInt32)), (5, .int (nI (x * 4 + f))), (4, .int (nI (x / 32 * 4 + f))), (0, .ref 16), (1, .int (nI x)), (2, .int (nI f)), (3, .int (nI j))]) (st' := [.int (((nI o) * 32) + ((((σ 29 (x * 4 + f)).toUInt32 >>> (((nI j) * 5).toUInt32 &&& Int32.toUInt32 31)).toInt32) &&& 31))]) (S' := stt σ τ) (kc' := 0) (ks' := 0) rfl ⟨trivial, trivial, trivial, trivial, trivial, trivial, trivial⟩ ?_
  refine R_iret ck_41_65 rfl rfl ?_
  rw [show nI o * 32 = nI (o * 32) from by simp only [nl_0, nl_1, nl_2, nl_3, nl_4, nl_5, nl_6, nl_8, nl_20, nl_31, nl_32, pk_mul, nI_add], sh_c hj, nI_add]
  exact hp
