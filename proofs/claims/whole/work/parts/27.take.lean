/-! ===== Reader.take ===== -/
set_option maxRecDepth 20000 in
theorem x_18e {d : Nat} {σ : Nat → Nat → Int32} {τ : Nat → Nat → Int64} {b : Nat} {p : Int32} (hwt : σ 40 4 = 2) {Post : Option Value → Sto → Prop} (hp : Post (some (.int 0)) (stt σ τ)) : Ex (d + 2) 18 [.ref 40, .int (nI b), .int p] (stt σ τ) 0 0 Post := by
  refine en_18 (Nat.le_of_ble_eq_true rfl) ?_
  show RU_18 (d + 1) (0, 0) Post 0 ([(0, .ref 40), (1, .int (nI b)), (2, .int p)]) ([]) (stt σ τ) 0 0
  refine R_seg sg_18_0 sk_18_0 (pc' := 4) (lv' := [(0, .ref 40), (1, .int (nI b)), (2, .int p)]) (st' := [.int (σ 40 4)]) (S' := stt σ τ) (kc' := 0) (ks' := 0) rfl ⟨trivial, rfl, trivial⟩ ?_
  rw [hwt]
  refine R_if ck_18_4 (fun _ => ?_) (fun c => absurd (show ¬ (2 : Int32) = 0 from by decide) c)
  refine R_seg sg_18_23 sk_18_23 (pc' := 28) (lv' := [(0, .ref 40), (1, .int (nI b)), (2, .int p)]) (st' := [.int 2, .int (σ 40 4)]) (S' := stt σ τ) (kc' := 0) (ks' := 0) rfl ⟨trivial, rfl, trivial, trivial⟩ ?_
  rw [hwt]
  refine R_icmp ck_18_28 (fun _ => ?_) (fun c => absurd (show (2 : Int32) = 2 from by decide) c)
  refine R_seg sg_18_39 sk_18_39 (pc' := 40) (lv' := [(0, .ref 40), (1, .int (nI b)), (2, .int p)]) (st' := [.int 0]) (S' := stt σ τ) (kc' := 0) (ks' := 0) rfl ⟨trivial, trivial⟩ ?_
  refine R_iret ck_18_40 rfl rfl ?_
  exact hp
set_option maxRecDepth 20000 in
theorem x_18s {d : Nat} {σ : Nat → Nat → Int32} {τ : Nat → Nat → Int64} {b : Nat} (hb2 : b < 256) (hwt : σ 40 4 = 0) {nd lv : Nat} {p : Int32} (hnd : σ 32 7 = nI nd) (hlv : σ 40 3 = nI lv) (hnd2 : nd ≤ 20) (hlv2 : lv ≤ 5) {s : Nat} (hsl : σ 40 7 = nI s) (hs2 : s < 120) {Post : Option Value → Sto → Prop} (hb : ¬ b = 123 → Post (some (.int 0)) (stt σ τ)) (hs : b = 123 → nd < 20 → lv < 5 → Post (some (.int (-1))) (stt (up2 (up2 (c_opn σ nd lv p) 39 s (nI nd)) 40 4 1) τ)) (hf : b = 123 → (20 ≤ nd ∨ 5 ≤ lv) → Post (some (.int 1)) (stt σ τ)) : Ex (d + 2) 18 [.ref 40, .int (nI b), .int p] (stt σ τ) 0 0 Post := by
  refine en_18 (Nat.le_of_ble_eq_true rfl) ?_
  show RU_18 (d + 1) (0, 0) Post 0 ([(0, .ref 40), (1, .int (nI b)), (2, .int p)]) ([]) (stt σ τ) 0 0
  refine R_seg sg_18_0 sk_18_0 (pc' := 4) (lv' := [(0, .ref 40), (1, .int (nI b)), (2, .int p)]) (st' := [.int (σ 40 4)]) (S' := stt σ τ) (kc' := 0) (ks' := 0) rfl ⟨trivial, rfl, trivial⟩ ?_
  rw [hwt]
  refine R_if ck_18_4 (fun c => absurd c (show ¬ ¬ (0 : Int32) = 0 from by decide)) (fun _ => ?_)
  refine R_seg sg_18_7 sk_18_7 (pc' := 10) (lv' := [(0, .ref 40), (1, .int (nI b)), (2, .int p)]) (st' := [.int 123, .int (nI b)]) (S' := stt σ τ) (kc' := 0) (ks' := 0) rfl ⟨trivial, trivial, trivial⟩ ?_
  refine R_icmp ck_18_10 (fun (c_10 : ¬ (nI b) = 123) => ?_) (fun (c_10 : ¬ ¬ (nI b) = 123) => ?_)
  · have c_10 : ¬ b = 123 := fun q => c_10 ((nI_eq (a := b) (b := 123) (by omega) (by omega)).mpr q)
    refine R_seg sg_18_21 sk_18_21 (pc' := 22) (lv' := [(0, .ref 40), (1, .int (nI b)), (2, .int p)]) (st' := [.int 0]) (S' := stt σ τ) (kc' := 0) (ks' := 0) rfl ⟨trivial, trivial⟩ ?_
    refine R_iret ck_18_22 rfl rfl ?_
    exact hb (by omega)
  · have c_10 : b = 123 := (nI_eq (a := b) (b := 123) (by omega) (by omega)).mp (Classical.not_not.mp c_10)
    refine R_seg sg_18_13 sk_18_13 (pc' := 15) (lv' := [(0, .ref 40), (1, .int (nI b)), (2, .int p)]) (st' := [.int p, .ref 40]) (S' := stt σ τ) (kc' := 0) (ks' := 0) rfl ⟨trivial, trivial, trivial⟩ ?_
    refine R_virt ck_18_15 40 [.int p] 0 0 (r := []) rfl rfl rfl (Nat.le_of_ble_eq_true rfl) (Nat.le_refl _) (Nat.le_refl _) ?_
    refine x_19s (d := d) hnd hlv hnd2 hlv2 hsl hs2 (fun o_1 o_2 => ?_) (fun o_f => ?_)
    · show RU_18 (d + 1) (0, 0) Post 18 ([(0, .ref 40), (1, .int (nI b)), (2, .int p)]) ([.int (-1)]) (stt (up2 (up2 (c_opn σ nd lv p) 39 s (nI nd)) 40 4 1) τ) 0 0
      refine R_goto ck_18_18 ?_
      refine R_iret ck_18_22 rfl rfl ?_
      exact hs (by omega) o_1 o_2
    · show RU_18 (d + 1) (0, 0) Post 18 ([(0, .ref 40), (1, .int (nI b)), (2, .int p)]) ([.int 1]) (stt σ τ) 0 0
      refine R_goto ck_18_18 ?_
      refine R_iret ck_18_22 rfl rfl ?_
      exact hf (by omega) o_f
set_option maxRecDepth 20000 in
theorem x_18n {d : Nat} {σ : Nat → Nat → Int32} {τ : Nat → Nat → Int64} {b : Nat} (hb2 : b < 256) (hwt : σ 40 4 = 0) {nd lv : Nat} {p : Int32} (hnd : σ 32 7 = nI nd) (hlv : σ 40 3 = nI lv) (hnd2 : nd ≤ 20) (hlv2 : lv ≤ 5) (hsl : σ 40 7 = -1) {Post : Option Value → Sto → Prop} (hb : ¬ b = 123 → Post (some (.int 0)) (stt σ τ)) (hs : b = 123 → nd < 20 → lv < 5 → Post (some (.int (-1))) (stt (up2 (c_opn σ nd lv p) 40 4 1) τ)) (hf : b = 123 → (20 ≤ nd ∨ 5 ≤ lv) → Post (some (.int 1)) (stt σ τ)) : Ex (d + 2) 18 [.ref 40, .int (nI b), .int p] (stt σ τ) 0 0 Post := by
  refine en_18 (Nat.le_of_ble_eq_true rfl) ?_
  show RU_18 (d + 1) (0, 0) Post 0 ([(0, .ref 40), (1, .int (nI b)), (2, .int p)]) ([]) (stt σ τ) 0 0
  refine R_seg sg_18_0 sk_18_0 (pc' := 4) (lv' := [(0, .ref 40), (1, .int (nI b)), (2, .int p)]) (st' := [.int (σ 40 4)]) (S' := stt σ τ) (kc' := 0) (ks' := 0) rfl ⟨trivial, rfl, trivial⟩ ?_
  rw [hwt]
  refine R_if ck_18_4 (fun c => absurd c (show ¬ ¬ (0 : Int32) = 0 from by decide)) (fun _ => ?_)
  refine R_seg sg_18_7 sk_18_7 (pc' := 10) (lv' := [(0, .ref 40), (1, .int (nI b)), (2, .int p)]) (st' := [.int 123, .int (nI b)]) (S' := stt σ τ) (kc' := 0) (ks' := 0) rfl ⟨trivial, trivial, trivial⟩ ?_
  refine R_icmp ck_18_10 (fun (c_10 : ¬ (nI b) = 123) => ?_) (fun (c_10 : ¬ ¬ (nI b) = 123) => ?_)
  · have c_10 : ¬ b = 123 := fun q => c_10 ((nI_eq (a := b) (b := 123) (by omega) (by omega)).mpr q)
    refine R_seg sg_18_21 sk_18_21 (pc' := 22) (lv' := [(0, .ref 40), (1, .int (nI b)), (2, .int p)]) (st' := [.int 0]) (S' := stt σ τ) (kc' := 0) (ks' := 0) rfl ⟨trivial, trivial⟩ ?_
    refine R_iret ck_18_22 rfl rfl ?_
    exact hb (by omega)
  · have c_10 : b = 123 := (nI_eq (a := b) (b := 123) (by omega) (by omega)).mp (Classical.not_not.mp c_10)
    refine R_seg sg_18_13 sk_18_13 (pc' := 15) (lv' := [(0, .ref 40), (1, .int (nI b)), (2, .int p)]) (st' := [.int p, .ref 40]) (S' := stt σ τ) (kc' := 0) (ks' := 0) rfl ⟨trivial, trivial, trivial⟩ ?_
    refine R_virt ck_18_15 40 [.int p] 0 0 (r := []) rfl rfl rfl (Nat.le_of_ble_eq_true rfl) (Nat.le_refl _) (Nat.le_refl _) ?_
    refine x_19n (d := d) hnd hlv hnd2 hlv2 hsl (fun o_1 o_2 => ?_) (fun o_f => ?_)
    · show RU_18 (d + 1) (0, 0) Post 18 ([(0, .ref 40), (1, .int (nI b)), (2, .int p)]) ([.int (-1)]) (stt (up2 (c_opn σ nd lv p) 40 4 1) τ) 0 0
      refine R_goto ck_18_18 ?_
      refine R_iret ck_18_22 rfl rfl ?_
      exact hs (by omega) o_1 o_2
    · show RU_18 (d + 1) (0, 0) Post 18 ([(0, .ref 40), (1, .int (nI b)), (2, .int p)]) ([.int 1]) (stt σ τ) 0 0
      refine R_goto ck_18_18 ?_
      refine R_iret ck_18_22 rfl rfl ?_
      exact hf (by omega) o_f
set_option maxRecDepth 20000 in
theorem x_18f {d : Nat} {σ : Nat → Nat → Int32} {τ : Nat → Nat → Int64} {b n w t lv : Nat} {kd : Nat → Nat} {p : Int32} (hb2 : b < 256) (hwt : σ 40 4 = 1) (hlv : σ 40 3 = nI lv) (hlv1 : 1 ≤ lv) (hlv2 : lv ≤ 5) (hon : σ 41 (lv - 1) = nI n) (hn : n < 20) (hw : σ 37 n = nI w) (hw2 : w ≤ 6) (ht : σ 33 n = nI t) (ht6 : t < 6) (hkd : ∀ f, f < 4 → σ 20 (t * 4 + f) = nI (kd f)) (hkd3 : ∀ f, f < 4 → kd f < 3) {Post : Option Value → Sto → Prop} (hb : ¬ b = 125 → ¬ (48 ≤ b ∧ b ≤ 51) → Post (some (.int 0)) (stt σ τ)) (hc0 : b = 125 → w = 0 → Post (some (.int 0)) (stt σ τ)) (hc1 : b = 125 → 0 < w → 1 < lv → Post (some (.int (-1))) (stt (up2 (up2 σ 40 3 (nI (lv - 1))) 40 4 1) τ)) (hc2 : b = 125 → 0 < w → lv = 1 → Post (some (.int (-1))) (stt (up2 (up2 σ 40 3 (nI (lv - 1))) 40 4 2) τ)) (hdW : 48 ≤ b → b ≤ 51 → 6 ≤ w → Post (some (.int 2)) (stt σ τ)) (hdN : 48 ≤ b → b ≤ 51 → w < 6 → kd (b - 48) = 0 → Post (some (.int (-1))) (stt (c_add σ n w (b - 48)) τ)) (hdR : 48 ≤ b → b ≤ 51 → w < 6 → ¬ kd (b - 48) = 0 → ¬ kd (b - 48) = 2 → Post (some (.int (-1))) (stt (up2 (up2 (up2 (up2 (c_add σ n w (b - 48)) 40 5 (σ 21 (t * 4 + (b - 48)))) 40 6 (σ 35 n * 1)) 40 7 (nI (n * 6 + w))) 40 4 0) τ)) (hdL : 48 ≤ b → b ≤ 51 → w < 6 → kd (b - 48) = 2 → Post (some (.int (-1))) (stt (up2 (up2 (up2 (up2 (c_add σ n w (b - 48)) 40 5 (σ 21 (t * 4 + (b - 48)))) 40 6 (σ 35 n * σ 22 (t * 4 + (b - 48)))) 40 7 (nI (n * 6 + w))) 40 4 0) τ)) : Ex (d + 2) 18 [.ref 40, .int (nI b), .int p] (stt σ τ) 0 0 Post := by
  refine en_18 (Nat.le_of_ble_eq_true rfl) ?_
  show RU_18 (d + 1) (0, 0) Post 0 ([(0, .ref 40), (1, .int (nI b)), (2, .int p)]) ([]) (stt σ τ) 0 0
  refine R_seg sg_18_0 sk_18_0 (pc' := 4) (lv' := [(0, .ref 40), (1, .int (nI b)), (2, .int p)]) (st' := [.int (σ 40 4)]) (S' := stt σ τ) (kc' := 0) (ks' := 0) rfl ⟨trivial, rfl, trivial⟩ ?_
  rw [hwt]
  refine R_if ck_18_4 (fun _ => ?_) (fun c => absurd (show ¬ (1 : Int32) = 0 from by decide) c)
  refine R_seg sg_18_23 sk_18_23 (pc' := 28) (lv' := [(0, .ref 40), (1, .int (nI b)), (2, .int p)]) (st' := [.int 2, .int (σ 40 4)]) (S' := stt σ τ) (kc' := 0) (ks' := 0) rfl ⟨trivial, rfl, trivial, trivial⟩ ?_
  rw [hwt]
  refine R_icmp ck_18_28 (fun c => absurd c (show ¬ (1 : Int32) = 2 from by decide)) (fun _ => ?_)
  refine R_seg sg_18_31 sk_18_31 (pc' := 36) (lv' := [(0, .ref 40), (1, .int (nI b)), (2, .int p)]) (st' := [.int 1, .int (σ 40 3)]) (S' := stt σ τ) (kc' := 0) (ks' := 0) rfl ⟨trivial, rfl, trivial, trivial⟩ ?_
  rw [hlv]
  refine R_icmp ck_18_36 (fun (c_36 : 1 ≤ (nI lv)) => ?_) (fun (c_36 : ¬ 1 ≤ (nI lv)) => ?_)
  · have c_36 : 1 ≤ lv := (nI_leI (a := 1) (b := lv) (by omega) (by omega)).mp c_36
    refine R_seg sg_18_41 sk_18_41 (pc' := 51) (lv' := [(0, .ref 40), (1, .int (nI b)), (2, .int p)]) (st' := [.int ((σ 40 3) - 1), .ref 41]) (S' := stt σ τ) (kc' := 0) (ks' := 0) rfl ⟨trivial, rfl, trivial, rfl, trivial, trivial, trivial⟩ ?_
    rw [hlv]
    rw [show nI lv - 1 = nI (lv - 1) from pk_sub (b := 1) (by omega)]
    refine R_iald ca_18_51 (j := lv - 1) rfl rfl (by omega) ?_
    show RU_18 (d + 1) (0, 0) Post 52 ([(0, .ref 40), (1, .int (nI b)), (2, .int p)]) ([.int (σ 41 (lv - 1))]) (stt σ τ) 0 0
    rw [hon]
    refine R_seg sg_18_52 sk_18_52 (pc' := 56) (lv' := [(3, .int (nI n)), (0, .ref 40), (1, .int (nI b)), (2, .int p)]) (st' := [.int 125, .int (nI b)]) (S' := stt σ τ) (kc' := 0) (ks' := 0) rfl ⟨(by decide), trivial, trivial, trivial⟩ ?_
    refine R_icmp ck_18_56 (fun (c_56 : ¬ (nI b) = 125) => ?_) (fun (c_56 : ¬ ¬ (nI b) = 125) => ?_)
    · have c_56 : ¬ b = 125 := fun q => c_56 ((nI_eq (a := b) (b := 125) (by omega) (by omega)).mpr q)
      refine R_seg sg_18_65 sk_18_65 (pc' := 70) (lv' := [(3, .int (nI n)), (0, .ref 40), (1, .int (nI b)), (2, .int p)]) (st' := [.int 51, .int 48, .int (nI b)]) (S' := stt σ τ) (kc' := 0) (ks' := 0) rfl ⟨trivial, trivial, trivial, trivial⟩ ?_
      refine R_stat ck_18_70 (by decide) [.int (nI b), .int 48, .int 51] 0 0 (r := []) rfl rfl (Nat.le_of_ble_eq_true rfl) (Nat.le_refl _) (Nat.le_refl _) ?_
      refine xn_57 (d := d) 48 51 (by decide) (by decide) (fun j l_j u_j e_j => ?_) (fun n_j => ?_)
      · have e_j : b = j := (nI_eq (by omega) (by omega)).mp e_j
        subst e_j
        have hkd : σ 20 (t * 4 + (b - 48)) = nI (kd (b - 48)) := hkd (b - 48) (by omega)
        have hkd3 : kd (b - 48) < 3 := hkd3 (b - 48) (by omega)
        show RU_18 (d + 1) (0, 0) Post 73 ([(3, .int (nI n)), (0, .ref 40), (1, .int (nI b)), (2, .int p)]) ([.int 1]) (stt σ τ) 0 0
        refine R_if ck_18_73 (fun c => absurd c (show ¬ (1 : Int32) = 0 from by decide)) (fun _ => ?_)
        refine R_seg sg_18_76 sk_18_76 (pc' := 82) (lv' := [(3, .int (nI n)), (0, .ref 40), (1, .int (nI b)), (2, .int p)]) (st' := [.int ((nI b) - 48), .int (nI n), .ref 40]) (S' := stt σ τ) (kc' := 0) (ks' := 0) rfl ⟨trivial, trivial, trivial, trivial, trivial, trivial⟩ ?_
        rw [show nI b - 48 = nI (b - 48) from pk_sub (b := 48) (by omega)]
        refine R_virt ck_18_82 40 [.int (nI n), .int (nI (b - 48))] 0 0 (r := []) rfl rfl rfl (Nat.le_of_ble_eq_true rfl) (Nat.le_refl _) (Nat.le_refl _) ?_
        refine x_21 (d := d) hn hw hw2 (f := b - 48) (by omega) ht ht6 hkd hkd3 (fun o_f => ?_) (fun o_1 o_2 => ?_) (fun o_1 o_2 o_3 => ?_) (fun o_1 o_2 => ?_)
        · show RU_18 (d + 1) (0, 0) Post 85 ([(3, .int (nI n)), (0, .ref 40), (1, .int (nI b)), (2, .int p)]) ([.int 2]) (stt σ τ) 0 0
          refine R_goto ck_18_85 ?_
          refine R_iret ck_18_89 rfl rfl ?_
          exact hdW (by omega) (by omega) o_f
        · show RU_18 (d + 1) (0, 0) Post 85 ([(3, .int (nI n)), (0, .ref 40), (1, .int (nI b)), (2, .int p)]) ([.int (-1)]) (stt (c_add σ n w (b - 48)) τ) 0 0
          refine R_goto ck_18_85 ?_
          refine R_iret ck_18_89 rfl rfl ?_
          exact hdN (by omega) (by omega) o_1 o_2
        · show RU_18 (d + 1) (0, 0) Post 85 ([(3, .int (nI n)), (0, .ref 40), (1, .int (nI b)), (2, .int p)]) ([.int (-1)]) (stt (up2 (up2 (up2 (up2 (c_add σ n w (b - 48)) 40 5 (σ 21 (t * 4 + (b - 48)))) 40 6 (σ 35 n * 1)) 40 7 (nI (n * 6 + w))) 40 4 0) τ) 0 0
          refine R_goto ck_18_85 ?_
          refine R_iret ck_18_89 rfl rfl ?_
          exact hdR (by omega) (by omega) o_1 o_2 o_3
        · show RU_18 (d + 1) (0, 0) Post 85 ([(3, .int (nI n)), (0, .ref 40), (1, .int (nI b)), (2, .int p)]) ([.int (-1)]) (stt (up2 (up2 (up2 (up2 (c_add σ n w (b - 48)) 40 5 (σ 21 (t * 4 + (b - 48)))) 40 6 (σ 35 n * σ 22 (t * 4 + (b - 48)))) 40 7 (nI (n * 6 + w))) 40 4 0) τ) 0 0
          refine R_goto ck_18_85 ?_
          refine R_iret ck_18_89 rfl rfl ?_
          exact hdL (by omega) (by omega) o_1 o_2
      · have hnb : ¬ (48 ≤ b ∧ b ≤ 51) := fun q => n_j ⟨b, q.1, q.2, rfl⟩
        show RU_18 (d + 1) (0, 0) Post 73 ([(3, .int (nI n)), (0, .ref 40), (1, .int (nI b)), (2, .int p)]) ([.int 0]) (stt σ τ) 0 0
        refine R_if ck_18_73 (fun _ => ?_) (fun c => absurd (show (0 : Int32) = 0 from by decide) c)
        refine R_seg sg_18_88 sk_18_88 (pc' := 89) (lv' := [(3, .int (nI n)), (0, .ref 40), (1, .int (nI b)), (2, .int p)]) (st' := [.int 0]) (S' := stt σ τ) (kc' := 0) (ks' := 0) rfl ⟨trivial, trivial⟩ ?_
        refine R_iret ck_18_89 rfl rfl ?_
        exact hb (by omega) hnb
    · have c_56 : b = 125 := (nI_eq (a := b) (b := 125) (by omega) (by omega)).mp (Classical.not_not.mp c_56)
      refine R_seg sg_18_59 sk_18_59 (pc' := 61) (lv' := [(3, .int (nI n)), (0, .ref 40), (1, .int (nI b)), (2, .int p)]) (st' := [.int (nI n), .ref 40]) (S' := stt σ τ) (kc' := 0) (ks' := 0) rfl ⟨trivial, trivial, trivial⟩ ?_
      refine R_virt ck_18_61 40 [.int (nI n)] 0 0 (r := []) rfl rfl rfl (Nat.le_of_ble_eq_true rfl) (Nat.le_refl _) (Nat.le_refl _) ?_
      refine x_20 (d := d) hn hw hw2 hlv hlv1 hlv2 (fun o_f => ?_) (fun o_1 o_2 => ?_) (fun o_1 o_2 => ?_)
      · show RU_18 (d + 1) (0, 0) Post 64 ([(3, .int (nI n)), (0, .ref 40), (1, .int (nI b)), (2, .int p)]) ([.int 0]) (stt σ τ) 0 0
        refine R_iret ck_18_64 rfl rfl ?_
        exact hc0 (by omega) o_f
      · show RU_18 (d + 1) (0, 0) Post 64 ([(3, .int (nI n)), (0, .ref 40), (1, .int (nI b)), (2, .int p)]) ([.int (-1)]) (stt (up2 (up2 σ 40 3 (nI (lv - 1))) 40 4 1) τ) 0 0
        refine R_iret ck_18_64 rfl rfl ?_
        exact hc1 (by omega) o_1 o_2
      · show RU_18 (d + 1) (0, 0) Post 64 ([(3, .int (nI n)), (0, .ref 40), (1, .int (nI b)), (2, .int p)]) ([.int (-1)]) (stt (up2 (up2 σ 40 3 (nI (lv - 1))) 40 4 2) τ) 0 0
        refine R_iret ck_18_64 rfl rfl ?_
        exact hc2 (by omega) o_1 o_2
  · have c_36 : lv < 1 := Nat.not_le.mp (fun q => c_36 ((nI_leI (a := 1) (b := lv) (by omega) (by omega)).mpr q))
    refine R_seg sg_18_39 sk_18_39 (pc' := 40) (lv' := [(0, .ref 40), (1, .int (nI b)), (2, .int p)]) (st' := [.int 0]) (S' := stt σ τ) (kc' := 0) (ks' := 0) rfl ⟨trivial, trivial⟩ ?_
    refine R_iret ck_18_40 rfl rfl ?_
    exact absurd c_36 (by omega)
