/-! ===== Reader: one byte ===== -/
def c_opn (σ : Nat → Nat → Int32) (nd lv : Nat) (p : Int32) : Nat → Nat → Int32 := up2 (up2 (up2 (up2 (up2 (up2 (up2 (up2 σ 32 7 (nI nd + 1)) 33 nd (σ 40 5)) 35 nd (σ 40 6)) 34 nd p) 37 nd 0) 41 lv (nI nd)) 40 3 (nI lv + 1)) 36 nd (nI lv + 1)
theorem nI_m1 {s : Nat} (h : s < 2147483648) : ¬ nI s = -1 := by
  intro q
  have q2 := congrArg Int32.toInt q
  rw [nI_toInt h] at q2
  have : (-1 : Int32).toInt = -1 := rfl
  omega
set_option maxRecDepth 20000 in
theorem x_19s {d : Nat} {σ : Nat → Nat → Int32} {τ : Nat → Nat → Int64} {nd lv : Nat} {p : Int32} (hnd : σ 32 7 = nI nd) (hlv : σ 40 3 = nI lv) (hnd2 : nd ≤ 20) (hlv2 : lv ≤ 5) {s : Nat} (hsl : σ 40 7 = nI s) (hs2 : s < 120) {Post : Option Value → Sto → Prop} (hs : nd < 20 → lv < 5 → Post (some (.int (-1))) (stt (up2 (up2 (c_opn σ nd lv p) 39 s (nI nd)) 40 4 1) τ)) (hf : (20 ≤ nd ∨ 5 ≤ lv) → Post (some (.int 1)) (stt σ τ)) : Ex (d + 1) 19 [.ref 40, .int p] (stt σ τ) 0 0 Post := by
  refine en_19 (Nat.le_of_ble_eq_true rfl) ?_
  show RU_19 d (0, 0) Post 0 ([(0, .ref 40), (1, .int p)]) ([]) (stt σ τ) 0 0
  refine R_seg sg_19_0 sk_19_0 (pc' := 9) (lv' := [(0, .ref 40), (1, .int p)]) (st' := [.int 20, .int (σ 32 7)]) (S' := stt σ τ) (kc' := 0) (ks' := 0) rfl ⟨trivial, rfl, rfl, trivial, trivial⟩ ?_
  rw [hnd]
  refine R_icmp ck_19_9 (fun (c_9 : 20 ≤ (nI nd)) => ?_) (fun (c_9 : ¬ 20 ≤ (nI nd)) => ?_)
  · have c_9 : 20 ≤ nd := (nI_leI (a := 20) (b := nd) (by omega) (by omega)).mp c_9
    refine R_seg sg_19_20 sk_19_20 (pc' := 21) (lv' := [(0, .ref 40), (1, .int p)]) (st' := [.int 1]) (S' := stt σ τ) (kc' := 0) (ks' := 0) rfl ⟨trivial, trivial⟩ ?_
    refine R_iret ck_19_21 rfl rfl ?_
    exact hf (by omega)
  · have c_9 : nd < 20 := Nat.not_le.mp (fun q => c_9 ((nI_leI (a := 20) (b := nd) (by omega) (by omega)).mpr q))
    refine R_seg sg_19_12 sk_19_12 (pc' := 17) (lv' := [(0, .ref 40), (1, .int p)]) (st' := [.int 5, .int (σ 40 3)]) (S' := stt σ τ) (kc' := 0) (ks' := 0) rfl ⟨trivial, rfl, trivial, trivial⟩ ?_
    rw [hlv]
    refine R_icmp ck_19_17 (fun (c_17 : (nI lv) < 5) => ?_) (fun (c_17 : ¬ (nI lv) < 5) => ?_)
    · have c_17 : lv < 5 := (nI_ltI (a := lv) (b := 5) (by omega) (by omega)).mp c_17
      refine R_seg sg_19_22 sk_19_22 (pc' := 55) (lv' := [(2, .int (σ 32 7)), (0, .ref 40), (1, .int p)]) (st' := [.int (σ 40 5), .int (σ 32 7), .ref 33]) (S' := stt (up2 σ 32 7 ((σ 32 7) + 1)) τ) (kc' := 0) (ks' := 0) rfl ⟨trivial, rfl, rfl, (by decide), trivial, rfl, rfl, rfl, trivial, trivial, ⟨rfl, ⟨rfl, rfl⟩⟩, trivial, rfl, rfl, trivial, trivial, rfl, trivial⟩ ?_
      rw [hnd]
      refine R_iast ca_19_55 (j := nd) rfl rfl (by omega) ?_
      refine R_seg sg_19_56 sk_19_56 (pc' := 68) (lv' := [(2, .int (nI nd)), (0, .ref 40), (1, .int p)]) (st' := [.int (σ 40 6), .int (nI nd), .ref 35]) (S' := stt (up2 (up2 σ 32 7 ((nI nd) + 1)) 33 nd (σ 40 5)) τ) (kc' := 0) (ks' := 0) rfl ⟨trivial, rfl, rfl, trivial, trivial, rfl, trivial⟩ ?_
      refine R_iast ca_19_68 (j := nd) rfl rfl (by omega) ?_
      refine R_seg sg_19_69 sk_19_69 (pc' := 78) (lv' := [(2, .int (nI nd)), (0, .ref 40), (1, .int p)]) (st' := [.int p, .int (nI nd), .ref 34]) (S' := stt (up2 (up2 (up2 σ 32 7 ((nI nd) + 1)) 33 nd (σ 40 5)) 35 nd (σ 40 6)) τ) (kc' := 0) (ks' := 0) rfl ⟨trivial, rfl, rfl, trivial, trivial, trivial⟩ ?_
      refine R_iast ca_19_78 (j := nd) rfl rfl (by omega) ?_
      refine R_seg sg_19_79 sk_19_79 (pc' := 88) (lv' := [(2, .int (nI nd)), (0, .ref 40), (1, .int p)]) (st' := [.int 0, .int (nI nd), .ref 37]) (S' := stt (up2 (up2 (up2 (up2 σ 32 7 ((nI nd) + 1)) 33 nd (σ 40 5)) 35 nd (σ 40 6)) 34 nd p) τ) (kc' := 0) (ks' := 0) rfl ⟨trivial, rfl, rfl, trivial, trivial, trivial⟩ ?_
      refine R_iast ca_19_88 (j := nd) rfl rfl (by omega) ?_
      refine R_seg sg_19_89 sk_19_89 (pc' := 98) (lv' := [(2, .int (nI nd)), (0, .ref 40), (1, .int p)]) (st' := [.int (nI nd), .int (σ 40 3), .ref 41]) (S' := stt (up2 (up2 (up2 (up2 (up2 σ 32 7 ((nI nd) + 1)) 33 nd (σ 40 5)) 35 nd (σ 40 6)) 34 nd p) 37 nd 0) τ) (kc' := 0) (ks' := 0) rfl ⟨trivial, rfl, trivial, rfl, trivial, trivial⟩ ?_
      rw [hlv]
      refine R_iast ca_19_98 (j := lv) rfl rfl (by omega) ?_
      refine R_seg sg_19_99 sk_19_99 (pc' := 121) (lv' := [(2, .int (nI nd)), (0, .ref 40), (1, .int p)]) (st' := [.int ((σ 40 3) + 1), .int (nI nd), .ref 36]) (S' := stt (up2 (up2 (up2 (up2 (up2 (up2 (up2 σ 32 7 ((nI nd) + 1)) 33 nd (σ 40 5)) 35 nd (σ 40 6)) 34 nd p) 37 nd 0) 41 lv (nI nd)) 40 3 ((σ 40 3) + 1)) τ) (kc' := 0) (ks' := 0) rfl ⟨trivial, rfl, rfl, trivial, trivial, ⟨rfl, ⟨rfl, rfl⟩⟩, trivial, rfl, rfl, trivial, trivial, rfl, trivial⟩ ?_
      rw [hlv]
      refine R_iast ca_19_121 (j := nd) rfl rfl (by omega) ?_
      refine R_seg sg_19_122 sk_19_122 (pc' := 127) (lv' := [(2, .int (nI nd)), (0, .ref 40), (1, .int p)]) (st' := [.int (-1), .int (σ 40 7)]) (S' := stt (up2 (up2 (up2 (up2 (up2 (up2 (up2 (up2 σ 32 7 ((nI nd) + 1)) 33 nd (σ 40 5)) 35 nd (σ 40 6)) 34 nd p) 37 nd 0) 41 lv (nI nd)) 40 3 ((nI lv) + 1)) 36 nd ((nI lv) + 1)) τ) (kc' := 0) (ks' := 0) rfl ⟨trivial, rfl, trivial, trivial⟩ ?_
      rw [hsl]
      refine R_icmp ck_19_127 (fun (c_127 : (nI s) = (-1)) => ?_) (fun (c_127 : ¬ (nI s) = (-1)) => ?_)
      · exact absurd c_127 (show ¬ nI s = -1 from nI_m1 (by omega))
      · refine R_seg sg_19_130 sk_19_130 (pc' := 142) (lv' := [(2, .int (nI nd)), (0, .ref 40), (1, .int p)]) (st' := [.int (nI nd), .int (σ 40 7), .ref 39]) (S' := stt (up2 (up2 (up2 (up2 (up2 (up2 (up2 (up2 σ 32 7 ((nI nd) + 1)) 33 nd (σ 40 5)) 35 nd (σ 40 6)) 34 nd p) 37 nd 0) 41 lv (nI nd)) 40 3 ((nI lv) + 1)) 36 nd ((nI lv) + 1)) τ) (kc' := 0) (ks' := 0) rfl ⟨trivial, rfl, rfl, trivial, rfl, trivial, trivial⟩ ?_
        rw [hsl]
        refine R_iast ca_19_142 (j := s) rfl rfl (by omega) ?_
        refine R_seg sg_19_143 sk_19_143 (pc' := 149) (lv' := [(2, .int (nI nd)), (0, .ref 40), (1, .int p)]) (st' := [.int (-1)]) (S' := stt (up2 (up2 (up2 (up2 (up2 (up2 (up2 (up2 (up2 (up2 σ 32 7 ((nI nd) + 1)) 33 nd (σ 40 5)) 35 nd (σ 40 6)) 34 nd p) 37 nd 0) 41 lv (nI nd)) 40 3 ((nI lv) + 1)) 36 nd ((nI lv) + 1)) 39 s (nI nd)) 40 4 1) τ) (kc' := 0) (ks' := 0) rfl ⟨trivial, trivial, ⟨rfl, ⟨rfl, rfl⟩⟩, trivial, trivial⟩ ?_
        refine R_iret ck_19_149 rfl rfl ?_
        exact hs (by omega) (by omega)
    · have c_17 : 5 ≤ lv := Nat.not_lt.mp (fun q => c_17 ((nI_ltI (a := lv) (b := 5) (by omega) (by omega)).mpr q))
      refine R_seg sg_19_20 sk_19_20 (pc' := 21) (lv' := [(0, .ref 40), (1, .int p)]) (st' := [.int 1]) (S' := stt σ τ) (kc' := 0) (ks' := 0) rfl ⟨trivial, trivial⟩ ?_
      refine R_iret ck_19_21 rfl rfl ?_
      exact hf (by omega)
set_option maxRecDepth 20000 in
theorem x_19n {d : Nat} {σ : Nat → Nat → Int32} {τ : Nat → Nat → Int64} {nd lv : Nat} {p : Int32} (hnd : σ 32 7 = nI nd) (hlv : σ 40 3 = nI lv) (hnd2 : nd ≤ 20) (hlv2 : lv ≤ 5) (hsl : σ 40 7 = -1) {Post : Option Value → Sto → Prop} (hs : nd < 20 → lv < 5 → Post (some (.int (-1))) (stt (up2 (c_opn σ nd lv p) 40 4 1) τ)) (hf : (20 ≤ nd ∨ 5 ≤ lv) → Post (some (.int 1)) (stt σ τ)) : Ex (d + 1) 19 [.ref 40, .int p] (stt σ τ) 0 0 Post := by
  refine en_19 (Nat.le_of_ble_eq_true rfl) ?_
  show RU_19 d (0, 0) Post 0 ([(0, .ref 40), (1, .int p)]) ([]) (stt σ τ) 0 0
  refine R_seg sg_19_0 sk_19_0 (pc' := 9) (lv' := [(0, .ref 40), (1, .int p)]) (st' := [.int 20, .int (σ 32 7)]) (S' := stt σ τ) (kc' := 0) (ks' := 0) rfl ⟨trivial, rfl, rfl, trivial, trivial⟩ ?_
  rw [hnd]
  refine R_icmp ck_19_9 (fun (c_9 : 20 ≤ (nI nd)) => ?_) (fun (c_9 : ¬ 20 ≤ (nI nd)) => ?_)
  · have c_9 : 20 ≤ nd := (nI_leI (a := 20) (b := nd) (by omega) (by omega)).mp c_9
    refine R_seg sg_19_20 sk_19_20 (pc' := 21) (lv' := [(0, .ref 40), (1, .int p)]) (st' := [.int 1]) (S' := stt σ τ) (kc' := 0) (ks' := 0) rfl ⟨trivial, trivial⟩ ?_
    refine R_iret ck_19_21 rfl rfl ?_
    exact hf (by omega)
  · have c_9 : nd < 20 := Nat.not_le.mp (fun q => c_9 ((nI_leI (a := 20) (b := nd) (by omega) (by omega)).mpr q))
    refine R_seg sg_19_12 sk_19_12 (pc' := 17) (lv' := [(0, .ref 40), (1, .int p)]) (st' := [.int 5, .int (σ 40 3)]) (S' := stt σ τ) (kc' := 0) (ks' := 0) rfl ⟨trivial, rfl, trivial, trivial⟩ ?_
    rw [hlv]
    refine R_icmp ck_19_17 (fun (c_17 : (nI lv) < 5) => ?_) (fun (c_17 : ¬ (nI lv) < 5) => ?_)
    · have c_17 : lv < 5 := (nI_ltI (a := lv) (b := 5) (by omega) (by omega)).mp c_17
      refine R_seg sg_19_22 sk_19_22 (pc' := 55) (lv' := [(2, .int (σ 32 7)), (0, .ref 40), (1, .int p)]) (st' := [.int (σ 40 5), .int (σ 32 7), .ref 33]) (S' := stt (up2 σ 32 7 ((σ 32 7) + 1)) τ) (kc' := 0) (ks' := 0) rfl ⟨trivial, rfl, rfl, (by decide), trivial, rfl, rfl, rfl, trivial, trivial, ⟨rfl, ⟨rfl, rfl⟩⟩, trivial, rfl, rfl, trivial, trivial, rfl, trivial⟩ ?_
      rw [hnd]
      refine R_iast ca_19_55 (j := nd) rfl rfl (by omega) ?_
      refine R_seg sg_19_56 sk_19_56 (pc' := 68) (lv' := [(2, .int (nI nd)), (0, .ref 40), (1, .int p)]) (st' := [.int (σ 40 6), .int (nI nd), .ref 35]) (S' := stt (up2 (up2 σ 32 7 ((nI nd) + 1)) 33 nd (σ 40 5)) τ) (kc' := 0) (ks' := 0) rfl ⟨trivial, rfl, rfl, trivial, trivial, rfl, trivial⟩ ?_
      refine R_iast ca_19_68 (j := nd) rfl rfl (by omega) ?_
      refine R_seg sg_19_69 sk_19_69 (pc' := 78) (lv' := [(2, .int (nI nd)), (0, .ref 40), (1, .int p)]) (st' := [.int p, .int (nI nd), .ref 34]) (S' := stt (up2 (up2 (up2 σ 32 7 ((nI nd) + 1)) 33 nd (σ 40 5)) 35 nd (σ 40 6)) τ) (kc' := 0) (ks' := 0) rfl ⟨trivial, rfl, rfl, trivial, trivial, trivial⟩ ?_
      refine R_iast ca_19_78 (j := nd) rfl rfl (by omega) ?_
      refine R_seg sg_19_79 sk_19_79 (pc' := 88) (lv' := [(2, .int (nI nd)), (0, .ref 40), (1, .int p)]) (st' := [.int 0, .int (nI nd), .ref 37]) (S' := stt (up2 (up2 (up2 (up2 σ 32 7 ((nI nd) + 1)) 33 nd (σ 40 5)) 35 nd (σ 40 6)) 34 nd p) τ) (kc' := 0) (ks' := 0) rfl ⟨trivial, rfl, rfl, trivial, trivial, trivial⟩ ?_
      refine R_iast ca_19_88 (j := nd) rfl rfl (by omega) ?_
      refine R_seg sg_19_89 sk_19_89 (pc' := 98) (lv' := [(2, .int (nI nd)), (0, .ref 40), (1, .int p)]) (st' := [.int (nI nd), .int (σ 40 3), .ref 41]) (S' := stt (up2 (up2 (up2 (up2 (up2 σ 32 7 ((nI nd) + 1)) 33 nd (σ 40 5)) 35 nd (σ 40 6)) 34 nd p) 37 nd 0) τ) (kc' := 0) (ks' := 0) rfl ⟨trivial, rfl, trivial, rfl, trivial, trivial⟩ ?_
      rw [hlv]
      refine R_iast ca_19_98 (j := lv) rfl rfl (by omega) ?_
      refine R_seg sg_19_99 sk_19_99 (pc' := 121) (lv' := [(2, .int (nI nd)), (0, .ref 40), (1, .int p)]) (st' := [.int ((σ 40 3) + 1), .int (nI nd), .ref 36]) (S' := stt (up2 (up2 (up2 (up2 (up2 (up2 (up2 σ 32 7 ((nI nd) + 1)) 33 nd (σ 40 5)) 35 nd (σ 40 6)) 34 nd p) 37 nd 0) 41 lv (nI nd)) 40 3 ((σ 40 3) + 1)) τ) (kc' := 0) (ks' := 0) rfl ⟨trivial, rfl, rfl, trivial, trivial, ⟨rfl, ⟨rfl, rfl⟩⟩, trivial, rfl, rfl, trivial, trivial, rfl, trivial⟩ ?_
      rw [hlv]
      refine R_iast ca_19_121 (j := nd) rfl rfl (by omega) ?_
      refine R_seg sg_19_122 sk_19_122 (pc' := 127) (lv' := [(2, .int (nI nd)), (0, .ref 40), (1, .int p)]) (st' := [.int (-1), .int (σ 40 7)]) (S' := stt (up2 (up2 (up2 (up2 (up2 (up2 (up2 (up2 σ 32 7 ((nI nd) + 1)) 33 nd (σ 40 5)) 35 nd (σ 40 6)) 34 nd p) 37 nd 0) 41 lv (nI nd)) 40 3 ((nI lv) + 1)) 36 nd ((nI lv) + 1)) τ) (kc' := 0) (ks' := 0) rfl ⟨trivial, rfl, trivial, trivial⟩ ?_
      rw [hsl]
      refine R_icmp ck_19_127 (fun _ => ?_) (fun c => absurd (show (-1 : Int32) = (-1) from by decide) c)
      refine R_seg sg_19_143 sk_19_143 (pc' := 149) (lv' := [(2, .int (nI nd)), (0, .ref 40), (1, .int p)]) (st' := [.int (-1)]) (S' := stt (up2 (up2 (up2 (up2 (up2 (up2 (up2 (up2 (up2 σ 32 7 ((nI nd) + 1)) 33 nd (σ 40 5)) 35 nd (σ 40 6)) 34 nd p) 37 nd 0) 41 lv (nI nd)) 40 3 ((nI lv) + 1)) 36 nd ((nI lv) + 1)) 40 4 1) τ) (kc' := 0) (ks' := 0) rfl ⟨trivial, trivial, ⟨rfl, ⟨rfl, rfl⟩⟩, trivial, trivial⟩ ?_
      refine R_iret ck_19_149 rfl rfl ?_
      exact hs (by omega) (by omega)
    · have c_17 : 5 ≤ lv := Nat.not_lt.mp (fun q => c_17 ((nI_ltI (a := lv) (b := 5) (by omega) (by omega)).mpr q))
      refine R_seg sg_19_20 sk_19_20 (pc' := 21) (lv' := [(0, .ref 40), (1, .int p)]) (st' := [.int 1]) (S' := stt σ τ) (kc' := 0) (ks' := 0) rfl ⟨trivial, trivial⟩ ?_
      refine R_iret ck_19_21 rfl rfl ?_
      exact hf (by omega)
set_option maxRecDepth 20000 in
theorem x_20 {d : Nat} {σ : Nat → Nat → Int32} {τ : Nat → Nat → Int64} {n w lv : Nat} (hn : n < 20) (hw : σ 37 n = nI w) (hw2 : w ≤ 6) (hlv : σ 40 3 = nI lv) (hlv1 : 1 ≤ lv) (hlv2 : lv ≤ 5) {Post : Option Value → Sto → Prop} (hf : w = 0 → Post (some (.int 0)) (stt σ τ)) (h1 : 0 < w → 1 < lv → Post (some (.int (-1))) (stt (up2 (up2 σ 40 3 (nI (lv - 1))) 40 4 1) τ)) (h2 : 0 < w → lv = 1 → Post (some (.int (-1))) (stt (up2 (up2 σ 40 3 (nI (lv - 1))) 40 4 2) τ)) : Ex (d + 1) 20 [.ref 40, .int (nI n)] (stt σ τ) 0 0 Post := by
  refine en_20 (Nat.le_of_ble_eq_true rfl) ?_
  show RU_20 d (0, 0) Post 0 ([(0, .ref 40), (1, .int (nI n))]) ([]) (stt σ τ) 0 0
  refine R_seg sg_20_0 sk_20_0 (pc' := 8) (lv' := [(0, .ref 40), (1, .int (nI n))]) (st' := [.int (nI n), .ref 37]) (S' := stt σ τ) (kc' := 0) (ks' := 0) rfl ⟨trivial, rfl, rfl, trivial, trivial⟩ ?_
  refine R_iald ca_20_8 (j := n) rfl rfl (by omega) ?_
  show RU_20 d (0, 0) Post 9 ([(0, .ref 40), (1, .int (nI n))]) ([.int (σ 37 n)]) (stt σ τ) 0 0
  rw [hw]
  refine R_if ck_20_9 (fun (c_9 : ¬ (nI w) = 0) => ?_) (fun (c_9 : ¬ ¬ (nI w) = 0) => ?_)
  · have c_9 : ¬ w = 0 := fun q => c_9 ((nI_eq (a := w) (b := 0) (by omega) (by omega)).mpr q)
    refine R_seg sg_20_14 sk_20_14 (pc' := 29) (lv' := [(0, .ref 40), (1, .int (nI n))]) (st' := [.int ((σ 40 3) - 1), .ref 40]) (S' := stt (up2 σ 40 3 ((σ 40 3) - 1)) τ) (kc' := 0) (ks' := 0) rfl ⟨trivial, rfl, rfl, trivial, trivial, ⟨rfl, ⟨rfl, rfl⟩⟩, trivial, trivial, rfl, trivial⟩ ?_
    rw [hlv]
    rw [show nI lv - 1 = nI (lv - 1) from pk_sub (b := 1) (by omega)]
    refine R_if ck_20_29 (fun (c_29 : ¬ (nI (lv - 1)) = 0) => ?_) (fun (c_29 : ¬ ¬ (nI (lv - 1)) = 0) => ?_)
    · have c_29 : ¬ (lv - 1) = 0 := fun q => c_29 ((nI_eq (a := (lv - 1)) (b := 0) (by omega) (by omega)).mpr q)
      refine R_seg sg_20_36 sk_20_36 (pc' := 37) (lv' := [(0, .ref 40), (1, .int (nI n))]) (st' := [.int 1, .ref 40]) (S' := stt (up2 σ 40 3 (nI (lv - 1))) τ) (kc' := 0) (ks' := 0) rfl ⟨trivial, trivial⟩ ?_
      refine R_seg sg_20_37 sk_20_37 (pc' := 41) (lv' := [(0, .ref 40), (1, .int (nI n))]) (st' := [.int (-1)]) (S' := stt (up2 (up2 σ 40 3 (nI (lv - 1))) 40 4 1) τ) (kc' := 0) (ks' := 0) rfl ⟨⟨rfl, ⟨rfl, rfl⟩⟩, trivial, trivial⟩ ?_
      refine R_iret ck_20_41 rfl rfl ?_
      first | exact h2 (by omega) (by omega) | exact h1 (by omega) (by omega)
    · have c_29 : (lv - 1) = 0 := (nI_eq (a := (lv - 1)) (b := 0) (by omega) (by omega)).mp (Classical.not_not.mp c_29)
      refine R_seg sg_20_32 sk_20_32 (pc' := 33) (lv' := [(0, .ref 40), (1, .int (nI n))]) (st' := [.int 2, .ref 40]) (S' := stt (up2 σ 40 3 (nI (lv - 1))) τ) (kc' := 0) (ks' := 0) rfl ⟨trivial, trivial⟩ ?_
      refine R_goto ck_20_33 ?_
      refine R_seg sg_20_37 sk_20_37 (pc' := 41) (lv' := [(0, .ref 40), (1, .int (nI n))]) (st' := [.int (-1)]) (S' := stt (up2 (up2 σ 40 3 (nI (lv - 1))) 40 4 2) τ) (kc' := 0) (ks' := 0) rfl ⟨⟨rfl, ⟨rfl, rfl⟩⟩, trivial, trivial⟩ ?_
      refine R_iret ck_20_41 rfl rfl ?_
      first | exact h2 (by omega) (by omega) | exact h1 (by omega) (by omega)
  · have c_9 : w = 0 := (nI_eq (a := w) (b := 0) (by omega) (by omega)).mp (Classical.not_not.mp c_9)
    refine R_seg sg_20_12 sk_20_12 (pc' := 13) (lv' := [(0, .ref 40), (1, .int (nI n))]) (st' := [.int 0]) (S' := stt σ τ) (kc' := 0) (ks' := 0) rfl ⟨trivial, trivial⟩ ?_
    refine R_iret ck_20_13 rfl rfl ?_
    exact hf (by omega)
def c_add (σ : Nat → Nat → Int32) (n w f : Nat) : Nat → Nat → Int32 := up2 (up2 (up2 σ 37 n (nI w + 1)) 38 (n * 6 + w) (nI f)) 39 (n * 6 + w) (-1)
set_option maxRecDepth 20000 in
theorem x_21 {d : Nat} {σ : Nat → Nat → Int32} {τ : Nat → Nat → Int64} {n w f t kd : Nat} (hn : n < 20) (hw : σ 37 n = nI w) (hw2 : w ≤ 6) (hf4 : f < 4) (ht : σ 33 n = nI t) (ht6 : t < 6) (hkd : σ 20 (t * 4 + f) = nI kd) (hkd3 : kd < 3) {Post : Option Value → Sto → Prop} (hf : 6 ≤ w → Post (some (.int 2)) (stt σ τ)) (hN : w < 6 → kd = 0 → Post (some (.int (-1))) (stt (c_add σ n w f) τ)) (hR : w < 6 → ¬ kd = 0 → ¬ kd = 2 → Post (some (.int (-1))) (stt (up2 (up2 (up2 (up2 (c_add σ n w f) 40 5 (σ 21 (t * 4 + f))) 40 6 (σ 35 n * 1)) 40 7 (nI (n * 6 + w))) 40 4 0) τ)) (hL : w < 6 → kd = 2 → Post (some (.int (-1))) (stt (up2 (up2 (up2 (up2 (c_add σ n w f) 40 5 (σ 21 (t * 4 + f))) 40 6 (σ 35 n * σ 22 (t * 4 + f))) 40 7 (nI (n * 6 + w))) 40 4 0) τ)) : Ex (d + 1) 21 [.ref 40, .int (nI n), .int (nI f)] (stt σ τ) 0 0 Post := by
  refine en_21 (Nat.le_of_ble_eq_true rfl) ?_
  show RU_21 d (0, 0) Post 0 ([(0, .ref 40), (1, .int (nI n)), (2, .int (nI f))]) ([]) (stt σ τ) 0 0
  refine R_seg sg_21_0 sk_21_0 (pc' := 8) (lv' := [(0, .ref 40), (1, .int (nI n)), (2, .int (nI f))]) (st' := [.int (nI n), .ref 37]) (S' := stt σ τ) (kc' := 0) (ks' := 0) rfl ⟨trivial, rfl, rfl, trivial, trivial⟩ ?_
  refine R_iald ca_21_8 (j := n) rfl rfl (by omega) ?_
  show RU_21 d (0, 0) Post 9 ([(0, .ref 40), (1, .int (nI n)), (2, .int (nI f))]) ([.int (σ 37 n)]) (stt σ τ) 0 0
  rw [hw]
  refine R_seg sg_21_9 sk_21_9 (pc' := 11) (lv' := [(0, .ref 40), (1, .int (nI n)), (2, .int (nI f))]) (st' := [.int 6, .int (nI w)]) (S' := stt σ τ) (kc' := 0) (ks' := 0) rfl ⟨trivial, trivial⟩ ?_
  refine R_icmp ck_21_11 (fun (c_11 : (nI w) < 6) => ?_) (fun (c_11 : ¬ (nI w) < 6) => ?_)
  · have c_11 : w < 6 := (nI_ltI (a := w) (b := 6) (by omega) (by omega)).mp c_11
    refine R_seg sg_21_16 sk_21_16 (pc' := 28) (lv' := [(0, .ref 40), (1, .int (nI n)), (2, .int (nI f))]) (st' := [.int (nI n), .ref 37, .int ((nI n) * 6)]) (S' := stt σ τ) (kc' := 0) (ks' := 0) rfl ⟨trivial, trivial, trivial, trivial, rfl, rfl, trivial, trivial⟩ ?_
    refine R_iald ca_21_28 (j := n) rfl rfl (by omega) ?_
    show RU_21 d (0, 0) Post 29 ([(0, .ref 40), (1, .int (nI n)), (2, .int (nI f))]) ([.int (σ 37 n), .int ((nI n) * 6)]) (stt σ τ) 0 0
    rw [hw]
    refine R_seg sg_21_29 sk_21_29 (pc' := 40) (lv' := [(3, .int (((nI n) * 6) + (nI w))), (0, .ref 40), (1, .int (nI n)), (2, .int (nI f))]) (st' := [.int (nI n), .ref 37, .int (nI n), .ref 37]) (S' := stt σ τ) (kc' := 0) (ks' := 0) rfl ⟨trivial, (by decide), trivial, rfl, rfl, trivial, ⟨rfl, rfl⟩, trivial⟩ ?_
    rw [show nI n * 6 + nI w = nI (n * 6 + w) from by simp only [nl_0, nl_1, nl_2, nl_3, nl_4, nl_5, nl_6, nl_8, nl_20, nl_31, nl_32, pk_mul, nI_add]]
    refine R_iald ca_21_40 (j := n) rfl rfl (by omega) ?_
    show RU_21 d (0, 0) Post 41 ([(3, .int (nI (n * 6 + w))), (0, .ref 40), (1, .int (nI n)), (2, .int (nI f))]) ([.int (σ 37 n), .int (nI n), .ref 37]) (stt σ τ) 0 0
    rw [hw]
    refine R_seg sg_21_41 sk_21_41 (pc' := 43) (lv' := [(3, .int (nI (n * 6 + w))), (0, .ref 40), (1, .int (nI n)), (2, .int (nI f))]) (st' := [.int ((nI w) + 1), .int (nI n), .ref 37]) (S' := stt σ τ) (kc' := 0) (ks' := 0) rfl ⟨trivial, trivial, trivial⟩ ?_
    refine R_iast ca_21_43 (j := n) rfl rfl (by omega) ?_
    refine R_seg sg_21_44 sk_21_44 (pc' := 53) (lv' := [(3, .int (nI (n * 6 + w))), (0, .ref 40), (1, .int (nI n)), (2, .int (nI f))]) (st' := [.int (nI f), .int (nI (n * 6 + w)), .ref 38]) (S' := stt (up2 σ 37 n ((nI w) + 1)) τ) (kc' := 0) (ks' := 0) rfl ⟨trivial, rfl, rfl, trivial, trivial, trivial⟩ ?_
    refine R_iast ca_21_53 (j := n * 6 + w) rfl rfl (by omega) ?_
    refine R_seg sg_21_54 sk_21_54 (pc' := 63) (lv' := [(3, .int (nI (n * 6 + w))), (0, .ref 40), (1, .int (nI n)), (2, .int (nI f))]) (st' := [.int (-1), .int (nI (n * 6 + w)), .ref 39]) (S' := stt (up2 (up2 σ 37 n ((nI w) + 1)) 38 (n * 6 + w) (nI f)) τ) (kc' := 0) (ks' := 0) rfl ⟨trivial, rfl, rfl, trivial, trivial, trivial⟩ ?_
    refine R_iast ca_21_63 (j := n * 6 + w) rfl rfl (by omega) ?_
    refine R_seg sg_21_64 sk_21_64 (pc' := 72) (lv' := [(3, .int (nI (n * 6 + w))), (0, .ref 40), (1, .int (nI n)), (2, .int (nI f))]) (st' := [.int (nI n), .ref 33]) (S' := stt (up2 (up2 (up2 σ 37 n ((nI w) + 1)) 38 (n * 6 + w) (nI f)) 39 (n * 6 + w) (-1)) τ) (kc' := 0) (ks' := 0) rfl ⟨trivial, rfl, rfl, trivial, trivial⟩ ?_
    refine R_iald ca_21_72 (j := n) rfl rfl (by omega) ?_
    show RU_21 d (0, 0) Post 73 ([(3, .int (nI (n * 6 + w))), (0, .ref 40), (1, .int (nI n)), (2, .int (nI f))]) ([.int (σ 33 n)]) (stt (up2 (up2 (up2 σ 37 n ((nI w) + 1)) 38 (n * 6 + w) (nI f)) 39 (n * 6 + w) (-1)) τ) 0 0
    rw [ht]
    refine R_seg sg_21_73 sk_21_73 (pc' := 88) (lv' := [(4, .int (((nI t) * 4) + (nI f))), (3, .int (nI (n * 6 + w))), (0, .ref 40), (1, .int (nI n)), (2, .int (nI f))]) (st' := [.int (((nI t) * 4) + (nI f)), .ref 20]) (S' := stt (up2 (up2 (up2 σ 37 n ((nI w) + 1)) 38 (n * 6 + w) (nI f)) 39 (n * 6 + w) (-1)) τ) (kc' := 0) (ks' := 0) rfl ⟨trivial, trivial, trivial, trivial, (by decide), trivial, rfl, rfl, trivial, trivial⟩ ?_
    rw [show nI t * 4 + nI f = nI (t * 4 + f) from by simp only [nl_0, nl_1, nl_2, nl_3, nl_4, nl_5, nl_6, nl_8, nl_20, nl_31, nl_32, pk_mul, nI_add]]
    refine R_iald ca_21_88 (j := t * 4 + f) rfl rfl (by omega) ?_
    show RU_21 d (0, 0) Post 89 ([(4, .int (nI (t * 4 + f))), (3, .int (nI (n * 6 + w))), (0, .ref 40), (1, .int (nI n)), (2, .int (nI f))]) ([.int (σ 20 (t * 4 + f))]) (stt (up2 (up2 (up2 σ 37 n ((nI w) + 1)) 38 (n * 6 + w) (nI f)) 39 (n * 6 + w) (-1)) τ) 0 0
    rw [hkd]
    refine R_if ck_21_89 (fun (c_89 : (nI kd) = 0) => ?_) (fun (c_89 : ¬ (nI kd) = 0) => ?_)
    · have c_89 : kd = 0 := (nI_eq (a := kd) (b := 0) (by omega) (by omega)).mp c_89
      refine R_seg sg_21_170 sk_21_170 (pc' := 171) (lv' := [(4, .int (nI (t * 4 + f))), (3, .int (nI (n * 6 + w))), (0, .ref 40), (1, .int (nI n)), (2, .int (nI f))]) (st' := [.int (-1)]) (S' := stt (up2 (up2 (up2 σ 37 n ((nI w) + 1)) 38 (n * 6 + w) (nI f)) 39 (n * 6 + w) (-1)) τ) (kc' := 0) (ks' := 0) rfl ⟨trivial, trivial⟩ ?_
      refine R_iret ck_21_171 rfl rfl ?_
      first | exact hN (by omega) (by omega) | exact hL (by omega) (by omega) | exact hR (by omega) (by omega) (by omega)
    · have c_89 : ¬ kd = 0 := fun q => c_89 ((nI_eq (a := kd) (b := 0) (by omega) (by omega)).mpr q)
      refine R_seg sg_21_92 sk_21_92 (pc' := 101) (lv' := [(4, .int (nI (t * 4 + f))), (3, .int (nI (n * 6 + w))), (0, .ref 40), (1, .int (nI n)), (2, .int (nI f))]) (st' := [.int (nI (t * 4 + f)), .ref 20]) (S' := stt (up2 (up2 (up2 σ 37 n ((nI w) + 1)) 38 (n * 6 + w) (nI f)) 39 (n * 6 + w) (-1)) τ) (kc' := 0) (ks' := 0) rfl ⟨trivial, rfl, rfl, trivial, trivial⟩ ?_
      refine R_iald ca_21_101 (j := t * 4 + f) rfl rfl (by omega) ?_
      show RU_21 d (0, 0) Post 102 ([(4, .int (nI (t * 4 + f))), (3, .int (nI (n * 6 + w))), (0, .ref 40), (1, .int (nI n)), (2, .int (nI f))]) ([.int (σ 20 (t * 4 + f))]) (stt (up2 (up2 (up2 σ 37 n ((nI w) + 1)) 38 (n * 6 + w) (nI f)) 39 (n * 6 + w) (-1)) τ) 0 0
      rw [hkd]
      refine R_seg sg_21_102 sk_21_102 (pc' := 103) (lv' := [(4, .int (nI (t * 4 + f))), (3, .int (nI (n * 6 + w))), (0, .ref 40), (1, .int (nI n)), (2, .int (nI f))]) (st' := [.int 2, .int (nI kd)]) (S' := stt (up2 (up2 (up2 σ 37 n ((nI w) + 1)) 38 (n * 6 + w) (nI f)) 39 (n * 6 + w) (-1)) τ) (kc' := 0) (ks' := 0) rfl ⟨trivial, trivial⟩ ?_
      refine R_icmp ck_21_103 (fun (c_103 : ¬ (nI kd) = 2) => ?_) (fun (c_103 : ¬ ¬ (nI kd) = 2) => ?_)
      · have c_103 : ¬ kd = 2 := fun q => c_103 ((nI_eq (a := kd) (b := 2) (by omega) (by omega)).mpr q)
        refine R_seg sg_21_110 sk_21_110 (pc' := 111) (lv' := [(4, .int (nI (t * 4 + f))), (3, .int (nI (n * 6 + w))), (0, .ref 40), (1, .int (nI n)), (2, .int (nI f))]) (st' := [.int 0]) (S' := stt (up2 (up2 (up2 σ 37 n ((nI w) + 1)) 38 (n * 6 + w) (nI f)) 39 (n * 6 + w) (-1)) τ) (kc' := 0) (ks' := 0) rfl ⟨trivial, trivial⟩ ?_
        refine R_seg sg_21_111 sk_21_111 (pc' := 123) (lv' := [(5, .int 0), (4, .int (nI (t * 4 + f))), (3, .int (nI (n * 6 + w))), (0, .ref 40), (1, .int (nI n)), (2, .int (nI f))]) (st' := [.int (nI (t * 4 + f)), .ref 21, .ref 40]) (S' := stt (up2 (up2 (up2 σ 37 n ((nI w) + 1)) 38 (n * 6 + w) (nI f)) 39 (n * 6 + w) (-1)) τ) (kc' := 0) (ks' := 0) rfl ⟨(by decide), trivial, trivial, rfl, rfl, trivial, trivial⟩ ?_
        refine R_iald ca_21_123 (j := t * 4 + f) rfl rfl (by omega) ?_
        refine R_seg sg_21_124 sk_21_124 (pc' := 136) (lv' := [(5, .int 0), (4, .int (nI (t * 4 + f))), (3, .int (nI (n * 6 + w))), (0, .ref 40), (1, .int (nI n)), (2, .int (nI f))]) (st' := [.int (nI n), .ref 35, .ref 40]) (S' := stt (up2 (up2 (up2 (up2 σ 37 n ((nI w) + 1)) 38 (n * 6 + w) (nI f)) 39 (n * 6 + w) (-1)) 40 5 (σ 21 (t * 4 + f))) τ) (kc' := 0) (ks' := 0) rfl ⟨⟨rfl, ⟨rfl, rfl⟩⟩, trivial, trivial, rfl, rfl, trivial, trivial⟩ ?_
        refine R_iald ca_21_136 (j := n) rfl rfl (by omega) ?_
        refine R_seg sg_21_137 sk_21_137 (pc' := 139) (lv' := [(5, .int 0), (4, .int (nI (t * 4 + f))), (3, .int (nI (n * 6 + w))), (0, .ref 40), (1, .int (nI n)), (2, .int (nI f))]) (st' := [.int 0, .int (σ 35 n), .ref 40]) (S' := stt (up2 (up2 (up2 (up2 σ 37 n ((nI w) + 1)) 38 (n * 6 + w) (nI f)) 39 (n * 6 + w) (-1)) 40 5 (σ 21 (t * 4 + f))) τ) (kc' := 0) (ks' := 0) rfl ⟨trivial, trivial⟩ ?_
        refine R_if ck_21_139 (fun _ => ?_) (fun c => absurd (show (0 : Int32) = 0 from by decide) c)
        refine R_seg sg_21_155 sk_21_155 (pc' := 156) (lv' := [(5, .int 0), (4, .int (nI (t * 4 + f))), (3, .int (nI (n * 6 + w))), (0, .ref 40), (1, .int (nI n)), (2, .int (nI f))]) (st' := [.int 1, .int (σ 35 n), .ref 40]) (S' := stt (up2 (up2 (up2 (up2 σ 37 n ((nI w) + 1)) 38 (n * 6 + w) (nI f)) 39 (n * 6 + w) (-1)) 40 5 (σ 21 (t * 4 + f))) τ) (kc' := 0) (ks' := 0) rfl ⟨trivial, trivial⟩ ?_
        refine R_seg sg_21_156 sk_21_156 (pc' := 170) (lv' := [(5, .int 0), (4, .int (nI (t * 4 + f))), (3, .int (nI (n * 6 + w))), (0, .ref 40), (1, .int (nI n)), (2, .int (nI f))]) (st' := []) (S' := stt (up2 (up2 (up2 (up2 (up2 (up2 (up2 σ 37 n ((nI w) + 1)) 38 (n * 6 + w) (nI f)) 39 (n * 6 + w) (-1)) 40 5 (σ 21 (t * 4 + f))) 40 6 ((σ 35 n) * 1)) 40 7 (nI (n * 6 + w))) 40 4 0) τ) (kc' := 0) (ks' := 0) rfl ⟨trivial, ⟨rfl, ⟨rfl, rfl⟩⟩, trivial, trivial, ⟨rfl, ⟨rfl, rfl⟩⟩, trivial, trivial, ⟨rfl, ⟨rfl, rfl⟩⟩, trivial⟩ ?_
        refine R_seg sg_21_170 sk_21_170 (pc' := 171) (lv' := [(5, .int 0), (4, .int (nI (t * 4 + f))), (3, .int (nI (n * 6 + w))), (0, .ref 40), (1, .int (nI n)), (2, .int (nI f))]) (st' := [.int (-1)]) (S' := stt (up2 (up2 (up2 (up2 (up2 (up2 (up2 σ 37 n ((nI w) + 1)) 38 (n * 6 + w) (nI f)) 39 (n * 6 + w) (-1)) 40 5 (σ 21 (t * 4 + f))) 40 6 ((σ 35 n) * 1)) 40 7 (nI (n * 6 + w))) 40 4 0) τ) (kc' := 0) (ks' := 0) rfl ⟨trivial, trivial⟩ ?_
        refine R_iret ck_21_171 rfl rfl ?_
        first | exact hN (by omega) (by omega) | exact hL (by omega) (by omega) | exact hR (by omega) (by omega) (by omega)
      · have c_103 : kd = 2 := (nI_eq (a := kd) (b := 2) (by omega) (by omega)).mp (Classical.not_not.mp c_103)
        refine R_seg sg_21_106 sk_21_106 (pc' := 107) (lv' := [(4, .int (nI (t * 4 + f))), (3, .int (nI (n * 6 + w))), (0, .ref 40), (1, .int (nI n)), (2, .int (nI f))]) (st' := [.int 1]) (S' := stt (up2 (up2 (up2 σ 37 n ((nI w) + 1)) 38 (n * 6 + w) (nI f)) 39 (n * 6 + w) (-1)) τ) (kc' := 0) (ks' := 0) rfl ⟨trivial, trivial⟩ ?_
        refine R_goto ck_21_107 ?_
        refine R_seg sg_21_111 sk_21_111 (pc' := 123) (lv' := [(5, .int 1), (4, .int (nI (t * 4 + f))), (3, .int (nI (n * 6 + w))), (0, .ref 40), (1, .int (nI n)), (2, .int (nI f))]) (st' := [.int (nI (t * 4 + f)), .ref 21, .ref 40]) (S' := stt (up2 (up2 (up2 σ 37 n ((nI w) + 1)) 38 (n * 6 + w) (nI f)) 39 (n * 6 + w) (-1)) τ) (kc' := 0) (ks' := 0) rfl ⟨(by decide), trivial, trivial, rfl, rfl, trivial, trivial⟩ ?_
        refine R_iald ca_21_123 (j := t * 4 + f) rfl rfl (by omega) ?_
        refine R_seg sg_21_124 sk_21_124 (pc' := 136) (lv' := [(5, .int 1), (4, .int (nI (t * 4 + f))), (3, .int (nI (n * 6 + w))), (0, .ref 40), (1, .int (nI n)), (2, .int (nI f))]) (st' := [.int (nI n), .ref 35, .ref 40]) (S' := stt (up2 (up2 (up2 (up2 σ 37 n ((nI w) + 1)) 38 (n * 6 + w) (nI f)) 39 (n * 6 + w) (-1)) 40 5 (σ 21 (t * 4 + f))) τ) (kc' := 0) (ks' := 0) rfl ⟨⟨rfl, ⟨rfl, rfl⟩⟩, trivial, trivial, rfl, rfl, trivial, trivial⟩ ?_
        refine R_iald ca_21_136 (j := n) rfl rfl (by omega) ?_
        refine R_seg sg_21_137 sk_21_137 (pc' := 139) (lv' := [(5, .int 1), (4, .int (nI (t * 4 + f))), (3, .int (nI (n * 6 + w))), (0, .ref 40), (1, .int (nI n)), (2, .int (nI f))]) (st' := [.int 1, .int (σ 35 n), .ref 40]) (S' := stt (up2 (up2 (up2 (up2 σ 37 n ((nI w) + 1)) 38 (n * 6 + w) (nI f)) 39 (n * 6 + w) (-1)) 40 5 (σ 21 (t * 4 + f))) τ) (kc' := 0) (ks' := 0) rfl ⟨trivial, trivial⟩ ?_
        refine R_if ck_21_139 (fun c => absurd c (show ¬ (1 : Int32) = 0 from by decide)) (fun _ => ?_)
        refine R_seg sg_21_142 sk_21_142 (pc' := 151) (lv' := [(5, .int 1), (4, .int (nI (t * 4 + f))), (3, .int (nI (n * 6 + w))), (0, .ref 40), (1, .int (nI n)), (2, .int (nI f))]) (st' := [.int (nI (t * 4 + f)), .ref 22, .int (σ 35 n), .ref 40]) (S' := stt (up2 (up2 (up2 (up2 σ 37 n ((nI w) + 1)) 38 (n * 6 + w) (nI f)) 39 (n * 6 + w) (-1)) 40 5 (σ 21 (t * 4 + f))) τ) (kc' := 0) (ks' := 0) rfl ⟨trivial, rfl, rfl, trivial, trivial⟩ ?_
        refine R_iald ca_21_151 (j := t * 4 + f) rfl rfl (by omega) ?_
        refine R_goto ck_21_152 ?_
        refine R_seg sg_21_156 sk_21_156 (pc' := 170) (lv' := [(5, .int 1), (4, .int (nI (t * 4 + f))), (3, .int (nI (n * 6 + w))), (0, .ref 40), (1, .int (nI n)), (2, .int (nI f))]) (st' := []) (S' := stt (up2 (up2 (up2 (up2 (up2 (up2 (up2 σ 37 n ((nI w) + 1)) 38 (n * 6 + w) (nI f)) 39 (n * 6 + w) (-1)) 40 5 (σ 21 (t * 4 + f))) 40 6 ((σ 35 n) * (σ 22 (t * 4 + f)))) 40 7 (nI (n * 6 + w))) 40 4 0) τ) (kc' := 0) (ks' := 0) rfl ⟨trivial, ⟨rfl, ⟨rfl, rfl⟩⟩, trivial, trivial, ⟨rfl, ⟨rfl, rfl⟩⟩, trivial, trivial, ⟨rfl, ⟨rfl, rfl⟩⟩, trivial⟩ ?_
        refine R_seg sg_21_170 sk_21_170 (pc' := 171) (lv' := [(5, .int 1), (4, .int (nI (t * 4 + f))), (3, .int (nI (n * 6 + w))), (0, .ref 40), (1, .int (nI n)), (2, .int (nI f))]) (st' := [.int (-1)]) (S' := stt (up2 (up2 (up2 (up2 (up2 (up2 (up2 σ 37 n ((nI w) + 1)) 38 (n * 6 + w) (nI f)) 39 (n * 6 + w) (-1)) 40 5 (σ 21 (t * 4 + f))) 40 6 ((σ 35 n) * (σ 22 (t * 4 + f)))) 40 7 (nI (n * 6 + w))) 40 4 0) τ) (kc' := 0) (ks' := 0) rfl ⟨trivial, trivial⟩ ?_
        refine R_iret ck_21_171 rfl rfl ?_
        first | exact hN (by omega) (by omega) | exact hL (by omega) (by omega) | exact hR (by omega) (by omega) (by omega)
  · have c_11 : 6 ≤ w := Nat.not_lt.mp (fun q => c_11 ((nI_ltI (a := w) (b := 6) (by omega) (by omega)).mpr q))
    refine R_seg sg_21_14 sk_21_14 (pc' := 15) (lv' := [(0, .ref 40), (1, .int (nI n)), (2, .int (nI f))]) (st' := [.int 2]) (S' := stt σ τ) (kc' := 0) (ks' := 0) rfl ⟨trivial, trivial⟩ ?_
    refine R_iret ck_21_15 rfl rfl ?_
    exact hf (by omega)
