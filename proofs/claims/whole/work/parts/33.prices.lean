/-! ===== prices ===== -/
def cPr (σ : Nat → Nat → Int32) (i : Nat) : Int64 := (σ 18 (σ 33 i).toNatClampNeg).toInt64 * (σ 35 i).toInt64
def cSum (σ : Nat → Nat → Int32) : Nat → Int64
  | 0 => (0 : Int32).toInt64
  | i + 1 => cSum σ i + cPr σ i
def mPr (σ : Nat → Nat → Int32) (τ : Nat → Nat → Int64) (i : Nat) : Int64 := (σ 70 (σ 87 i).toNatClampNeg).toInt64 * τ 92 i
def mSum (σ : Nat → Nat → Int32) (τ : Nat → Nat → Int64) : Nat → Int64
  | 0 => (0 : Int32).toInt64
  | i + 1 => mSum σ τ i + mPr σ τ i
def dr (k i : Nat) : Int32 := if i ≤ k then -1 else nI k
set_option maxRecDepth 20000 in
theorem x_53 {d : Nat} {σ : Nat → Nat → Int32} {τ : Nat → Nat → Int64} {n t : Nat} (hn : n < 20) (ht : σ 33 n = nI t) (ht6 : t < 6) {Post : Option Value → Sto → Prop} (hp : Post (some (.long (cPr σ n))) (stt σ τ)) : Ex (d + 1) 53 [.ref 32, .int (nI n), .ref 16] (stt σ τ) 0 0 Post := by
  refine en_53 (Nat.le_of_ble_eq_true rfl) ?_
  show RU_53 d (0, 0) Post 0 ([(0, .ref 32), (1, .int (nI n)), (2, .ref 16)]) ([]) (stt σ τ) 0 0
  refine R_seg sg_53_0 sk_53_0 (pc' := 9) (lv' := [(0, .ref 32), (1, .int (nI n)), (2, .ref 16)]) (st' := [.int (nI n), .ref 33, .ref 18]) (S' := stt σ τ) (kc' := 0) (ks' := 0) rfl ⟨trivial, rfl, trivial, rfl, trivial, trivial⟩ ?_
  refine R_iald ca_53_9 (j := n) rfl rfl (by omega) ?_
  show RU_53 d (0, 0) Post 10 ([(0, .ref 32), (1, .int (nI n)), (2, .ref 16)]) ([.int (σ 33 n), .ref 18]) (stt σ τ) 0 0
  rw [ht]
  refine R_iald ca_53_10 (j := t) rfl rfl (by omega) ?_
  refine R_seg sg_53_11 sk_53_11 (pc' := 17) (lv' := [(0, .ref 32), (1, .int (nI n)), (2, .ref 16)]) (st' := [.int (nI n), .ref 35, .long ((σ 18 t).toInt64)]) (S' := stt σ τ) (kc' := 0) (ks' := 0) rfl ⟨trivial, trivial, rfl, trivial, trivial⟩ ?_
  refine R_iald ca_53_17 (j := n) rfl rfl (by omega) ?_
  refine R_seg sg_53_18 sk_53_18 (pc' := 20) (lv' := [(0, .ref 32), (1, .int (nI n)), (2, .ref 16)]) (st' := [.long (((σ 18 t).toInt64) * ((σ 35 n).toInt64))]) (S' := stt σ τ) (kc' := 0) (ks' := 0) rfl ⟨trivial, trivial, trivial⟩ ?_
  refine R_lret ck_53_20 rfl ?_
  have key := hp
  unfold cPr at key
  rw [ht, nI_clamp (by omega)] at key
  exact key
set_option maxRecDepth 20000 in
theorem l_52 {d : Nat} {σ : Nat → Nat → Int32} {τ : Nat → Nat → Int64} {nd : Nat} (hnd : σ 32 7 = nI nd) (hnd2 : nd ≤ 20) (hty : ∀ i, i < nd → ∃ t : Nat, σ 33 i = nI t ∧ t < 6) {Post : Option Value → Sto → Prop} (hp : Post (some (.int (if (2000000000 : Int32).toInt64 < cSum σ nd then (2000000000 : Int32).toInt64 else cSum σ nd).toInt32)) (stt σ τ)) : ∀ (n : Nat) (i : Nat), i ≤ nd → nd - i < n → RU_52 (d + 1) (0, 0) Post 5 [(4, .int (nI i)), (2, .long (cSum σ i)), (0, .ref 32), (1, .ref 16)] [] (stt σ τ) 0 0 := by
  intro n
  induction n with
  | zero => intro i h1 h2; exact absurd h2 (by omega)
  | succ n ih =>
    intro i h1 h2
    refine R_seg sg_52_5 sk_52_5 (pc' := 11) (lv' := [(4, .int (nI i)), (2, .long (cSum σ i)), (0, .ref 32), (1, .ref 16)]) (st' := [.int (σ 32 7), .int (nI i)]) (S' := stt σ τ) (kc' := 0) (ks' := 0) rfl ⟨trivial, trivial, rfl, trivial⟩ ?_
    rw [hnd]
    refine R_icmp ck_52_11 (fun (c_11 : (nI nd) ≤ (nI i)) => ?_) (fun (c_11 : ¬ (nI nd) ≤ (nI i)) => ?_)
    · have c_11 : nd ≤ i := (nI_leI (a := nd) (b := i) (by omega) (by omega)).mp c_11
      refine R_seg sg_52_30 sk_52_30 (pc' := 38) (lv' := [(4, .int (nI i)), (2, .long (cSum σ i)), (0, .ref 32), (1, .ref 16)]) (st' := [.int ((if (2000000000 : Int32).toInt64 < cSum σ i then (2000000000 : Int32).toInt64 else cSum σ i).toInt32)]) (S' := stt σ τ) (kc' := 0) (ks' := 0) rfl ⟨trivial, trivial, (Nat.le_of_ble_eq_true rfl), trivial, trivial⟩ ?_
      refine R_iret ck_52_38 rfl rfl ?_
      have e : i = nd := by omega
      subst e
      exact hp
    · have c_11 : i < nd := Nat.not_le.mp (fun zq => c_11 ((nI_leI (a := nd) (b := i) (by omega) (by omega)).mpr zq))
      refine R_seg sg_52_14 sk_52_14 (pc' := 19) (lv' := [(4, .int (nI i)), (2, .long (cSum σ i)), (0, .ref 32), (1, .ref 16)]) (st' := [.ref 16, .int (nI i), .ref 32, .long (cSum σ i)]) (S' := stt σ τ) (kc' := 0) (ks' := 0) rfl ⟨trivial, trivial, trivial, trivial, trivial⟩ ?_
      refine R_virt ck_52_19 32 [.int (nI i), .ref 16] 0 0 (r := [.long (cSum σ i)]) rfl rfl rfl (Nat.le_of_ble_eq_true rfl) (Nat.le_refl _) (Nat.le_refl _) ?_
      obtain ⟨t, ht, ht6⟩ := hty i (by omega)
      refine x_53 (d := d) (by omega) ht ht6 ?_
      show RU_52 (d + 1) (0, 0) Post 22 ([(4, .int (nI i)), (2, .long (cSum σ i)), (0, .ref 32), (1, .ref 16)]) ([.long (cPr σ i), .long (cSum σ i)]) (stt σ τ) 0 0
      refine R_seg sg_52_22 sk_52_22 (pc' := 27) (lv' := [(4, .int ((nI i) + 1)), (2, .long ((cSum σ i) + (cPr σ i))), (0, .ref 32), (1, .ref 16)]) (st' := []) (S' := stt σ τ) (kc' := 0) (ks' := 0) rfl ⟨trivial, (by decide), (by decide), trivial⟩ ?_
      refine R_goto ck_52_27 ?_
      rw [nI_1]
      exact ih (i + 1) (by omega) (by omega)
set_option maxRecDepth 20000 in
theorem x_52 {d : Nat} {σ : Nat → Nat → Int32} {τ : Nat → Nat → Int64} {nd : Nat} (hnd : σ 32 7 = nI nd) (hnd2 : nd ≤ 20) (hty : ∀ i, i < nd → ∃ t : Nat, σ 33 i = nI t ∧ t < 6) {Post : Option Value → Sto → Prop} (hp : Post (some (.int (if (2000000000 : Int32).toInt64 < cSum σ nd then (2000000000 : Int32).toInt64 else cSum σ nd).toInt32)) (stt σ τ)) : Ex (d + 2) 52 [.ref 32, .ref 16] (stt σ τ) 0 0 Post := by
  refine en_52 (Nat.le_of_ble_eq_true rfl) ?_
  show RU_52 (d + 1) (0, 0) Post 0 ([(0, .ref 32), (1, .ref 16)]) ([]) (stt σ τ) 0 0
  refine R_seg sg_52_0 sk_52_0 (pc' := 5) (lv' := [(4, .int 0), (2, .long ((0 : Int32).toInt64)), (0, .ref 32), (1, .ref 16)]) (st' := []) (S' := stt σ τ) (kc' := 0) (ks' := 0) rfl ⟨trivial, (by decide), trivial, (by decide), trivial⟩ ?_
  exact l_52 hnd hnd2 hty hp (nd + 1) 0 (by omega) (by omega)
set_option maxRecDepth 20000 in
theorem l_54 {d : Nat} {σ : Nat → Nat → Int32} {τ : Nat → Nat → Int64} {nd k : Nat} {x : Int32} (hnd : σ 32 7 = nI nd) (hnd2 : nd ≤ 20) (hty : ∀ i, i < nd → ∃ t : Nat, σ 33 i = nI t ∧ t < 6) (hk : k < nd) (hgt : ¬ lg_cmp (cSum σ (k + 1)) x.toInt64 ≤ 0) (hle : ∀ j, j < k → lg_cmp (cSum σ (j + 1)) x.toInt64 ≤ 0) {Post : Option Value → Sto → Prop} (hp : Post (some (.int (σ 34 k))) (stt σ τ)) : ∀ (n : Nat) (i : Nat), i ≤ k → nd - i < n → RU_54 (d + 1) (0, 0) Post 5 [(5, .int (nI i)), (3, .long (cSum σ i)), (0, .ref 32), (1, .int x), (2, .ref 16)] [] (stt σ τ) 0 0 := by
  intro n
  induction n with
  | zero => intro i h1 h2; exact absurd h2 (by omega)
  | succ n ih =>
    intro i h1 h2
    refine R_seg sg_54_5 sk_54_5 (pc' := 11) (lv' := [(5, .int (nI i)), (3, .long (cSum σ i)), (0, .ref 32), (1, .int x), (2, .ref 16)]) (st' := [.int (σ 32 7), .int (nI i)]) (S' := stt σ τ) (kc' := 0) (ks' := 0) rfl ⟨trivial, trivial, rfl, trivial⟩ ?_
    rw [hnd]
    refine R_icmp ck_54_11 (fun (c_11 : (nI nd) ≤ (nI i)) => ?_) (fun (c_11 : ¬ (nI nd) ≤ (nI i)) => ?_)
    · have c_11 : nd ≤ i := (nI_leI (a := nd) (b := i) (by omega) (by omega)).mp c_11
      omega
    · have c_11 : i < nd := Nat.not_le.mp (fun zq => c_11 ((nI_leI (a := nd) (b := i) (by omega) (by omega)).mpr zq))
      refine R_seg sg_54_14 sk_54_14 (pc' := 19) (lv' := [(5, .int (nI i)), (3, .long (cSum σ i)), (0, .ref 32), (1, .int x), (2, .ref 16)]) (st' := [.ref 16, .int (nI i), .ref 32, .long (cSum σ i)]) (S' := stt σ τ) (kc' := 0) (ks' := 0) rfl ⟨trivial, trivial, trivial, trivial, trivial⟩ ?_
      refine R_virt ck_54_19 32 [.int (nI i), .ref 16] 0 0 (r := [.long (cSum σ i)]) rfl rfl rfl (Nat.le_of_ble_eq_true rfl) (Nat.le_refl _) (Nat.le_refl _) ?_
      obtain ⟨t, ht, ht6⟩ := hty i (by omega)
      refine x_53 (d := d) (by omega) ht ht6 ?_
      show RU_54 (d + 1) (0, 0) Post 22 ([(5, .int (nI i)), (3, .long (cSum σ i)), (0, .ref 32), (1, .int x), (2, .ref 16)]) ([.long (cPr σ i), .long (cSum σ i)]) (stt σ τ) 0 0
      refine R_seg sg_54_22 sk_54_22 (pc' := 28) (lv' := [(3, .long ((cSum σ i) + (cPr σ i))), (5, .int (nI i)), (0, .ref 32), (1, .int x), (2, .ref 16)]) (st' := [.int (lg_cmp ((cSum σ i) + (cPr σ i)) x.toInt64)]) (S' := stt σ τ) (kc' := 0) (ks' := 0) rfl ⟨trivial, (by decide), trivial, trivial, trivial, trivial, trivial⟩ ?_
      refine R_if ck_54_28 (fun (c_28 : (lg_cmp ((cSum σ i) + (cPr σ i)) x.toInt64) ≤ 0) => ?_) (fun (c_28 : ¬ (lg_cmp ((cSum σ i) + (cPr σ i)) x.toInt64) ≤ 0) => ?_)
      · refine R_seg sg_54_39 sk_54_39 (pc' := 42) (lv' := [(5, .int ((nI i) + 1)), (3, .long ((cSum σ i) + (cPr σ i))), (0, .ref 32), (1, .int x), (2, .ref 16)]) (st' := []) (S' := stt σ τ) (kc' := 0) (ks' := 0) rfl ⟨(by decide), trivial⟩ ?_
        refine R_goto ck_54_42 ?_
        rw [nI_1]
        exact ih (i + 1) (by rcases Nat.lt_or_ge i k with z | z; exact z; exact absurd (show lg_cmp (cSum σ (k + 1)) x.toInt64 ≤ 0 from (show i = k by omega) ▸ c_28) hgt) (by omega)
      · refine R_seg sg_54_31 sk_54_31 (pc' := 37) (lv' := [(3, .long ((cSum σ i) + (cPr σ i))), (5, .int (nI i)), (0, .ref 32), (1, .int x), (2, .ref 16)]) (st' := [.int (nI i), .ref 34]) (S' := stt σ τ) (kc' := 0) (ks' := 0) rfl ⟨trivial, rfl, trivial, trivial⟩ ?_
        refine R_iald ca_54_37 (j := i) rfl rfl (by omega) ?_
        refine R_iret ck_54_38 rfl rfl ?_
        have e : i = k := by
          rcases Nat.lt_or_ge i k with z | z
          · exact absurd (hle i z) c_28
          · omega
        subst e
        exact hp
set_option maxRecDepth 20000 in
theorem x_54 {d : Nat} {σ : Nat → Nat → Int32} {τ : Nat → Nat → Int64} {nd k : Nat} {x : Int32} (hnd : σ 32 7 = nI nd) (hnd2 : nd ≤ 20) (hty : ∀ i, i < nd → ∃ t : Nat, σ 33 i = nI t ∧ t < 6) (hk : k < nd) (hgt : ¬ lg_cmp (cSum σ (k + 1)) x.toInt64 ≤ 0) (hle : ∀ j, j < k → lg_cmp (cSum σ (j + 1)) x.toInt64 ≤ 0) {Post : Option Value → Sto → Prop} (hp : Post (some (.int (σ 34 k))) (stt σ τ)) : Ex (d + 2) 54 [.ref 32, .int x, .ref 16] (stt σ τ) 0 0 Post := by
  refine en_54 (Nat.le_of_ble_eq_true rfl) ?_
  show RU_54 (d + 1) (0, 0) Post 0 ([(0, .ref 32), (1, .int x), (2, .ref 16)]) ([]) (stt σ τ) 0 0
  refine R_seg sg_54_0 sk_54_0 (pc' := 5) (lv' := [(5, .int 0), (3, .long ((0 : Int32).toInt64)), (0, .ref 32), (1, .int x), (2, .ref 16)]) (st' := []) (S' := stt σ τ) (kc' := 0) (ks' := 0) rfl ⟨trivial, (by decide), trivial, (by decide), trivial⟩ ?_
  exact l_54 hnd hnd2 hty hk hgt hle hp (nd + 1) 0 (by omega) (by omega)
theorem dr_le {k i : Nat} (h : i ≤ k) : dr k i = -1 := if_pos h
theorem dr_gt {k i : Nat} (h : k < i) : dr k i = nI k := if_neg (by omega)
set_option maxRecDepth 20000 in
theorem l_101 {d : Nat} {σ : Nat → Nat → Int32} {τ : Nat → Nat → Int64} {nd k : Nat} {hs : Int64} (hnd : σ 57 35 = nI nd) (hnd2 : nd ≤ 20) (hty : ∀ i, i < nd → ∃ t : Nat, σ 87 i = nI t ∧ t < 6) (hk2 : k ≤ 20) (hgt : k < nd → ¬ lg_cmp (mSum σ τ (k + 1)) hs ≤ 0) (hle : ∀ j, j < k → lg_cmp (mSum σ τ (j + 1)) hs ≤ 0) {Post : Option Value → Sto → Prop} (hp : Post (some (.int (dr k nd))) (stt σ (up2 τ 57 43 (mSum σ τ nd)))) : ∀ (n : Nat) (i : Nat), i ≤ nd → nd - i < n → RU_101 d (0, 0) Post 10 [(4, .int (nI i)), (3, .int (dr k i)), (0, .ref 57), (1, .long hs)] [] (stt σ (up2 τ 57 43 (mSum σ τ i))) 0 0 := by
  intro n
  induction n with
  | zero => intro i h1 h2; exact absurd h2 (by omega)
  | succ n ih =>
    intro i h1 h2
    refine R_seg sg_101_10 sk_101_10 (pc' := 16) (lv' := [(4, .int (nI i)), (3, .int (dr k i)), (0, .ref 57), (1, .long hs)]) (st' := [.int (σ 57 35), .int (nI i)]) (S' := stt σ (up2 τ 57 43 (mSum σ τ i))) (kc' := 0) (ks' := 0) rfl ⟨trivial, trivial, rfl, trivial⟩ ?_
    rw [hnd]
    refine R_icmp ck_101_16 (fun (c_16 : (nI nd) ≤ (nI i)) => ?_) (fun (c_16 : ¬ (nI nd) ≤ (nI i)) => ?_)
    · have c_16 : nd ≤ i := (nI_leI (a := nd) (b := i) (by omega) (by omega)).mp c_16
      refine R_seg sg_101_76 sk_101_76 (pc' := 77) (lv' := [(4, .int (nI i)), (3, .int (dr k i)), (0, .ref 57), (1, .long hs)]) (st' := [.int (dr k i)]) (S' := stt σ (up2 τ 57 43 (mSum σ τ i))) (kc' := 0) (ks' := 0) rfl ⟨trivial, trivial⟩ ?_
      refine R_iret ck_101_77 rfl rfl ?_
      have e : i = nd := by omega
      subst e
      exact hp
    · have c_16 : i < nd := Nat.not_le.mp (fun zq => c_16 ((nI_leI (a := nd) (b := i) (by omega) (by omega)).mpr zq))
      obtain ⟨t, ht, ht6⟩ := hty i (by omega)
      refine R_seg sg_101_19 sk_101_19 (pc' := 34) (lv' := [(4, .int (nI i)), (3, .int (dr k i)), (0, .ref 57), (1, .long hs)]) (st' := [.int (nI i), .ref 87, .ref 70, .long (mSum σ τ i), .ref 57]) (S' := stt σ (up2 τ 57 43 (mSum σ τ i))) (kc' := 0) (ks' := 0) rfl ⟨trivial, rfl, rfl, trivial, rfl, trivial, rfl, trivial, trivial⟩ ?_
      refine R_iald ca_101_34 (j := i) rfl rfl (by omega) ?_
      show RU_101 d (0, 0) Post 35 ([(4, .int (nI i)), (3, .int (dr k i)), (0, .ref 57), (1, .long hs)]) ([.int (σ 87 i), .ref 70, .long (mSum σ τ i), .ref 57]) (stt σ (up2 τ 57 43 (mSum σ τ i))) 0 0
      rw [ht]
      refine R_iald ca_101_35 (j := t) rfl rfl (by omega) ?_
      refine R_seg sg_101_36 sk_101_36 (pc' := 43) (lv' := [(4, .int (nI i)), (3, .int (dr k i)), (0, .ref 57), (1, .long hs)]) (st' := [.int (nI i), .ref 92, .long ((σ 70 t).toInt64), .long (mSum σ τ i), .ref 57]) (S' := stt σ (up2 τ 57 43 (mSum σ τ i))) (kc' := 0) (ks' := 0) rfl ⟨trivial, trivial, rfl, trivial, trivial⟩ ?_
      refine R_lald ca_101_43 (j := i) rfl rfl (by omega) ?_
      refine R_seg sg_101_44 sk_101_44 (pc' := 51) (lv' := [(4, .int (nI i)), (3, .int (dr k i)), (0, .ref 57), (1, .long hs)]) (st' := [.int (-1), .int (dr k i)]) (S' := stt σ (up2 (up2 τ 57 43 (mSum σ τ i)) 57 43 ((mSum σ τ i) + (((σ 70 t).toInt64) * (τ 92 i))))) (kc' := 0) (ks' := 0) rfl ⟨trivial, trivial, rfl, trivial, trivial, trivial⟩ ?_
      refine R_icmp ck_101_51 (fun (c_51 : ¬ (dr k i) = (-1)) => ?_) (fun (c_51 : ¬ ¬ (dr k i) = (-1)) => ?_)
      · refine R_seg sg_101_68 sk_101_68 (pc' := 69) (lv' := [(4, .int (nI i)), (3, .int (dr k i)), (0, .ref 57), (1, .long hs)]) (st' := [.int (dr k i)]) (S' := stt σ (up2 (up2 τ 57 43 (mSum σ τ i)) 57 43 ((mSum σ τ i) + (((σ 70 t).toInt64) * (τ 92 i))))) (kc' := 0) (ks' := 0) rfl ⟨trivial, trivial⟩ ?_
        refine R_seg sg_101_69 sk_101_69 (pc' := 73) (lv' := [(4, .int ((nI i) + 1)), (3, .int (dr k i)), (0, .ref 57), (1, .long hs)]) (st' := []) (S' := stt σ (up2 (up2 τ 57 43 (mSum σ τ i)) 57 43 ((mSum σ τ i) + (((σ 70 t).toInt64) * (τ 92 i))))) (kc' := 0) (ks' := 0) rfl ⟨(by decide), (by decide), trivial⟩ ?_
        refine R_goto ck_101_73 ?_
        have et : ((σ 70 t).toInt64 * τ 92 i) = mPr σ τ i := by unfold mPr; rw [ht, nI_clamp (by omega)]
        try rw [et] at c_60
        have e : dr k i = dr k (i + 1) := by
          rcases Nat.lt_trichotomy i k with z | z | z
          · first | (rw [dr_le (by omega), dr_le (by omega)]; done) | exact absurd (hle i z) c_60
          · subst z
            first | exact (dr_gt (by omega)).symm | exact absurd c_60 (hgt (by omega)) | exact absurd (dr_le (Nat.le_refl _)) c_51
          · first | (rw [dr_gt (by omega), dr_gt (by omega)]; done) | exact absurd ((dr_gt z).symm.trans (Classical.not_not.mp c_51)) (nI_m1 (by omega))
        rw [et, nI_1, e, up2_up2]
        exact ih (i + 1) (by omega) (by omega)
      · refine R_seg sg_101_54 sk_101_54 (pc' := 60) (lv' := [(4, .int (nI i)), (3, .int (dr k i)), (0, .ref 57), (1, .long hs)]) (st' := [.int (lg_cmp ((mSum σ τ i) + (((σ 70 t).toInt64) * (τ 92 i))) hs)]) (S' := stt σ (up2 (up2 τ 57 43 (mSum σ τ i)) 57 43 ((mSum σ τ i) + (((σ 70 t).toInt64) * (τ 92 i))))) (kc' := 0) (ks' := 0) rfl ⟨trivial, rfl, trivial, trivial, trivial⟩ ?_
        refine R_if ck_101_60 (fun (c_60 : (lg_cmp ((mSum σ τ i) + (((σ 70 t).toInt64) * (τ 92 i))) hs) ≤ 0) => ?_) (fun (c_60 : ¬ (lg_cmp ((mSum σ τ i) + (((σ 70 t).toInt64) * (τ 92 i))) hs) ≤ 0) => ?_)
        · refine R_seg sg_101_68 sk_101_68 (pc' := 69) (lv' := [(4, .int (nI i)), (3, .int (dr k i)), (0, .ref 57), (1, .long hs)]) (st' := [.int (dr k i)]) (S' := stt σ (up2 (up2 τ 57 43 (mSum σ τ i)) 57 43 ((mSum σ τ i) + (((σ 70 t).toInt64) * (τ 92 i))))) (kc' := 0) (ks' := 0) rfl ⟨trivial, trivial⟩ ?_
          refine R_seg sg_101_69 sk_101_69 (pc' := 73) (lv' := [(4, .int ((nI i) + 1)), (3, .int (dr k i)), (0, .ref 57), (1, .long hs)]) (st' := []) (S' := stt σ (up2 (up2 τ 57 43 (mSum σ τ i)) 57 43 ((mSum σ τ i) + (((σ 70 t).toInt64) * (τ 92 i))))) (kc' := 0) (ks' := 0) rfl ⟨(by decide), (by decide), trivial⟩ ?_
          refine R_goto ck_101_73 ?_
          have et : ((σ 70 t).toInt64 * τ 92 i) = mPr σ τ i := by unfold mPr; rw [ht, nI_clamp (by omega)]
          try rw [et] at c_60
          have e : dr k i = dr k (i + 1) := by
            rcases Nat.lt_trichotomy i k with z | z | z
            · first | (rw [dr_le (by omega), dr_le (by omega)]; done) | exact absurd (hle i z) c_60
            · subst z
              first | exact (dr_gt (by omega)).symm | exact absurd c_60 (hgt (by omega)) | exact absurd (dr_le (Nat.le_refl _)) c_51
            · first | (rw [dr_gt (by omega), dr_gt (by omega)]; done) | exact absurd ((dr_gt z).symm.trans (Classical.not_not.mp c_51)) (nI_m1 (by omega))
          rw [et, nI_1, e, up2_up2]
          exact ih (i + 1) (by omega) (by omega)
        · refine R_seg sg_101_63 sk_101_63 (pc' := 65) (lv' := [(4, .int (nI i)), (3, .int (dr k i)), (0, .ref 57), (1, .long hs)]) (st' := [.int (nI i)]) (S' := stt σ (up2 (up2 τ 57 43 (mSum σ τ i)) 57 43 ((mSum σ τ i) + (((σ 70 t).toInt64) * (τ 92 i))))) (kc' := 0) (ks' := 0) rfl ⟨trivial, trivial⟩ ?_
          refine R_goto ck_101_65 ?_
          refine R_seg sg_101_69 sk_101_69 (pc' := 73) (lv' := [(4, .int ((nI i) + 1)), (3, .int (nI i)), (0, .ref 57), (1, .long hs)]) (st' := []) (S' := stt σ (up2 (up2 τ 57 43 (mSum σ τ i)) 57 43 ((mSum σ τ i) + (((σ 70 t).toInt64) * (τ 92 i))))) (kc' := 0) (ks' := 0) rfl ⟨(by decide), (by decide), trivial⟩ ?_
          refine R_goto ck_101_73 ?_
          have et : ((σ 70 t).toInt64 * τ 92 i) = mPr σ τ i := by unfold mPr; rw [ht, nI_clamp (by omega)]
          try rw [et] at c_60
          have e : nI i = dr k (i + 1) := by
            rcases Nat.lt_trichotomy i k with z | z | z
            · first | (rw [dr_le (by omega), dr_le (by omega)]; done) | exact absurd (hle i z) c_60
            · subst z
              first | exact (dr_gt (by omega)).symm | exact absurd c_60 (hgt (by omega)) | exact absurd (dr_le (Nat.le_refl _)) c_51
            · first | (rw [dr_gt (by omega), dr_gt (by omega)]; done) | exact absurd ((dr_gt z).symm.trans (Classical.not_not.mp c_51)) (nI_m1 (by omega))
          rw [et, nI_1, e, up2_up2]
          exact ih (i + 1) (by omega) (by omega)
set_option maxRecDepth 20000 in
theorem x_101 {d : Nat} {σ : Nat → Nat → Int32} {τ : Nat → Nat → Int64} {nd k : Nat} {hs : Int64} (hnd : σ 57 35 = nI nd) (hnd2 : nd ≤ 20) (hty : ∀ i, i < nd → ∃ t : Nat, σ 87 i = nI t ∧ t < 6) (hk2 : k ≤ 20) (hgt : k < nd → ¬ lg_cmp (mSum σ τ (k + 1)) hs ≤ 0) (hle : ∀ j, j < k → lg_cmp (mSum σ τ (j + 1)) hs ≤ 0) {Post : Option Value → Sto → Prop} (hp : Post (some (.int (dr k nd))) (stt σ (up2 τ 57 43 (mSum σ τ nd)))) : Ex (d + 1) 101 [.ref 57, .long hs] (stt σ τ) 0 0 Post := by
  refine en_101 (Nat.le_of_ble_eq_true rfl) ?_
  show RU_101 d (0, 0) Post 0 ([(0, .ref 57), (1, .long hs)]) ([]) (stt σ τ) 0 0
  refine R_seg sg_101_0 sk_101_0 (pc' := 10) (lv' := [(4, .int 0), (3, .int (-1)), (0, .ref 57), (1, .long hs)]) (st' := []) (S' := stt σ (up2 τ 57 43 ((0 : Int32).toInt64))) (kc' := 0) (ks' := 0) rfl ⟨trivial, (by decide), trivial, trivial, rfl, trivial, (by decide), trivial⟩ ?_
  have key := l_101 (d := d) hnd hnd2 hty hk2 hgt hle hp (nd + 1) 0 (by omega) (by omega)
  rw [dr_le (Nat.zero_le _)] at key
  exact key
