/-! ===== more loops of the round ===== -/
set_option maxRecDepth 20000 in
theorem l_110b {d : Nat} {σ : Nat → Nat → Int32} {τ : Nat → Nat → Int64} {h t : Int32} {n : Nat} (hn : σ 57 10 = nI n) (hn2 : n ≤ 20) {Post : Option Value → Sto → Prop} (hp : Post (some (.int 1)) (stt σ τ)) : ∀ (nn : Nat) (i : Nat), i ≤ n → n - i < nn → RU_110 (d + 1) (0, 0) Post 5 [(4, .int (nI i)), (3, .int 1), (0, .ref 57), (1, .int h), (2, .int t)] [] (stt σ τ) 0 0 := by
  intro nn
  induction nn with
  | zero => intro i h1 h2; exact absurd h2 (by omega)
  | succ nn ih =>
    intro i h1 h2
    refine R_seg sg_110_5 sk_110_5 (pc' := 11) (lv' := [(4, .int (nI i)), (3, .int 1), (0, .ref 57), (1, .int h), (2, .int t)]) (st' := [.int (σ 57 10), .int (nI i)]) (S' := stt σ τ) (kc' := 0) (ks' := 0) rfl ⟨trivial, trivial, rfl, trivial⟩ ?_
    rw [hn]
    refine R_icmp ck_110_11 (fun (c_11 : (nI n) ≤ (nI i)) => ?_) (fun (c_11 : ¬ (nI n) ≤ (nI i)) => ?_)
    · have c_11 : n ≤ i := (nI_leI (a := n) (b := i) (by omega) (by omega)).mp c_11
      refine R_seg sg_110_62 sk_110_62 (pc' := 63) (lv' := [(4, .int (nI i)), (3, .int 1), (0, .ref 57), (1, .int h), (2, .int t)]) (st' := [.int 1]) (S' := stt σ τ) (kc' := 0) (ks' := 0) rfl ⟨trivial, trivial⟩ ?_
      refine R_iret ck_110_63 rfl rfl ?_
      exact hp
    · have c_11 : i < n := Nat.not_le.mp (fun zq => c_11 ((nI_leI (a := n) (b := i) (by omega) (by omega)).mpr zq))
      refine R_seg sg_110_14 sk_110_14 (pc' := 15) (lv' := [(4, .int (nI i)), (3, .int 1), (0, .ref 57), (1, .int h), (2, .int t)]) (st' := [.int 1]) (S' := stt σ τ) (kc' := 0) (ks' := 0) rfl ⟨trivial, trivial⟩ ?_
      refine R_if ck_110_15 (fun _ => ?_) (fun c => absurd (show ¬ (1 : Int32) = 0 from by decide) c)
      refine R_seg sg_110_50 sk_110_50 (pc' := 51) (lv' := [(4, .int (nI i)), (3, .int 1), (0, .ref 57), (1, .int h), (2, .int t)]) (st' := [.int 1]) (S' := stt σ τ) (kc' := 0) (ks' := 0) rfl ⟨trivial, trivial⟩ ?_
      refine R_goto ck_110_51 ?_
      refine R_seg sg_110_55 sk_110_55 (pc' := 59) (lv' := [(4, .int ((nI i) + 1)), (3, .int 1), (0, .ref 57), (1, .int h), (2, .int t)]) (st' := []) (S' := stt σ τ) (kc' := 0) (ks' := 0) rfl ⟨(by decide), (by decide), trivial⟩ ?_
      refine R_goto ck_110_59 ?_
      rw [nI_1]
      exact ih (i + 1) (by omega) (by omega)
set_option maxRecDepth 20000 in
theorem l_110 {d : Nat} {σ : Nat → Nat → Int32} {τ : Nat → Nat → Int64} {h t : Int32} {n : Nat} (hn : σ 57 10 = nI n) (hn2 : n ≤ 20) {Post : Option Value → Sto → Prop} (hy : ∀ j, j < n → mDn σ h t j → Post (some (.int 1)) (stt σ τ)) (hx : (∀ j, j < n → ¬ mDn σ h t j) → Post (some (.int 0)) (stt σ τ)) : ∀ (nn : Nat) (i : Nat), i ≤ n → n - i < nn → (∀ j, j < i → ¬ mDn σ h t j) → RU_110 (d + 1) (0, 0) Post 5 [(4, .int (nI i)), (3, .int 0), (0, .ref 57), (1, .int h), (2, .int t)] [] (stt σ τ) 0 0 := by
  intro nn
  induction nn with
  | zero => intro i h1 h2 hno; exact absurd h2 (by omega)
  | succ nn ih =>
    intro i h1 h2 hno
    refine R_seg sg_110_5 sk_110_5 (pc' := 11) (lv' := [(4, .int (nI i)), (3, .int 0), (0, .ref 57), (1, .int h), (2, .int t)]) (st' := [.int (σ 57 10), .int (nI i)]) (S' := stt σ τ) (kc' := 0) (ks' := 0) rfl ⟨trivial, trivial, rfl, trivial⟩ ?_
    rw [hn]
    refine R_icmp ck_110_11 (fun (c_11 : (nI n) ≤ (nI i)) => ?_) (fun (c_11 : ¬ (nI n) ≤ (nI i)) => ?_)
    · have c_11 : n ≤ i := (nI_leI (a := n) (b := i) (by omega) (by omega)).mp c_11
      refine R_seg sg_110_62 sk_110_62 (pc' := 63) (lv' := [(4, .int (nI i)), (3, .int 0), (0, .ref 57), (1, .int h), (2, .int t)]) (st' := [.int 0]) (S' := stt σ τ) (kc' := 0) (ks' := 0) rfl ⟨trivial, trivial⟩ ?_
      refine R_iret ck_110_63 rfl rfl ?_
      exact hx (fun j hj => hno j (by omega))
    · have c_11 : i < n := Nat.not_le.mp (fun zq => c_11 ((nI_leI (a := n) (b := i) (by omega) (by omega)).mpr zq))
      refine R_seg sg_110_14 sk_110_14 (pc' := 15) (lv' := [(4, .int (nI i)), (3, .int 0), (0, .ref 57), (1, .int h), (2, .int t)]) (st' := [.int 0]) (S' := stt σ τ) (kc' := 0) (ks' := 0) rfl ⟨trivial, trivial⟩ ?_
      refine R_if ck_110_15 (fun c => absurd c (show ¬ ¬ (0 : Int32) = 0 from by decide)) (fun _ => ?_)
      refine R_seg sg_110_18 sk_110_18 (pc' := 24) (lv' := [(4, .int (nI i)), (3, .int 0), (0, .ref 57), (1, .int h), (2, .int t)]) (st' := [.int (nI i), .ref 66]) (S' := stt σ τ) (kc' := 0) (ks' := 0) rfl ⟨trivial, rfl, trivial, trivial⟩ ?_
      refine R_iald ca_110_24 (j := i) rfl rfl (by omega) ?_
      refine R_seg sg_110_25 sk_110_25 (pc' := 26) (lv' := [(4, .int (nI i)), (3, .int 0), (0, .ref 57), (1, .int h), (2, .int t)]) (st' := [.int h, .int (σ 66 i)]) (S' := stt σ τ) (kc' := 0) (ks' := 0) rfl ⟨trivial, trivial⟩ ?_
      refine R_icmp ck_110_26 (fun (c_26 : ¬ (σ 66 i) = h) => ?_) (fun (c_26 : ¬ ¬ (σ 66 i) = h) => ?_)
      · refine R_seg sg_110_54 sk_110_54 (pc' := 55) (lv' := [(4, .int (nI i)), (3, .int 0), (0, .ref 57), (1, .int h), (2, .int t)]) (st' := [.int 0]) (S' := stt σ τ) (kc' := 0) (ks' := 0) rfl ⟨trivial, trivial⟩ ?_
        refine R_seg sg_110_55 sk_110_55 (pc' := 59) (lv' := [(4, .int ((nI i) + 1)), (3, .int 0), (0, .ref 57), (1, .int h), (2, .int t)]) (st' := []) (S' := stt σ τ) (kc' := 0) (ks' := 0) rfl ⟨(by decide), (by decide), trivial⟩ ?_
        refine R_goto ck_110_59 ?_
        rw [nI_1]
        exact ih (i + 1) (by omega) (by omega) (by intro j hj; rcases Nat.lt_or_ge j i with z | z; exact hno j z; rw [show j = i by omega]; intro zq; first | exact c_26 zq.1 | (rcases a_n with z2 | z2; exact zq.2.1 z2; exact zq.2.2 z2))
      · refine R_seg sg_110_29 sk_110_29 (pc' := 36) (lv' := [(4, .int (nI i)), (3, .int 0), (0, .ref 57), (1, .int h), (2, .int t)]) (st' := [.int (nI i), .ref 67, .int t]) (S' := stt σ τ) (kc' := 0) (ks' := 0) rfl ⟨trivial, trivial, rfl, trivial, trivial⟩ ?_
        refine R_iald ca_110_36 (j := i) rfl rfl (by omega) ?_
        refine R_seg sg_110_37 sk_110_37 (pc' := 43) (lv' := [(4, .int (nI i)), (3, .int 0), (0, .ref 57), (1, .int h), (2, .int t)]) (st' := [.int (nI i), .ref 68, .int (σ 67 i), .int t]) (S' := stt σ τ) (kc' := 0) (ks' := 0) rfl ⟨trivial, rfl, trivial, trivial⟩ ?_
        refine R_iald ca_110_43 (j := i) rfl rfl (by omega) ?_
        refine R_stat ck_110_44 (by decide) [.int t, .int (σ 67 i), .int (σ 68 i)] 0 0 (r := []) rfl rfl (Nat.le_of_ble_eq_true rfl) (Nat.le_refl _) (Nat.le_refl _) ?_
        refine x_81 (d := d) (fun a_1 a_2 => ?_) (fun a_n => ?_)
        · show RU_110 (d + 1) (0, 0) Post 47 ([(4, .int (nI i)), (3, .int 0), (0, .ref 57), (1, .int h), (2, .int t)]) ([.int 1]) (stt σ τ) 0 0
          refine R_if ck_110_47 (fun c => absurd c (show ¬ (1 : Int32) = 0 from by decide)) (fun _ => ?_)
          refine R_seg sg_110_50 sk_110_50 (pc' := 51) (lv' := [(4, .int (nI i)), (3, .int 0), (0, .ref 57), (1, .int h), (2, .int t)]) (st' := [.int 1]) (S' := stt σ τ) (kc' := 0) (ks' := 0) rfl ⟨trivial, trivial⟩ ?_
          refine R_goto ck_110_51 ?_
          refine R_seg sg_110_55 sk_110_55 (pc' := 59) (lv' := [(4, .int ((nI i) + 1)), (3, .int 1), (0, .ref 57), (1, .int h), (2, .int t)]) (st' := []) (S' := stt σ τ) (kc' := 0) (ks' := 0) rfl ⟨(by decide), (by decide), trivial⟩ ?_
          refine R_goto ck_110_59 ?_
          rw [nI_1]
          exact l_110b hn hn2 (hy i (by omega) ⟨Classical.not_not.mp c_26, a_1, a_2⟩) (n + 1) (i + 1) (by omega) (by omega)
        · show RU_110 (d + 1) (0, 0) Post 47 ([(4, .int (nI i)), (3, .int 0), (0, .ref 57), (1, .int h), (2, .int t)]) ([.int 0]) (stt σ τ) 0 0
          refine R_if ck_110_47 (fun _ => ?_) (fun c => absurd (show (0 : Int32) = 0 from by decide) c)
          refine R_seg sg_110_54 sk_110_54 (pc' := 55) (lv' := [(4, .int (nI i)), (3, .int 0), (0, .ref 57), (1, .int h), (2, .int t)]) (st' := [.int 0]) (S' := stt σ τ) (kc' := 0) (ks' := 0) rfl ⟨trivial, trivial⟩ ?_
          refine R_seg sg_110_55 sk_110_55 (pc' := 59) (lv' := [(4, .int ((nI i) + 1)), (3, .int 0), (0, .ref 57), (1, .int h), (2, .int t)]) (st' := []) (S' := stt σ τ) (kc' := 0) (ks' := 0) rfl ⟨(by decide), (by decide), trivial⟩ ?_
          refine R_goto ck_110_59 ?_
          rw [nI_1]
          exact ih (i + 1) (by omega) (by omega) (by intro j hj; rcases Nat.lt_or_ge j i with z | z; exact hno j z; rw [show j = i by omega]; intro zq; first | exact c_26 zq.1 | (rcases a_n with z2 | z2; exact zq.2.1 z2; exact zq.2.2 z2))
set_option maxRecDepth 20000 in
theorem x_110 {d : Nat} {σ : Nat → Nat → Int32} {τ : Nat → Nat → Int64} {h t : Int32} {n : Nat} (hn : σ 57 10 = nI n) (hn2 : n ≤ 20) {Post : Option Value → Sto → Prop} (hy : ∀ j, j < n → mDn σ h t j → Post (some (.int 1)) (stt σ τ)) (hx : (∀ j, j < n → ¬ mDn σ h t j) → Post (some (.int 0)) (stt σ τ)) : Ex (d + 2) 110 [.ref 57, .int h, .int t] (stt σ τ) 0 0 Post := by
  refine en_110 (Nat.le_of_ble_eq_true rfl) ?_
  show RU_110 (d + 1) (0, 0) Post 0 ([(0, .ref 57), (1, .int h), (2, .int t)]) ([]) (stt σ τ) 0 0
  refine R_seg sg_110_0 sk_110_0 (pc' := 5) (lv' := [(4, .int 0), (3, .int 0), (0, .ref 57), (1, .int h), (2, .int t)]) (st' := []) (S' := stt σ τ) (kc' := 0) (ks' := 0) rfl ⟨trivial, (by decide), trivial, (by decide), trivial⟩ ?_
  exact l_110 hn hn2 hy hx (n + 1) 0 (by omega) (by omega) (fun j hj => absurd hj (by omega))
def mWt (σ : Nat → Nat → Int32) (qx : Nat → Nat) (h : Int32) (j : Nat) : Prop := σ 94 (qx j) = 1 ∧ σ 69 (qx j / 32) = h
set_option maxRecDepth 20000 in
theorem l_113 {d : Nat} {σ : Nat → Nat → Int32} {τ : Nat → Nat → Int64} {h : Int32} {n : Nat} {qx : Nat → Nat} (hn : σ 57 47 = nI n) (hn2 : n ≤ 192) (hqx : ∀ i, i < n → σ 97 i = nI (qx i)) (hqx2 : ∀ i, i < n → qx i < 192) {Post : Option Value → Sto → Prop} (hy : ∀ j, j < n → mWt σ qx h j → (∀ l, l < j → ¬ mWt σ qx h l) → Post (some (.int (nI j))) (stt σ τ)) (hx : (∀ j, j < n → ¬ mWt σ qx h j) → Post (some (.int (-1))) (stt σ τ)) : ∀ (nn : Nat) (i : Nat), i ≤ n → n - i < nn → (∀ j, j < i → ¬ mWt σ qx h j) → RU_113 d (0, 0) Post 2 [(2, .int (nI i)), (0, .ref 57), (1, .int h)] [] (stt σ τ) 0 0 := by
  intro nn
  induction nn with
  | zero => intro i h1 h2 hno; exact absurd h2 (by omega)
  | succ nn ih =>
    intro i h1 h2 hno
    refine R_seg sg_113_2 sk_113_2 (pc' := 7) (lv' := [(2, .int (nI i)), (0, .ref 57), (1, .int h)]) (st' := [.int (σ 57 47), .int (nI i)]) (S' := stt σ τ) (kc' := 0) (ks' := 0) rfl ⟨trivial, trivial, rfl, trivial⟩ ?_
    rw [hn]
    refine R_icmp ck_113_7 (fun (c_7 : (nI n) ≤ (nI i)) => ?_) (fun (c_7 : ¬ (nI n) ≤ (nI i)) => ?_)
    · have c_7 : n ≤ i := (nI_leI (a := n) (b := i) (by omega) (by omega)).mp c_7
      refine R_seg sg_113_51 sk_113_51 (pc' := 52) (lv' := [(2, .int (nI i)), (0, .ref 57), (1, .int h)]) (st' := [.int (-1)]) (S' := stt σ τ) (kc' := 0) (ks' := 0) rfl ⟨trivial, trivial⟩ ?_
      refine R_iret ck_113_52 rfl rfl ?_
      exact hx (fun j hj => hno j (by omega))
    · have c_7 : i < n := Nat.not_le.mp (fun zq => c_7 ((nI_leI (a := n) (b := i) (by omega) (by omega)).mpr zq))
      refine R_seg sg_113_10 sk_113_10 (pc' := 19) (lv' := [(2, .int (nI i)), (0, .ref 57), (1, .int h)]) (st' := [.int (nI i), .ref 97, .ref 94]) (S' := stt σ τ) (kc' := 0) (ks' := 0) rfl ⟨trivial, rfl, trivial, rfl, trivial, trivial⟩ ?_
      refine R_iald ca_113_19 (j := i) rfl rfl (by have := hqx2 i (by omega); omega) ?_
      show RU_113 d (0, 0) Post 20 ([(2, .int (nI i)), (0, .ref 57), (1, .int h)]) ([.int (σ 97 i), .ref 94]) (stt σ τ) 0 0
      rw [hqx i (by omega)]
      refine R_iald ca_113_20 (j := qx i) rfl rfl (by have := hqx2 i (by omega); omega) ?_
      refine R_seg sg_113_21 sk_113_21 (pc' := 22) (lv' := [(2, .int (nI i)), (0, .ref 57), (1, .int h)]) (st' := [.int 1, .int (σ 94 (qx i))]) (S' := stt σ τ) (kc' := 0) (ks' := 0) rfl ⟨trivial, trivial⟩ ?_
      refine R_icmp ck_113_22 (fun (c_22 : ¬ (σ 94 (qx i)) = 1) => ?_) (fun (c_22 : ¬ ¬ (σ 94 (qx i)) = 1) => ?_)
      · refine R_seg sg_113_45 sk_113_45 (pc' := 48) (lv' := [(2, .int ((nI i) + 1)), (0, .ref 57), (1, .int h)]) (st' := []) (S' := stt σ τ) (kc' := 0) (ks' := 0) rfl ⟨(by decide), trivial⟩ ?_
        refine R_goto ck_113_48 ?_
        rw [nI_1]
        exact ih (i + 1) (by omega) (by omega) (by intro j hj; rcases Nat.lt_or_ge j i with z | z; exact hno j z; rw [show j = i by omega]; intro zq; first | exact c_22 zq.1 | exact c_40 zq.2)
      · refine R_seg sg_113_25 sk_113_25 (pc' := 34) (lv' := [(2, .int (nI i)), (0, .ref 57), (1, .int h)]) (st' := [.int (nI i), .ref 97, .ref 69]) (S' := stt σ τ) (kc' := 0) (ks' := 0) rfl ⟨trivial, rfl, trivial, rfl, trivial, trivial⟩ ?_
        refine R_iald ca_113_34 (j := i) rfl rfl (by have := hqx2 i (by omega); omega) ?_
        show RU_113 d (0, 0) Post 35 ([(2, .int (nI i)), (0, .ref 57), (1, .int h)]) ([.int (σ 97 i), .ref 69]) (stt σ τ) 0 0
        rw [hqx i (by omega)]
        refine R_seg sg_113_35 sk_113_35 (pc' := 38) (lv' := [(2, .int (nI i)), (0, .ref 57), (1, .int h)]) (st' := [.int ((nI (qx i)) / 32), .ref 69]) (S' := stt σ τ) (kc' := 0) (ks' := 0) rfl ⟨trivial, (by decide), trivial⟩ ?_
        rw [show nI (qx i) / 32 = nI (qx i / 32) from pk_div (d := 32) (by have := hqx2 i (by omega); omega) (by omega) (by omega)]
        refine R_iald ca_113_38 (j := qx i / 32) rfl rfl (by have := hqx2 i (by omega); omega) ?_
        refine R_seg sg_113_39 sk_113_39 (pc' := 40) (lv' := [(2, .int (nI i)), (0, .ref 57), (1, .int h)]) (st' := [.int h, .int (σ 69 (qx i / 32))]) (S' := stt σ τ) (kc' := 0) (ks' := 0) rfl ⟨trivial, trivial⟩ ?_
        refine R_icmp ck_113_40 (fun (c_40 : ¬ (σ 69 (qx i / 32)) = h) => ?_) (fun (c_40 : ¬ ¬ (σ 69 (qx i / 32)) = h) => ?_)
        · refine R_seg sg_113_45 sk_113_45 (pc' := 48) (lv' := [(2, .int ((nI i) + 1)), (0, .ref 57), (1, .int h)]) (st' := []) (S' := stt σ τ) (kc' := 0) (ks' := 0) rfl ⟨(by decide), trivial⟩ ?_
          refine R_goto ck_113_48 ?_
          rw [nI_1]
          exact ih (i + 1) (by omega) (by omega) (by intro j hj; rcases Nat.lt_or_ge j i with z | z; exact hno j z; rw [show j = i by omega]; intro zq; first | exact c_22 zq.1 | exact c_40 zq.2)
        · refine R_seg sg_113_43 sk_113_43 (pc' := 44) (lv' := [(2, .int (nI i)), (0, .ref 57), (1, .int h)]) (st' := [.int (nI i)]) (S' := stt σ τ) (kc' := 0) (ks' := 0) rfl ⟨trivial, trivial⟩ ?_
          refine R_iret ck_113_44 rfl rfl ?_
          exact hy i (by omega) ⟨Classical.not_not.mp c_22, Classical.not_not.mp c_40⟩ hno
set_option maxRecDepth 20000 in
theorem x_113 {d : Nat} {σ : Nat → Nat → Int32} {τ : Nat → Nat → Int64} {h : Int32} {n : Nat} {qx : Nat → Nat} (hn : σ 57 47 = nI n) (hn2 : n ≤ 192) (hqx : ∀ i, i < n → σ 97 i = nI (qx i)) (hqx2 : ∀ i, i < n → qx i < 192) {Post : Option Value → Sto → Prop} (hy : ∀ j, j < n → mWt σ qx h j → (∀ l, l < j → ¬ mWt σ qx h l) → Post (some (.int (nI j))) (stt σ τ)) (hx : (∀ j, j < n → ¬ mWt σ qx h j) → Post (some (.int (-1))) (stt σ τ)) : Ex (d + 1) 113 [.ref 57, .int h] (stt σ τ) 0 0 Post := by
  refine en_113 (Nat.le_of_ble_eq_true rfl) ?_
  show RU_113 d (0, 0) Post 0 ([(0, .ref 57), (1, .int h)]) ([]) (stt σ τ) 0 0
  refine R_seg sg_113_0 sk_113_0 (pc' := 2) (lv' := [(2, .int 0), (0, .ref 57), (1, .int h)]) (st' := []) (S' := stt σ τ) (kc' := 0) (ks' := 0) rfl ⟨trivial, (by decide), trivial⟩ ?_
  exact l_113 hn hn2 hqx hqx2 hy hx (n + 1) 0 (by omega) (by omega) (fun j hj => absurd hj (by omega))
