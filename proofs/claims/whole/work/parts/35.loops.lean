/-! ===== loops of the round ===== -/
/-- spell i of the class / of the model holds helper h at a tick -/
def cDn (σ : Nat → Nat → Int32) (h t : Int32) (i : Nat) : Prop := σ 8 i = h ∧ ¬ t < σ 9 i ∧ ¬ σ 10 i < t
def mDn (σ : Nat → Nat → Int32) (h t : Int32) (i : Nat) : Prop := σ 66 i = h ∧ ¬ t < σ 67 i ∧ ¬ σ 68 i < t
set_option maxRecDepth 20000 in
theorem l_15 {d : Nat} {σ : Nat → Nat → Int32} {τ : Nat → Nat → Int64} {h t : Int32} {m : Nat} (hn : σ 6 1 = nI m) (hn2 : m ≤ 20) {Post : Option Value → Sto → Prop} (hy : ∀ j, j < m → cDn σ h t j → Post (some (.int 1)) (stt σ τ)) (hx : (∀ j, j < m → ¬ cDn σ h t j) → Post (some (.int 0)) (stt σ τ)) : ∀ (n : Nat) (i : Nat), i ≤ m → m - i < n → (∀ j, j < i → ¬ cDn σ h t j) → RU_15 (d + 1) (0, 0) Post 2 [(3, .int (nI i)), (0, .ref 6), (1, .int h), (2, .int t)] [] (stt σ τ) 0 0 := by
  intro n
  induction n with
  | zero => intro i h1 h2 hno; exact absurd h2 (by omega)
  | succ n ih =>
    intro i h1 h2 hno
    refine R_seg sg_15_2 sk_15_2 (pc' := 7) (lv' := [(3, .int (nI i)), (0, .ref 6), (1, .int h), (2, .int t)]) (st' := [.int (σ 6 1), .int (nI i)]) (S' := stt σ τ) (kc' := 0) (ks' := 0) rfl ⟨trivial, trivial, rfl, trivial⟩ ?_
    rw [hn]
    refine R_icmp ck_15_7 (fun (c_7 : (nI m) ≤ (nI i)) => ?_) (fun (c_7 : ¬ (nI m) ≤ (nI i)) => ?_)
    · have c_7 : m ≤ i := (nI_leI (a := m) (b := i) (by omega) (by omega)).mp c_7
      refine R_seg sg_15_47 sk_15_47 (pc' := 48) (lv' := [(3, .int (nI i)), (0, .ref 6), (1, .int h), (2, .int t)]) (st' := [.int 0]) (S' := stt σ τ) (kc' := 0) (ks' := 0) rfl ⟨trivial, trivial⟩ ?_
      refine R_iret ck_15_48 rfl rfl ?_
      exact hx (fun j hj => hno j (by omega))
    · have c_7 : i < m := Nat.not_le.mp (fun zq => c_7 ((nI_leI (a := m) (b := i) (by omega) (by omega)).mpr zq))
      refine R_seg sg_15_10 sk_15_10 (pc' := 15) (lv' := [(3, .int (nI i)), (0, .ref 6), (1, .int h), (2, .int t)]) (st' := [.int (nI i), .ref 8]) (S' := stt σ τ) (kc' := 0) (ks' := 0) rfl ⟨trivial, rfl, trivial, trivial⟩ ?_
      refine R_iald ca_15_15 (j := i) rfl rfl (by omega) ?_
      refine R_seg sg_15_16 sk_15_16 (pc' := 17) (lv' := [(3, .int (nI i)), (0, .ref 6), (1, .int h), (2, .int t)]) (st' := [.int h, .int (σ 8 i)]) (S' := stt σ τ) (kc' := 0) (ks' := 0) rfl ⟨trivial, trivial⟩ ?_
      refine R_icmp ck_15_17 (fun (c_17 : ¬ (σ 8 i) = h) => ?_) (fun (c_17 : ¬ ¬ (σ 8 i) = h) => ?_)
      · refine R_seg sg_15_41 sk_15_41 (pc' := 44) (lv' := [(3, .int ((nI i) + 1)), (0, .ref 6), (1, .int h), (2, .int t)]) (st' := []) (S' := stt σ τ) (kc' := 0) (ks' := 0) rfl ⟨(by decide), trivial⟩ ?_
        refine R_goto ck_15_44 ?_
        rw [nI_1]
        exact ih (i + 1) (by omega) (by omega) (by intro j hj; rcases Nat.lt_or_ge j i with z | z; exact hno j z; rw [show j = i by omega]; intro zq; first | exact c_17 zq.1 | (rcases a_n with z2 | z2; exact zq.2.1 z2; exact zq.2.2 z2))
      · refine R_seg sg_15_20 sk_15_20 (pc' := 26) (lv' := [(3, .int (nI i)), (0, .ref 6), (1, .int h), (2, .int t)]) (st' := [.int (nI i), .ref 9, .int t]) (S' := stt σ τ) (kc' := 0) (ks' := 0) rfl ⟨trivial, trivial, rfl, trivial, trivial⟩ ?_
        refine R_iald ca_15_26 (j := i) rfl rfl (by omega) ?_
        refine R_seg sg_15_27 sk_15_27 (pc' := 32) (lv' := [(3, .int (nI i)), (0, .ref 6), (1, .int h), (2, .int t)]) (st' := [.int (nI i), .ref 10, .int (σ 9 i), .int t]) (S' := stt σ τ) (kc' := 0) (ks' := 0) rfl ⟨trivial, rfl, trivial, trivial⟩ ?_
        refine R_iald ca_15_32 (j := i) rfl rfl (by omega) ?_
        refine R_stat ck_15_33 (by decide) [.int t, .int (σ 9 i), .int (σ 10 i)] 0 0 (r := []) rfl rfl (Nat.le_of_ble_eq_true rfl) (Nat.le_refl _) (Nat.le_refl _) ?_
        refine x_57 (d := d) (fun a_1 a_2 => ?_) (fun a_n => ?_)
        · show RU_15 (d + 1) (0, 0) Post 36 ([(3, .int (nI i)), (0, .ref 6), (1, .int h), (2, .int t)]) ([.int 1]) (stt σ τ) 0 0
          refine R_if ck_15_36 (fun c => absurd c (show ¬ (1 : Int32) = 0 from by decide)) (fun _ => ?_)
          refine R_seg sg_15_39 sk_15_39 (pc' := 40) (lv' := [(3, .int (nI i)), (0, .ref 6), (1, .int h), (2, .int t)]) (st' := [.int 1]) (S' := stt σ τ) (kc' := 0) (ks' := 0) rfl ⟨trivial, trivial⟩ ?_
          refine R_iret ck_15_40 rfl rfl ?_
          exact hy i (by omega) ⟨Classical.not_not.mp c_17, a_1, a_2⟩
        · show RU_15 (d + 1) (0, 0) Post 36 ([(3, .int (nI i)), (0, .ref 6), (1, .int h), (2, .int t)]) ([.int 0]) (stt σ τ) 0 0
          refine R_if ck_15_36 (fun _ => ?_) (fun c => absurd (show (0 : Int32) = 0 from by decide) c)
          refine R_seg sg_15_41 sk_15_41 (pc' := 44) (lv' := [(3, .int ((nI i) + 1)), (0, .ref 6), (1, .int h), (2, .int t)]) (st' := []) (S' := stt σ τ) (kc' := 0) (ks' := 0) rfl ⟨(by decide), trivial⟩ ?_
          refine R_goto ck_15_44 ?_
          rw [nI_1]
          exact ih (i + 1) (by omega) (by omega) (by intro j hj; rcases Nat.lt_or_ge j i with z | z; exact hno j z; rw [show j = i by omega]; intro zq; first | exact c_17 zq.1 | (rcases a_n with z2 | z2; exact zq.2.1 z2; exact zq.2.2 z2))
set_option maxRecDepth 20000 in
theorem x_15 {d : Nat} {σ : Nat → Nat → Int32} {τ : Nat → Nat → Int64} {h t : Int32} {n : Nat} (hn : σ 6 1 = nI n) (hn2 : n ≤ 20) {Post : Option Value → Sto → Prop} (hy : ∀ j, j < n → cDn σ h t j → Post (some (.int 1)) (stt σ τ)) (hx : (∀ j, j < n → ¬ cDn σ h t j) → Post (some (.int 0)) (stt σ τ)) : Ex (d + 2) 15 [.ref 6, .int h, .int t] (stt σ τ) 0 0 Post := by
  refine en_15 (Nat.le_of_ble_eq_true rfl) ?_
  show RU_15 (d + 1) (0, 0) Post 0 ([(0, .ref 6), (1, .int h), (2, .int t)]) ([]) (stt σ τ) 0 0
  refine R_seg sg_15_0 sk_15_0 (pc' := 2) (lv' := [(3, .int 0), (0, .ref 6), (1, .int h), (2, .int t)]) (st' := []) (S' := stt σ τ) (kc' := 0) (ks' := 0) rfl ⟨trivial, (by decide), trivial⟩ ?_
  exact l_15 hn hn2 hy hx (n + 1) 0 (by omega) (by omega) (fun j hj => absurd hj (by omega))
