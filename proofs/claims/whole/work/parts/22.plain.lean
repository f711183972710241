/-! ===== AnswerDoor: more plain methods ===== -/
def c_feed (σ : Nat → Nat → Int32) (n : Nat) (x1 x2 x3 x4 x5 : Int32) : Nat → Nat → Int32 := c_word (c_word (c_word (c_word (c_word σ n x1) (n + 4) x2) (n + 8) x3) (n + 12) x4) (n + 16) x5
set_option maxRecDepth 20000 in
theorem x_69 {d : Nat} {σ : Nat → Nat → Int32} {τ : Nat → Nat → Int64} {x1 x2 x3 x4 x5 : Int32} {n : Nat} (hn : σ 30 1 = nI n) (hn2 : n ≤ 200) {Post : Option Value → Sto → Prop} (hs : n ≤ 180 → Post (some (.int (nI (n + 20)))) (stt (c_feed σ n x1 x2 x3 x4 x5) τ)) (hf : ¬ n ≤ 180 → Post (some (.int (-1))) (stt σ τ)) : Ex (d + 2) 69 [.ref 0, .int x1, .int x2, .int x3, .int x4, .int x5] (stt σ τ) 0 0 Post := by
  refine en_69 (Nat.le_of_ble_eq_true rfl) ?_
  show RU_69 (d + 1) (0, 0) Post 0 ([(0, .ref 0), (1, .int x1), (2, .int x2), (3, .int x3), (4, .int x4), (5, .int x5)]) ([]) (stt σ τ) 0 0
  refine R_seg sg_69_0 sk_69_0 (pc' := 10) (lv' := [(0, .ref 0), (1, .int x1), (2, .int x2), (3, .int x3), (4, .int x4), (5, .int x5)]) (st' := [.int 180, .int (σ 30 1)]) (S' := stt σ τ) (kc' := 0) (ks' := 0) rfl ⟨trivial, rfl, rfl, trivial, trivial⟩ ?_
  rw [hn]
  refine R_icmp ck_69_10 (fun (c_10 : (nI n) ≤ 180) => ?_) (fun (c_10 : ¬ (nI n) ≤ 180) => ?_)
  · have c_10 : n ≤ 180 := (nI_leI (a := n) (b := 180) (by omega) (by omega)).mp c_10
    refine R_seg sg_69_15 sk_69_15 (pc' := 20) (lv' := [(0, .ref 0), (1, .int x1), (2, .int x2), (3, .int x3), (4, .int x4), (5, .int x5)]) (st' := [.int x1, .ref 30]) (S' := stt σ τ) (kc' := 0) (ks' := 0) rfl ⟨trivial, rfl, trivial, trivial⟩ ?_
    refine R_virt ck_69_20 30 [.int x1] 0 0 (r := []) rfl rfl rfl (Nat.le_of_ble_eq_true rfl) (Nat.le_refl _) (Nat.le_refl _) ?_
    refine x_44 (d := d) (n := n) hn (by omega) ?_
    show RU_69 (d + 1) (0, 0) Post 23 ([(0, .ref 0), (1, .int x1), (2, .int x2), (3, .int x3), (4, .int x4), (5, .int x5)]) ([]) (stt (c_word σ n x1) τ) 0 0
    refine R_seg sg_69_23 sk_69_23 (pc' := 28) (lv' := [(0, .ref 0), (1, .int x1), (2, .int x2), (3, .int x3), (4, .int x4), (5, .int x5)]) (st' := [.int x2, .ref 30]) (S' := stt (c_word σ n x1) τ) (kc' := 0) (ks' := 0) rfl ⟨trivial, rfl, trivial, trivial⟩ ?_
    refine R_virt ck_69_28 30 [.int x2] 0 0 (r := []) rfl rfl rfl (Nat.le_of_ble_eq_true rfl) (Nat.le_refl _) (Nat.le_refl _) ?_
    refine x_44 (d := d) (n := n + 4) rfl (by omega) ?_
    show RU_69 (d + 1) (0, 0) Post 31 ([(0, .ref 0), (1, .int x1), (2, .int x2), (3, .int x3), (4, .int x4), (5, .int x5)]) ([]) (stt (c_word (c_word σ n x1) (n + 4) x2) τ) 0 0
    refine R_seg sg_69_31 sk_69_31 (pc' := 36) (lv' := [(0, .ref 0), (1, .int x1), (2, .int x2), (3, .int x3), (4, .int x4), (5, .int x5)]) (st' := [.int x3, .ref 30]) (S' := stt (c_word (c_word σ n x1) (n + 4) x2) τ) (kc' := 0) (ks' := 0) rfl ⟨trivial, rfl, trivial, trivial⟩ ?_
    refine R_virt ck_69_36 30 [.int x3] 0 0 (r := []) rfl rfl rfl (Nat.le_of_ble_eq_true rfl) (Nat.le_refl _) (Nat.le_refl _) ?_
    refine x_44 (d := d) (n := n + 8) rfl (by omega) ?_
    show RU_69 (d + 1) (0, 0) Post 39 ([(0, .ref 0), (1, .int x1), (2, .int x2), (3, .int x3), (4, .int x4), (5, .int x5)]) ([]) (stt (c_word (c_word (c_word σ n x1) (n + 4) x2) (n + 8) x3) τ) 0 0
    refine R_seg sg_69_39 sk_69_39 (pc' := 45) (lv' := [(0, .ref 0), (1, .int x1), (2, .int x2), (3, .int x3), (4, .int x4), (5, .int x5)]) (st' := [.int x4, .ref 30]) (S' := stt (c_word (c_word (c_word σ n x1) (n + 4) x2) (n + 8) x3) τ) (kc' := 0) (ks' := 0) rfl ⟨trivial, rfl, trivial, trivial⟩ ?_
    refine R_virt ck_69_45 30 [.int x4] 0 0 (r := []) rfl rfl rfl (Nat.le_of_ble_eq_true rfl) (Nat.le_refl _) (Nat.le_refl _) ?_
    refine x_44 (d := d) (n := n + 12) rfl (by omega) ?_
    show RU_69 (d + 1) (0, 0) Post 48 ([(0, .ref 0), (1, .int x1), (2, .int x2), (3, .int x3), (4, .int x4), (5, .int x5)]) ([]) (stt (c_word (c_word (c_word (c_word σ n x1) (n + 4) x2) (n + 8) x3) (n + 12) x4) τ) 0 0
    refine R_seg sg_69_48 sk_69_48 (pc' := 54) (lv' := [(0, .ref 0), (1, .int x1), (2, .int x2), (3, .int x3), (4, .int x4), (5, .int x5)]) (st' := [.int x5, .ref 30]) (S' := stt (c_word (c_word (c_word (c_word σ n x1) (n + 4) x2) (n + 8) x3) (n + 12) x4) τ) (kc' := 0) (ks' := 0) rfl ⟨trivial, rfl, trivial, trivial⟩ ?_
    refine R_virt ck_69_54 30 [.int x5] 0 0 (r := []) rfl rfl rfl (Nat.le_of_ble_eq_true rfl) (Nat.le_refl _) (Nat.le_refl _) ?_
    refine x_44 (d := d) (n := n + 16) rfl (by omega) ?_
    show RU_69 (d + 1) (0, 0) Post 57 ([(0, .ref 0), (1, .int x1), (2, .int x2), (3, .int x3), (4, .int x4), (5, .int x5)]) ([]) (stt (c_word (c_word (c_word (c_word (c_word σ n x1) (n + 4) x2) (n + 8) x3) (n + 12) x4) (n + 16) x5) τ) 0 0
    refine R_seg sg_69_57 sk_69_57 (pc' := 64) (lv' := [(0, .ref 0), (1, .int x1), (2, .int x2), (3, .int x3), (4, .int x4), (5, .int x5)]) (st' := [.int ((c_word (c_word (c_word (c_word (c_word σ n x1) (n + 4) x2) (n + 8) x3) (n + 12) x4) (n + 16) x5) 30 1)]) (S' := stt (c_word (c_word (c_word (c_word (c_word σ n x1) (n + 4) x2) (n + 8) x3) (n + 12) x4) (n + 16) x5) τ) (kc' := 0) (ks' := 0) rfl ⟨trivial, rfl, rfl, trivial⟩ ?_
    refine R_iret ck_69_64 rfl rfl ?_
    exact hs (by omega)
  · have c_10 : 180 < n := Nat.not_le.mp (fun q => c_10 ((nI_leI (a := n) (b := 180) (by omega) (by omega)).mpr q))
    refine R_seg sg_69_13 sk_69_13 (pc' := 14) (lv' := [(0, .ref 0), (1, .int x1), (2, .int x2), (3, .int x3), (4, .int x4), (5, .int x5)]) (st' := [.int (-1)]) (S' := stt σ τ) (kc' := 0) (ks' := 0) rfl ⟨trivial, trivial⟩ ?_
    refine R_iret ck_69_14 rfl rfl ?_
    exact hf (by omega)
set_option maxRecDepth 20000 in
theorem x_70 {d : Nat} {σ : Nat → Nat → Int32} {τ : Nat → Nat → Int64} {x1 : Int32} {n : Nat} (hn : σ 30 1 = nI n) (hn2 : n ≤ 200) {Post : Option Value → Sto → Prop} (hs : ∀ j : Nat, j ≤ n → x1 = nI j → Post (some (.int (nI j))) (stt (up2 σ 30 1 (nI j)) τ)) (hf : ¬ rg x1 0 n → Post (some (.int (-1))) (stt σ τ)) : Ex (d + 2) 70 [.ref 0, .int x1] (stt σ τ) 0 0 Post := by
  refine en_70 (Nat.le_of_ble_eq_true rfl) ?_
  show RU_70 (d + 1) (0, 0) Post 0 ([(0, .ref 0), (1, .int x1)]) ([]) (stt σ τ) 0 0
  refine R_seg sg_70_0 sk_70_0 (pc' := 9) (lv' := [(0, .ref 0), (1, .int x1)]) (st' := [.int (σ 30 1), .int 0, .int x1]) (S' := stt σ τ) (kc' := 0) (ks' := 0) rfl ⟨trivial, trivial, trivial, rfl, rfl, trivial⟩ ?_
  rw [hn]
  refine R_stat ck_70_9 (by decide) [.int x1, .int 0, .int (nI n)] 0 0 (r := []) rfl rfl (Nat.le_of_ble_eq_true rfl) (Nat.le_refl _) (Nat.le_refl _) ?_
  refine xn_57 (d := d) 0 n (by omega) (by omega) (fun j l_j u_j e_j => ?_) (fun n_j => ?_)
  · subst e_j
    show RU_70 (d + 1) (0, 0) Post 12 ([(0, .ref 0), (1, .int (nI j))]) ([.int 1]) (stt σ τ) 0 0
    refine R_if ck_70_12 (fun _ => ?_) (fun c => absurd (show ¬ (1 : Int32) = 0 from by decide) c)
    refine R_seg sg_70_17 sk_70_17 (pc' := 26) (lv' := [(0, .ref 0), (1, .int (nI j))]) (st' := [.int (nI j)]) (S' := stt (up2 σ 30 1 (nI j)) τ) (kc' := 0) (ks' := 0) rfl ⟨trivial, rfl, trivial, ⟨rfl, ⟨rfl, rfl⟩⟩, trivial, trivial⟩ ?_
    refine R_iret ck_70_26 rfl rfl ?_
    exact hs j (by omega) rfl
  · show RU_70 (d + 1) (0, 0) Post 12 ([(0, .ref 0), (1, .int x1)]) ([.int 0]) (stt σ τ) 0 0
    refine R_if ck_70_12 (fun c => absurd c (show ¬ ¬ (0 : Int32) = 0 from by decide)) (fun _ => ?_)
    refine R_seg sg_70_15 sk_70_15 (pc' := 16) (lv' := [(0, .ref 0), (1, .int x1)]) (st' := [.int (-1)]) (S' := stt σ τ) (kc' := 0) (ks' := 0) rfl ⟨trivial, trivial⟩ ?_
    refine R_iret ck_70_16 rfl rfl ?_
    exact hf n_j
set_option maxRecDepth 20000 in
theorem x_73 {d : Nat} {σ : Nat → Nat → Int32} {τ : Nat → Nat → Int64} {Post : Option Value → Sto → Prop} (hp : Post (some (.int (σ 0 9))) (stt σ τ)) : Ex (d + 1) 73 [.ref 0] (stt σ τ) 0 0 Post := by
  refine en_73 (Nat.le_of_ble_eq_true rfl) ?_
  show RU_73 d (0, 0) Post 0 ([(0, .ref 0)]) ([]) (stt σ τ) 0 0
  refine R_seg sg_73_0 sk_73_0 (pc' := 4) (lv' := [(0, .ref 0)]) (st' := [.int (σ 0 9)]) (S' := stt σ τ) (kc' := 0) (ks' := 0) rfl ⟨trivial, rfl, trivial⟩ ?_
  refine R_iret ck_73_4 rfl rfl ?_
  exact hp
set_option maxRecDepth 20000 in
theorem x_74 {d : Nat} {σ : Nat → Nat → Int32} {τ : Nat → Nat → Int64} {x1 : Int32} {n : Nat} (hn : σ 55 1 = nI n) (hn2 : n ≤ 3500) {Post : Option Value → Sto → Prop} (hs : ∀ j : Nat, j < n → x1 = nI j → Post (some (.int (σ 56 j))) (stt σ τ)) (hf : ¬ (∃ j : Nat, j < n ∧ x1 = nI j) → Post (some (.int (-1))) (stt σ τ)) : Ex (d + 2) 74 [.ref 0, .int x1] (stt σ τ) 0 0 Post := by
  refine en_74 (Nat.le_of_ble_eq_true rfl) ?_
  show RU_74 (d + 1) (0, 0) Post 0 ([(0, .ref 0), (1, .int x1)]) ([]) (stt σ τ) 0 0
  refine R_seg sg_74_0 sk_74_0 (pc' := 11) (lv' := [(0, .ref 0), (1, .int x1)]) (st' := [.int ((σ 55 1) - 1), .int 0, .int x1]) (S' := stt σ τ) (kc' := 0) (ks' := 0) rfl ⟨trivial, trivial, trivial, rfl, rfl, trivial, trivial, trivial⟩ ?_
  rw [hn]
  refine R_stat ck_74_11 (by decide) [.int x1, .int 0, .int ((nI n) - 1)] 0 0 (r := []) rfl rfl (Nat.le_of_ble_eq_true rfl) (Nat.le_refl _) (Nat.le_refl _) ?_
  refine xm_57 (d := d) n (by omega) (fun j u_j e_j => ?_) (fun n_j => ?_)
  · subst e_j
    show RU_74 (d + 1) (0, 0) Post 14 ([(0, .ref 0), (1, .int (nI j))]) ([.int 1]) (stt σ τ) 0 0
    refine R_if ck_74_14 (fun c => absurd c (show ¬ (1 : Int32) = 0 from by decide)) (fun _ => ?_)
    refine R_seg sg_74_17 sk_74_17 (pc' := 25) (lv' := [(0, .ref 0), (1, .int (nI j))]) (st' := [.int (nI j), .ref 56]) (S' := stt σ τ) (kc' := 0) (ks' := 0) rfl ⟨trivial, rfl, rfl, trivial, trivial⟩ ?_
    refine R_iald ca_74_25 (j := j) rfl rfl (by omega) ?_
    refine R_goto ck_74_26 ?_
    refine R_iret ck_74_30 rfl rfl ?_
    exact hs j (by omega) rfl
  · show RU_74 (d + 1) (0, 0) Post 14 ([(0, .ref 0), (1, .int x1)]) ([.int 0]) (stt σ τ) 0 0
    refine R_if ck_74_14 (fun _ => ?_) (fun c => absurd (show (0 : Int32) = 0 from by decide) c)
    refine R_seg sg_74_29 sk_74_29 (pc' := 30) (lv' := [(0, .ref 0), (1, .int x1)]) (st' := [.int (-1)]) (S' := stt σ τ) (kc' := 0) (ks' := 0) rfl ⟨trivial, trivial⟩ ?_
    refine R_iret ck_74_30 rfl rfl ?_
    exact hf n_j
set_option maxRecDepth 20000 in
theorem x_5 {d : Nat} {σ : Nat → Nat → Int32} {τ : Nat → Nat → Int64} {x : Int32} {k z s : Nat} (hk : k < 192) (hz : σ 46 k = nI z) (hs : σ 48 k = nI s) (hzs : s + z ≤ 192) {Post : Option Value → Sto → Prop} (h1 : ∀ j : Nat, j < z → x = nI j → Post (some (.int (σ 49 (s + j)))) (stt σ τ)) (h0 : ¬ (∃ j : Nat, j < z ∧ x = nI j) → Post (some (.int (-1))) (stt σ τ)) : Ex (d + 2) 5 [.ref 42, .int (nI k), .int x] (stt σ τ) 0 0 Post := by
  refine en_5 (Nat.le_of_ble_eq_true rfl) ?_
  show RU_5 (d + 1) (0, 0) Post 0 ([(0, .ref 42), (1, .int (nI k)), (2, .int x)]) ([]) (stt σ τ) 0 0
  refine R_seg sg_5_0 sk_5_0 (pc' := 7) (lv' := [(0, .ref 42), (1, .int (nI k)), (2, .int x)]) (st' := [.int (nI k), .ref 46, .int 0, .int x]) (S' := stt σ τ) (kc' := 0) (ks' := 0) rfl ⟨trivial, trivial, trivial, rfl, trivial, trivial⟩ ?_
  refine R_iald ca_5_7 (j := k) rfl rfl (by omega) ?_
  show RU_5 (d + 1) (0, 0) Post 8 ([(0, .ref 42), (1, .int (nI k)), (2, .int x)]) ([.int (σ 46 k), .int 0, .int x]) (stt σ τ) 0 0
  rw [hz]
  refine R_seg sg_5_8 sk_5_8 (pc' := 10) (lv' := [(0, .ref 42), (1, .int (nI k)), (2, .int x)]) (st' := [.int ((nI z) - 1), .int 0, .int x]) (S' := stt σ τ) (kc' := 0) (ks' := 0) rfl ⟨trivial, trivial, trivial⟩ ?_
  refine R_stat ck_5_10 (by decide) [.int x, .int 0, .int ((nI z) - 1)] 0 0 (r := []) rfl rfl (Nat.le_of_ble_eq_true rfl) (Nat.le_refl _) (Nat.le_refl _) ?_
  refine xm_57 (d := d) z (by omega) (fun j u_j e_j => ?_) (fun n_j => ?_)
  · subst e_j
    show RU_5 (d + 1) (0, 0) Post 13 ([(0, .ref 42), (1, .int (nI k)), (2, .int (nI j))]) ([.int 1]) (stt σ τ) 0 0
    refine R_if ck_5_13 (fun c => absurd c (show ¬ (1 : Int32) = 0 from by decide)) (fun _ => ?_)
    refine R_seg sg_5_16 sk_5_16 (pc' := 25) (lv' := [(0, .ref 42), (1, .int (nI k)), (2, .int (nI j))]) (st' := [.int (nI k), .ref 48, .ref 49]) (S' := stt σ τ) (kc' := 0) (ks' := 0) rfl ⟨trivial, rfl, trivial, rfl, trivial, trivial⟩ ?_
    refine R_iald ca_5_25 (j := k) rfl rfl (by omega) ?_
    show RU_5 (d + 1) (0, 0) Post 26 ([(0, .ref 42), (1, .int (nI k)), (2, .int (nI j))]) ([.int (σ 48 k), .ref 49]) (stt σ τ) 0 0
    rw [hs]
    refine R_seg sg_5_26 sk_5_26 (pc' := 28) (lv' := [(0, .ref 42), (1, .int (nI k)), (2, .int (nI j))]) (st' := [.int ((nI s) + (nI j)), .ref 49]) (S' := stt σ τ) (kc' := 0) (ks' := 0) rfl ⟨trivial, trivial, trivial⟩ ?_
    refine R_iald ca_5_28 (j := s + j) rfl (by simp only [nl_0, nl_1, nl_2, nl_3, nl_4, nl_5, nl_6, nl_8, nl_20, nl_31, nl_32, pk_mul, nI_add]) (by omega) ?_
    refine R_goto ck_5_29 ?_
    refine R_iret ck_5_33 rfl rfl ?_
    exact h1 j (by omega) rfl
  · show RU_5 (d + 1) (0, 0) Post 13 ([(0, .ref 42), (1, .int (nI k)), (2, .int x)]) ([.int 0]) (stt σ τ) 0 0
    refine R_if ck_5_13 (fun _ => ?_) (fun c => absurd (show (0 : Int32) = 0 from by decide) c)
    refine R_seg sg_5_32 sk_5_32 (pc' := 33) (lv' := [(0, .ref 42), (1, .int (nI k)), (2, .int x)]) (st' := [.int (-1)]) (S' := stt σ τ) (kc' := 0) (ks' := 0) rfl ⟨trivial, trivial⟩ ?_
    refine R_iret ck_5_33 rfl rfl ?_
    exact h0 n_j
theorem sub10 (j : Nat) : nI (j + 10) - 10 = nI j := by rw [nk_10, pk_sub (Nat.le_add_left 10 j), Nat.add_sub_cancel]
set_option maxRecDepth 20000 in
theorem x_75 {d : Nat} {σ : Nat → Nat → Int32} {τ : Nat → Nat → Int64} {x1 x2 : Int32} {n : Nat} (hn : σ 42 5 = nI n) (hn2 : n ≤ 192) (hw : ∀ k, k < n → ∃ z s : Nat, σ 46 k = nI z ∧ σ 48 k = nI s ∧ s + z ≤ 192) {Post : Option Value → Sto → Prop} (hf : ¬ (∃ j : Nat, j < n ∧ x1 = nI j) → Post (some (.int (-1))) (stt σ τ)) (h0 : ∀ k : Nat, k < n → x1 = nI k → x2 = 0 → Post (some (.int (σ 43 k))) (stt σ τ)) (h1 : ∀ k : Nat, k < n → x1 = nI k → x2 = 1 → Post (some (.int (σ 44 k))) (stt σ τ)) (h2 : ∀ k : Nat, k < n → x1 = nI k → x2 = 2 → Post (some (.int (σ 45 k))) (stt σ τ)) (h3 : ∀ k : Nat, k < n → x1 = nI k → x2 = 3 → Post (some (.int (σ 46 k))) (stt σ τ)) (h4 : ∀ k : Nat, k < n → x1 = nI k → x2 = 4 → Post (some (.int (σ 47 k))) (stt σ τ)) (hk : ∀ k z s j : Nat, k < n → j < z → σ 46 k = nI z → σ 48 k = nI s → x1 = nI k → x2 = nI (j + 10) → Post (some (.int (σ 49 (s + j)))) (stt σ τ)) (hd : ∀ k z s : Nat, k < n → σ 46 k = nI z → σ 48 k = nI s → x1 = nI k → (∀ j, j < z → ¬ x2 = nI (j + 10)) → (x2.toInt < 0 ∨ 4 < x2.toInt) → Post (some (.int (-1))) (stt σ τ)) : Ex (d + 3) 75 [.ref 0, .int x1, .int x2] (stt σ τ) 0 0 Post := by
  refine en_75 (Nat.le_of_ble_eq_true rfl) ?_
  show RU_75 (d + 2) (0, 0) Post 0 ([(0, .ref 0), (1, .int x1), (2, .int x2)]) ([]) (stt σ τ) 0 0
  refine R_seg sg_75_0 sk_75_0 (pc' := 11) (lv' := [(0, .ref 0), (1, .int x1), (2, .int x2)]) (st' := [.int ((σ 42 5) - 1), .int 0, .int x1]) (S' := stt σ τ) (kc' := 0) (ks' := 0) rfl ⟨trivial, trivial, trivial, rfl, rfl, trivial, trivial, trivial⟩ ?_
  rw [hn]
  refine R_stat ck_75_11 (by decide) [.int x1, .int 0, .int ((nI n) - 1)] 0 0 (r := []) rfl rfl (Nat.le_of_ble_eq_true rfl) (Nat.le_refl _) (Nat.le_refl _) ?_
  refine xm_57 (d := d + 1) n (by omega) (fun k u_k e_k => ?_) (fun n_k => ?_)
  · subst e_k
    show RU_75 (d + 2) (0, 0) Post 14 ([(0, .ref 0), (1, .int (nI k)), (2, .int x2)]) ([.int 1]) (stt σ τ) 0 0
    refine R_if ck_75_14 (fun _ => ?_) (fun c => absurd (show ¬ (1 : Int32) = 0 from by decide) c)
    refine R_seg sg_75_19 sk_75_19 (pc' := 20) (lv' := [(0, .ref 0), (1, .int (nI k)), (2, .int x2)]) (st' := [.int x2]) (S' := stt σ τ) (kc' := 0) (ks' := 0) rfl ⟨trivial, trivial⟩ ?_
    by_cases w_0 : x2 = 0
    · rw [w_0]
      refine R_tsw ck_75_20 56 rfl ?_
      refine R_seg sg_75_56 sk_75_56 (pc' := 64) (lv' := [(0, .ref 0), (1, .int (nI k)), (2, .int 0)]) (st' := [.int (nI k), .ref 43]) (S' := stt σ τ) (kc' := 0) (ks' := 0) rfl ⟨trivial, rfl, rfl, trivial, trivial⟩ ?_
      refine R_iald ca_75_64 (j := k) rfl rfl (by omega) ?_
      refine R_iret ck_75_65 rfl rfl ?_
      exact h0 k (by omega) rfl w_0
    by_cases w_1 : x2 = 1
    · rw [w_1]
      refine R_tsw ck_75_20 66 rfl ?_
      refine R_seg sg_75_66 sk_75_66 (pc' := 74) (lv' := [(0, .ref 0), (1, .int (nI k)), (2, .int 1)]) (st' := [.int (nI k), .ref 44]) (S' := stt σ τ) (kc' := 0) (ks' := 0) rfl ⟨trivial, rfl, rfl, trivial, trivial⟩ ?_
      refine R_iald ca_75_74 (j := k) rfl rfl (by omega) ?_
      refine R_iret ck_75_75 rfl rfl ?_
      exact h1 k (by omega) rfl w_1
    by_cases w_2 : x2 = 2
    · rw [w_2]
      refine R_tsw ck_75_20 76 rfl ?_
      refine R_seg sg_75_76 sk_75_76 (pc' := 84) (lv' := [(0, .ref 0), (1, .int (nI k)), (2, .int 2)]) (st' := [.int (nI k), .ref 45]) (S' := stt σ τ) (kc' := 0) (ks' := 0) rfl ⟨trivial, rfl, rfl, trivial, trivial⟩ ?_
      refine R_iald ca_75_84 (j := k) rfl rfl (by omega) ?_
      refine R_iret ck_75_85 rfl rfl ?_
      exact h2 k (by omega) rfl w_2
    by_cases w_3 : x2 = 3
    · rw [w_3]
      refine R_tsw ck_75_20 86 rfl ?_
      refine R_seg sg_75_86 sk_75_86 (pc' := 94) (lv' := [(0, .ref 0), (1, .int (nI k)), (2, .int 3)]) (st' := [.int (nI k), .ref 46]) (S' := stt σ τ) (kc' := 0) (ks' := 0) rfl ⟨trivial, rfl, rfl, trivial, trivial⟩ ?_
      refine R_iald ca_75_94 (j := k) rfl rfl (by omega) ?_
      refine R_iret ck_75_95 rfl rfl ?_
      exact h3 k (by omega) rfl w_3
    by_cases w_4 : x2 = 4
    · rw [w_4]
      refine R_tsw ck_75_20 96 rfl ?_
      refine R_seg sg_75_96 sk_75_96 (pc' := 104) (lv' := [(0, .ref 0), (1, .int (nI k)), (2, .int 4)]) (st' := [.int (nI k), .ref 47]) (S' := stt σ τ) (kc' := 0) (ks' := 0) rfl ⟨trivial, rfl, rfl, trivial, trivial⟩ ?_
      refine R_iald ca_75_104 (j := k) rfl rfl (by omega) ?_
      refine R_iret ck_75_105 rfl rfl ?_
      exact h4 k (by omega) rfl w_4
    have w_o : x2.toInt < 0 ∨ 4 < x2.toInt := sw_out (n := 4) (by decide) (fun j hj => by rcases (show j = 0 ∨ j = 1 ∨ j = 2 ∨ j = 3 ∨ j = 4 by omega) with rfl | rfl | rfl | rfl | rfl <;> assumption)
    refine R_tsw ck_75_20 106 (by simp only [swT]; rw [if_pos w_o]; rfl) ?_
    refine R_seg sg_75_106 sk_75_106 (pc' := 109) (lv' := [(0, .ref 0), (1, .int (nI k)), (2, .int x2)]) (st' := [.int 10, .int x2]) (S' := stt σ τ) (kc' := 0) (ks' := 0) rfl ⟨trivial, trivial, trivial⟩ ?_
    refine R_icmp ck_75_109 (fun (c_109 : 10 ≤ x2) => ?_) (fun (c_109 : ¬ 10 ≤ x2) => ?_)
    · obtain ⟨z, s, hz, hs, hzs⟩ := hw k (by omega)
      refine R_seg sg_75_116 sk_75_116 (pc' := 125) (lv' := [(0, .ref 0), (1, .int (nI k)), (2, .int x2)]) (st' := [.int (x2 - 10), .int (nI k), .ref 42]) (S' := stt σ τ) (kc' := 0) (ks' := 0) rfl ⟨trivial, rfl, trivial, trivial, trivial, trivial, trivial⟩ ?_
      refine R_virt ck_75_125 42 [.int (nI k), .int (x2 - 10)] 0 0 (r := []) rfl rfl rfl (Nat.le_of_ble_eq_true rfl) (Nat.le_refl _) (Nat.le_refl _) ?_
      refine x_5 (d := d) (by omega) hz hs hzs (fun j u_j e_j => ?_) (fun n_j => ?_)
      · show RU_75 (d + 2) (0, 0) Post 128 ([(0, .ref 0), (1, .int (nI k)), (2, .int x2)]) ([.int (σ 49 (s + j))]) (stt σ τ) 0 0
        refine R_iret ck_75_128 rfl rfl ?_
        exact hk k z s j (by omega) (by omega) hz hs rfl (by rw [show x2 = x2 - 10 + 10 from (Int32.sub_add_cancel x2 10).symm, e_j, nk_10, nI_add])
      · show RU_75 (d + 2) (0, 0) Post 128 ([(0, .ref 0), (1, .int (nI k)), (2, .int x2)]) ([.int (-1)]) (stt σ τ) 0 0
        refine R_iret ck_75_128 rfl rfl ?_
        first | exact hd k z s (by omega) hz hs rfl (fun j q1 q2 => n_j ⟨j, q1, by rw [q2]; exact sub10 j⟩) w_o | (obtain ⟨z, s, hz, hs, hzs⟩ := hw k (by omega); exact hd k z s (by omega) hz hs rfl (fun j q1 q2 => by rw [q2] at c_109; exact c_109 (nI_le (a := 10) (b := j + 10) (by omega) (by omega))) w_o)
    · refine R_seg sg_75_112 sk_75_112 (pc' := 113) (lv' := [(0, .ref 0), (1, .int (nI k)), (2, .int x2)]) (st' := [.int (-1)]) (S' := stt σ τ) (kc' := 0) (ks' := 0) rfl ⟨trivial, trivial⟩ ?_
      refine R_goto ck_75_113 ?_
      refine R_iret ck_75_128 rfl rfl ?_
      first | exact hd k z s (by omega) hz hs rfl (fun j q1 q2 => n_j ⟨j, q1, by rw [q2]; exact sub10 j⟩) w_o | (obtain ⟨z, s, hz, hs, hzs⟩ := hw k (by omega); exact hd k z s (by omega) hz hs rfl (fun j q1 q2 => by rw [q2] at c_109; exact c_109 (nI_le (a := 10) (b := j + 10) (by omega) (by omega))) w_o)
  · show RU_75 (d + 2) (0, 0) Post 14 ([(0, .ref 0), (1, .int x1), (2, .int x2)]) ([.int 0]) (stt σ τ) 0 0
    refine R_if ck_75_14 (fun c => absurd c (show ¬ ¬ (0 : Int32) = 0 from by decide)) (fun _ => ?_)
    refine R_seg sg_75_17 sk_75_17 (pc' := 18) (lv' := [(0, .ref 0), (1, .int x1), (2, .int x2)]) (st' := [.int (-1)]) (S' := stt σ τ) (kc' := 0) (ks' := 0) rfl ⟨trivial, trivial⟩ ?_
    refine R_iret ck_75_18 rfl rfl ?_
    exact hf n_k
set_option maxRecDepth 20000 in
theorem x_10 {d : Nat} {σ : Nat → Nat → Int32} {τ : Nat → Nat → Int64} {k : Nat} {x : Int32} (hk : kd0[k]? = some (2, 9)) {Post : Option Value → Sto → Prop} (h1 : σ k 5 = 0 → ¬ σ k 7 ≤ x → Post (some (.int 1)) (stt σ τ)) (h0 : ¬ (σ k 5 = 0 ∧ ¬ σ k 7 ≤ x) → Post (some (.int 0)) (stt σ τ)) : Ex (d + 1) 10 [.ref k, .int x] (stt σ τ) 0 0 Post := by
  refine en_10 (Nat.le_of_ble_eq_true rfl) ?_
  show RU_10 d (0, 0) Post 0 ([(0, .ref k), (1, .int x)]) ([]) (stt σ τ) 0 0
  refine R_seg sg_10_0 sk_10_0 (pc' := 4) (lv' := [(0, .ref k), (1, .int x)]) (st' := [.int (σ k 5)]) (S' := stt σ τ) (kc' := 0) (ks' := 0) rfl ⟨trivial, hk, trivial⟩ ?_
  refine R_if ck_10_4 (fun (c_4 : ¬ (σ k 5) = 0) => ?_) (fun (c_4 : ¬ ¬ (σ k 5) = 0) => ?_)
  · refine R_seg sg_10_19 sk_10_19 (pc' := 20) (lv' := [(0, .ref k), (1, .int x)]) (st' := [.int 0]) (S' := stt σ τ) (kc' := 0) (ks' := 0) rfl ⟨trivial, trivial⟩ ?_
    refine R_iret ck_10_20 rfl rfl ?_
    first | exact h0 (fun q => c_4 q.1) | exact h0 (fun q => absurd c_12 q.2)
  · refine R_seg sg_10_7 sk_10_7 (pc' := 12) (lv' := [(0, .ref k), (1, .int x)]) (st' := [.int (σ k 7), .int x]) (S' := stt σ τ) (kc' := 0) (ks' := 0) rfl ⟨trivial, trivial, hk, trivial⟩ ?_
    refine R_icmp ck_10_12 (fun (c_12 : (σ k 7) ≤ x) => ?_) (fun (c_12 : ¬ (σ k 7) ≤ x) => ?_)
    · refine R_seg sg_10_19 sk_10_19 (pc' := 20) (lv' := [(0, .ref k), (1, .int x)]) (st' := [.int 0]) (S' := stt σ τ) (kc' := 0) (ks' := 0) rfl ⟨trivial, trivial⟩ ?_
      refine R_iret ck_10_20 rfl rfl ?_
      first | exact h0 (fun q => c_4 q.1) | exact h0 (fun q => absurd c_12 q.2)
    · refine R_seg sg_10_15 sk_10_15 (pc' := 16) (lv' := [(0, .ref k), (1, .int x)]) (st' := [.int 1]) (S' := stt σ τ) (kc' := 0) (ks' := 0) rfl ⟨trivial, trivial⟩ ?_
      refine R_goto ck_10_16 ?_
      refine R_iret ck_10_20 rfl rfl ?_
      exact h1 (Classical.not_not.mp (by assumption)) (by assumption)
set_option maxRecDepth 20000 in
theorem x_76 {d : Nat} {σ : Nat → Nat → Int32} {τ : Nat → Nat → Int64} {x1 x2 : Int32} {Post : Option Value → Sto → Prop} (hf : ¬ rg x1 0 4 → Post (some (.int (-1))) (stt σ τ)) (h0 : ∀ h : Nat, h < 5 → x1 = nI h → x2 = 0 → ¬ σ (11 + h) 5 = 0 → Post (some (.int 0)) (stt σ τ)) (h01 : ∀ h : Nat, h < 5 → x1 = nI h → x2 = 0 → σ (11 + h) 5 = 0 → ¬ σ (11 + h) 7 ≤ σ 1 4 → Post (some (.int 1)) (stt σ τ)) (h02 : ∀ h : Nat, h < 5 → x1 = nI h → x2 = 0 → σ (11 + h) 5 = 0 → ¬ ¬ σ (11 + h) 7 ≤ σ 1 4 → Post (some (.int 2)) (stt σ τ)) (h1 : ∀ h : Nat, h < 5 → x1 = nI h → x2 = 1 → Post (some (.int (σ (11 + h) 6))) (stt σ τ)) (h2 : ∀ h : Nat, h < 5 → x1 = nI h → x2 = 2 → σ (11 + h) 5 = 0 → Post (some (.int (σ (11 + h) 7))) (stt σ τ)) (h2n : ∀ h : Nat, h < 5 → x1 = nI h → x2 = 2 → ¬ σ (11 + h) 5 = 0 → Post (some (.int (-1))) (stt σ τ)) (hd : (x2.toInt < 0 ∨ 2 < x2.toInt) → Post (some (.int (-1))) (stt σ τ)) : Ex (d + 2) 76 [.ref 0, .int x1, .int x2] (stt σ τ) 0 0 Post := by
  refine en_76 (Nat.le_of_ble_eq_true rfl) ?_
  show RU_76 (d + 1) (0, 0) Post 0 ([(0, .ref 0), (1, .int x1), (2, .int x2)]) ([]) (stt σ τ) 0 0
  refine R_seg sg_76_0 sk_76_0 (pc' := 3) (lv' := [(0, .ref 0), (1, .int x1), (2, .int x2)]) (st' := [.int 4, .int 0, .int x1]) (S' := stt σ τ) (kc' := 0) (ks' := 0) rfl ⟨trivial, trivial, trivial, trivial⟩ ?_
  refine R_stat ck_76_3 (by decide) [.int x1, .int 0, .int 4] 0 0 (r := []) rfl rfl (Nat.le_of_ble_eq_true rfl) (Nat.le_refl _) (Nat.le_refl _) ?_
  refine xn_57 (d := d) 0 4 (by omega) (by omega) (fun h l_h u_h e_h => ?_) (fun n_h => ?_)
  · subst e_h
    show RU_76 (d + 1) (0, 0) Post 6 ([(0, .ref 0), (1, .int (nI h)), (2, .int x2)]) ([.int 1]) (stt σ τ) 0 0
    refine R_if ck_76_6 (fun _ => ?_) (fun c => absurd (show ¬ (1 : Int32) = 0 from by decide) c)
    refine R_seg sg_76_11 sk_76_11 (pc' := 19) (lv' := [(0, .ref 0), (1, .int (nI h)), (2, .int x2)]) (st' := [.int (nI h), .ref 7]) (S' := stt σ τ) (kc' := 0) (ks' := 0) rfl ⟨trivial, rfl, rfl, trivial, trivial⟩ ?_
    refine R_aald ca_76_19 (j := h) (k' := 11 + h) rfl rfl (by omega) (rh_each (by omega)) ?_
    refine R_seg sg_76_20 sk_76_20 (pc' := 22) (lv' := [(3, .ref (11 + h)), (0, .ref 0), (1, .int (nI h)), (2, .int x2)]) (st' := [.int x2]) (S' := stt σ τ) (kc' := 0) (ks' := 0) rfl ⟨(by decide), trivial, trivial⟩ ?_
    by_cases w_0 : x2 = 0
    · rw [w_0]
      refine R_tsw ck_76_22 48 rfl ?_
      refine R_seg sg_76_48 sk_76_48 (pc' := 52) (lv' := [(3, .ref (11 + h)), (0, .ref 0), (1, .int (nI h)), (2, .int 0)]) (st' := [.int (σ (11 + h) 5)]) (S' := stt σ τ) (kc' := 0) (ks' := 0) rfl ⟨trivial, (kd_help (by omega)), trivial⟩ ?_
      refine R_if ck_76_52 (fun (c_52 : (σ (11 + h) 5) = 0) => ?_) (fun (c_52 : ¬ (σ (11 + h) 5) = 0) => ?_)
      · refine R_seg sg_76_57 sk_76_57 (pc' := 65) (lv' := [(3, .ref (11 + h)), (0, .ref 0), (1, .int (nI h)), (2, .int 0)]) (st' := [.int (σ 1 4), .ref (11 + h)]) (S' := stt σ τ) (kc' := 0) (ks' := 0) rfl ⟨trivial, trivial, rfl, rfl, trivial⟩ ?_
        refine R_virt ck_76_65 (11 + h) [.int (σ 1 4)] 0 0 (r := []) rfl rfl (kd_help (by omega)) (Nat.le_of_ble_eq_true rfl) (Nat.le_refl _) (Nat.le_refl _) ?_
        refine x_10 (d := d) (kd_help (by omega)) (fun o_1 o_2 => ?_) (fun o_n => ?_)
        · show RU_76 (d + 1) (0, 0) Post 68 ([(3, .ref (11 + h)), (0, .ref 0), (1, .int (nI h)), (2, .int 0)]) ([.int 1]) (stt σ τ) 0 0
          refine R_if ck_76_68 (fun c => absurd c (show ¬ (1 : Int32) = 0 from by decide)) (fun _ => ?_)
          refine R_seg sg_76_71 sk_76_71 (pc' := 72) (lv' := [(3, .ref (11 + h)), (0, .ref 0), (1, .int (nI h)), (2, .int 0)]) (st' := [.int 1]) (S' := stt σ τ) (kc' := 0) (ks' := 0) rfl ⟨trivial, trivial⟩ ?_
          refine R_goto ck_76_72 ?_
          refine R_iret ck_76_76 rfl rfl ?_
          exact h01 h (by omega) rfl w_0 o_1 o_2
        · show RU_76 (d + 1) (0, 0) Post 68 ([(3, .ref (11 + h)), (0, .ref 0), (1, .int (nI h)), (2, .int 0)]) ([.int 0]) (stt σ τ) 0 0
          refine R_if ck_76_68 (fun _ => ?_) (fun c => absurd (show (0 : Int32) = 0 from by decide) c)
          refine R_seg sg_76_75 sk_76_75 (pc' := 76) (lv' := [(3, .ref (11 + h)), (0, .ref 0), (1, .int (nI h)), (2, .int 0)]) (st' := [.int 2]) (S' := stt σ τ) (kc' := 0) (ks' := 0) rfl ⟨trivial, trivial⟩ ?_
          refine R_iret ck_76_76 rfl rfl ?_
          exact h02 h (by omega) rfl w_0 (by assumption) (fun q => o_n ⟨by assumption, q⟩)
      · refine R_seg sg_76_55 sk_76_55 (pc' := 56) (lv' := [(3, .ref (11 + h)), (0, .ref 0), (1, .int (nI h)), (2, .int 0)]) (st' := [.int 0]) (S' := stt σ τ) (kc' := 0) (ks' := 0) rfl ⟨trivial, trivial⟩ ?_
        refine R_iret ck_76_56 rfl rfl ?_
        exact h0 h (by omega) rfl w_0 (by assumption)
    by_cases w_1 : x2 = 1
    · rw [w_1]
      refine R_tsw ck_76_22 77 rfl ?_
      refine R_seg sg_76_77 sk_76_77 (pc' := 81) (lv' := [(3, .ref (11 + h)), (0, .ref 0), (1, .int (nI h)), (2, .int 1)]) (st' := [.int (σ (11 + h) 6)]) (S' := stt σ τ) (kc' := 0) (ks' := 0) rfl ⟨trivial, (kd_help (by omega)), trivial⟩ ?_
      refine R_iret ck_76_81 rfl rfl ?_
      exact h1 h (by omega) rfl w_1
    by_cases w_2 : x2 = 2
    · rw [w_2]
      refine R_tsw ck_76_22 82 rfl ?_
      refine R_seg sg_76_82 sk_76_82 (pc' := 86) (lv' := [(3, .ref (11 + h)), (0, .ref 0), (1, .int (nI h)), (2, .int 2)]) (st' := [.int (σ (11 + h) 5)]) (S' := stt σ τ) (kc' := 0) (ks' := 0) rfl ⟨trivial, (kd_help (by omega)), trivial⟩ ?_
      refine R_if ck_76_86 (fun (c_86 : (σ (11 + h) 5) = 0) => ?_) (fun (c_86 : ¬ (σ (11 + h) 5) = 0) => ?_)
      · refine R_seg sg_76_93 sk_76_93 (pc' := 97) (lv' := [(3, .ref (11 + h)), (0, .ref 0), (1, .int (nI h)), (2, .int 2)]) (st' := [.int (σ (11 + h) 7)]) (S' := stt σ τ) (kc' := 0) (ks' := 0) rfl ⟨trivial, (kd_help (by omega)), trivial⟩ ?_
        refine R_iret ck_76_97 rfl rfl ?_
        exact h2 h (by omega) rfl w_2 (by assumption)
      · refine R_seg sg_76_89 sk_76_89 (pc' := 90) (lv' := [(3, .ref (11 + h)), (0, .ref 0), (1, .int (nI h)), (2, .int 2)]) (st' := [.int (-1)]) (S' := stt σ τ) (kc' := 0) (ks' := 0) rfl ⟨trivial, trivial⟩ ?_
        refine R_goto ck_76_90 ?_
        refine R_iret ck_76_97 rfl rfl ?_
        exact h2n h (by omega) rfl w_2 (by assumption)
    have w_o : x2.toInt < 0 ∨ 2 < x2.toInt := sw_out (n := 2) (by decide) (fun j hj => by rcases (show j = 0 ∨ j = 1 ∨ j = 2 by omega) with rfl | rfl | rfl <;> assumption)
    refine R_tsw ck_76_22 98 (by simp only [swT]; rw [if_pos w_o]; rfl) ?_
    refine R_seg sg_76_98 sk_76_98 (pc' := 99) (lv' := [(3, .ref (11 + h)), (0, .ref 0), (1, .int (nI h)), (2, .int x2)]) (st' := [.int (-1)]) (S' := stt σ τ) (kc' := 0) (ks' := 0) rfl ⟨trivial, trivial⟩ ?_
    refine R_iret ck_76_99 rfl rfl ?_
    exact hd w_o
  · show RU_76 (d + 1) (0, 0) Post 6 ([(0, .ref 0), (1, .int x1), (2, .int x2)]) ([.int 0]) (stt σ τ) 0 0
    refine R_if ck_76_6 (fun c => absurd c (show ¬ ¬ (0 : Int32) = 0 from by decide)) (fun _ => ?_)
    refine R_seg sg_76_9 sk_76_9 (pc' := 10) (lv' := [(0, .ref 0), (1, .int x1), (2, .int x2)]) (st' := [.int (-1)]) (S' := stt σ τ) (kc' := 0) (ks' := 0) rfl ⟨trivial, trivial⟩ ?_
    refine R_iret ck_76_10 rfl rfl ?_
    exact hf n_h
set_option maxRecDepth 20000 in
theorem x_77 {d : Nat} {σ : Nat → Nat → Int32} {τ : Nat → Nat → Int64} {x1 x2 : Int32} {Post : Option Value → Sto → Prop} (hf : ¬ (rg x1 0 5 ∧ rg x2 0 31) → Post (some (.int (-1))) (stt σ τ)) (h1 : ∀ t k : Nat, t < 6 → k < 32 → x1 = nI t → x2 = nI k → ¬ σ 25 (t * 32 + k) ≤ σ 1 4 → Post (some (.int (σ 25 (t * 32 + k)))) (stt σ τ)) (h0 : ∀ t k : Nat, t < 6 → k < 32 → x1 = nI t → x2 = nI k → σ 25 (t * 32 + k) ≤ σ 1 4 → Post (some (.int (-1))) (stt σ τ)) : Ex (d + 3) 77 [.ref 0, .int x1, .int x2] (stt σ τ) 0 0 Post := by
  refine en_77 (Nat.le_of_ble_eq_true rfl) ?_
  show RU_77 (d + 2) (0, 0) Post 0 ([(0, .ref 0), (1, .int x1), (2, .int x2)]) ([]) (stt σ τ) 0 0
  refine R_seg sg_77_0 sk_77_0 (pc' := 2) (lv' := [(0, .ref 0), (1, .int x1), (2, .int x2)]) (st' := [.int x2, .int x1]) (S' := stt σ τ) (kc' := 0) (ks' := 0) rfl ⟨trivial, trivial, trivial⟩ ?_
  refine R_stat ck_77_2 (by decide) [.int x1, .int x2] 0 0 (r := []) rfl rfl (Nat.le_of_ble_eq_true rfl) (Nat.le_refl _) (Nat.le_refl _) ?_
  refine x_62 (d := d) (fun t k b_t b_k e_t e_k => ?_) (fun n_tk => ?_)
  · subst e_t; subst e_k
    show RU_77 (d + 2) (0, 0) Post 5 ([(0, .ref 0), (1, .int (nI t)), (2, .int (nI k))]) ([.int 1]) (stt σ τ) 0 0
    refine R_if ck_77_5 (fun _ => ?_) (fun c => absurd (show ¬ (1 : Int32) = 0 from by decide) c)
    refine R_seg sg_77_10 sk_77_10 (pc' := 25) (lv' := [(3, .int (((nI t) * 32) + (nI k))), (0, .ref 0), (1, .int (nI t)), (2, .int (nI k))]) (st' := [.int (((nI t) * 32) + (nI k)), .ref 25]) (S' := stt σ τ) (kc' := 0) (ks' := 0) rfl ⟨trivial, trivial, trivial, trivial, trivial, (by decide), trivial, rfl, rfl, trivial, trivial⟩ ?_
    refine R_iald ca_77_25 (j := (t * 32) + k) rfl (by simp only [nl_0, nl_1, nl_2, nl_3, nl_4, nl_5, nl_6, nl_8, nl_20, nl_31, nl_32, pk_mul, nI_add]) (by omega) ?_
    refine R_seg sg_77_26 sk_77_26 (pc' := 33) (lv' := [(3, .int (((nI t) * 32) + (nI k))), (0, .ref 0), (1, .int (nI t)), (2, .int (nI k))]) (st' := [.int (σ 1 4), .int (σ 25 ((t * 32) + k))]) (S' := stt σ τ) (kc' := 0) (ks' := 0) rfl ⟨trivial, rfl, rfl, trivial⟩ ?_
    refine R_icmp ck_77_33 (fun (c_33 : (σ 25 ((t * 32) + k)) ≤ (σ 1 4)) => ?_) (fun (c_33 : ¬ (σ 25 ((t * 32) + k)) ≤ (σ 1 4)) => ?_)
    · refine R_seg sg_77_48 sk_77_48 (pc' := 49) (lv' := [(3, .int (((nI t) * 32) + (nI k))), (0, .ref 0), (1, .int (nI t)), (2, .int (nI k))]) (st' := [.int (-1)]) (S' := stt σ τ) (kc' := 0) (ks' := 0) rfl ⟨trivial, trivial⟩ ?_
      refine R_iret ck_77_49 rfl rfl ?_
      exact h0 t k (by omega) (by omega) rfl rfl (by assumption)
    · refine R_seg sg_77_36 sk_77_36 (pc' := 44) (lv' := [(3, .int (((nI t) * 32) + (nI k))), (0, .ref 0), (1, .int (nI t)), (2, .int (nI k))]) (st' := [.int (((nI t) * 32) + (nI k)), .ref 25]) (S' := stt σ τ) (kc' := 0) (ks' := 0) rfl ⟨trivial, rfl, rfl, trivial, trivial⟩ ?_
      refine R_iald ca_77_44 (j := (t * 32) + k) rfl (by simp only [nl_0, nl_1, nl_2, nl_3, nl_4, nl_5, nl_6, nl_8, nl_20, nl_31, nl_32, pk_mul, nI_add]) (by omega) ?_
      refine R_goto ck_77_45 ?_
      refine R_iret ck_77_49 rfl rfl ?_
      exact h1 t k (by omega) (by omega) rfl rfl (by assumption)
  · show RU_77 (d + 2) (0, 0) Post 5 ([(0, .ref 0), (1, .int x1), (2, .int x2)]) ([.int 0]) (stt σ τ) 0 0
    refine R_if ck_77_5 (fun c => absurd c (show ¬ ¬ (0 : Int32) = 0 from by decide)) (fun _ => ?_)
    refine R_seg sg_77_8 sk_77_8 (pc' := 9) (lv' := [(0, .ref 0), (1, .int x1), (2, .int x2)]) (st' := [.int (-1)]) (S' := stt σ τ) (kc' := 0) (ks' := 0) rfl ⟨trivial, trivial⟩ ?_
    refine R_iret ck_77_9 rfl rfl ?_
    exact hf n_tk
set_option maxRecDepth 20000 in
theorem l_37 {d : Nat} {σ : Nat → Nat → Int32} {τ : Nat → Nat → Int64} {Post : Option Value → Sto → Prop} (hp : Post (some (.int (nI (cntP (fun j => rg (σ 51 j) 1 5) 192)))) (stt σ τ)) : ∀ (n : Nat) (i : Nat), i ≤ 192 → 192 - i < n → RU_37 (d + 1) (0, 0) Post 4 [(2, .int (nI i)), (1, .int (nI (cntP (fun j => rg (σ 51 j) 1 5) i))), (0, .ref 50)] [] (stt σ τ) 0 0 := by
  intro n
  induction n with
  | zero => intro i h1 h2; exact absurd h2 (by omega)
  | succ n ih =>
    intro i h1 h2
    have hcl := cntP_le (fun j => rg (σ 51 j) 1 5) i
    refine R_seg sg_37_4 sk_37_4 (pc' := 8) (lv' := [(2, .int (nI i)), (1, .int (nI (cntP (fun j => rg (σ 51 j) 1 5) i))), (0, .ref 50)]) (st' := [.int 192, .int (nI i)]) (S' := stt σ τ) (kc' := 0) (ks' := 0) rfl ⟨trivial, trivial, trivial⟩ ?_
    refine R_icmp ck_37_8 (fun (c_8 : 192 ≤ (nI i)) => ?_) (fun (c_8 : ¬ 192 ≤ (nI i)) => ?_)
    · have c_8 : 192 ≤ i := (nI_leI (a := 192) (b := i) (by omega) (by omega)).mp c_8
      refine R_seg sg_37_34 sk_37_34 (pc' := 35) (lv' := [(2, .int (nI i)), (1, .int (nI (cntP (fun j => rg (σ 51 j) 1 5) i))), (0, .ref 50)]) (st' := [.int (nI (cntP (fun j => rg (σ 51 j) 1 5) i))]) (S' := stt σ τ) (kc' := 0) (ks' := 0) rfl ⟨trivial, trivial⟩ ?_
      refine R_iret ck_37_35 rfl rfl ?_
      have e : i = 192 := by omega
      subst e
      exact hp
    · have c_8 : i < 192 := Nat.not_le.mp (fun q => c_8 ((nI_leI (a := 192) (b := i) (by omega) (by omega)).mpr q))
      refine R_seg sg_37_11 sk_37_11 (pc' := 16) (lv' := [(2, .int (nI i)), (1, .int (nI (cntP (fun j => rg (σ 51 j) 1 5) i))), (0, .ref 50)]) (st' := [.int (nI i), .ref 51]) (S' := stt σ τ) (kc' := 0) (ks' := 0) rfl ⟨trivial, rfl, trivial, trivial⟩ ?_
      refine R_iald ca_37_16 (j := i) rfl rfl (by omega) ?_
      refine R_seg sg_37_17 sk_37_17 (pc' := 19) (lv' := [(2, .int (nI i)), (1, .int (nI (cntP (fun j => rg (σ 51 j) 1 5) i))), (0, .ref 50)]) (st' := [.int 5, .int 1, .int (σ 51 i)]) (S' := stt σ τ) (kc' := 0) (ks' := 0) rfl ⟨trivial, trivial, trivial⟩ ?_
      refine R_stat ck_37_19 (by decide) [.int (σ 51 i), .int 1, .int 5] 0 0 (r := []) rfl rfl (Nat.le_of_ble_eq_true rfl) (Nat.le_refl _) (Nat.le_refl _) ?_
      refine xn_57 (d := d) 1 5 (by decide) (by decide) (fun j l_j u_j e_j => ?_) (fun n_j => ?_)
      · show RU_37 (d + 1) (0, 0) Post 22 ([(2, .int (nI i)), (1, .int (nI (cntP (fun j => rg (σ 51 j) 1 5) i))), (0, .ref 50)]) ([.int 1]) (stt σ τ) 0 0
        refine R_if ck_37_22 (fun c => absurd c (show ¬ (1 : Int32) = 0 from by decide)) (fun _ => ?_)
        refine R_seg sg_37_25 sk_37_25 (pc' := 28) (lv' := [(1, .int ((nI (cntP (fun j => rg (σ 51 j) 1 5) i)) + 1)), (2, .int (nI i)), (0, .ref 50)]) (st' := []) (S' := stt σ τ) (kc' := 0) (ks' := 0) rfl ⟨(by decide), trivial⟩ ?_
        refine R_seg sg_37_28 sk_37_28 (pc' := 31) (lv' := [(2, .int ((nI i) + 1)), (1, .int ((nI (cntP (fun j => rg (σ 51 j) 1 5) i)) + 1)), (0, .ref 50)]) (st' := []) (S' := stt σ τ) (kc' := 0) (ks' := 0) rfl ⟨(by decide), trivial⟩ ?_
        refine R_goto ck_37_31 ?_
        have e : cntP (fun j => rg (σ 51 j) 1 5) (i + 1) = cntP (fun j => rg (σ 51 j) 1 5) i + 1 := cntP_t ⟨j, l_j, u_j, e_j⟩
        rw [nI_1, nI_1, ← e]
        exact ih (i + 1) (by omega) (by omega)
      · show RU_37 (d + 1) (0, 0) Post 22 ([(2, .int (nI i)), (1, .int (nI (cntP (fun j => rg (σ 51 j) 1 5) i))), (0, .ref 50)]) ([.int 0]) (stt σ τ) 0 0
        refine R_if ck_37_22 (fun _ => ?_) (fun c => absurd (show (0 : Int32) = 0 from by decide) c)
        refine R_seg sg_37_28 sk_37_28 (pc' := 31) (lv' := [(2, .int ((nI i) + 1)), (1, .int (nI (cntP (fun j => rg (σ 51 j) 1 5) i))), (0, .ref 50)]) (st' := []) (S' := stt σ τ) (kc' := 0) (ks' := 0) rfl ⟨(by decide), trivial⟩ ?_
        refine R_goto ck_37_31 ?_
        have e : cntP (fun j => rg (σ 51 j) 1 5) (i + 1) = cntP (fun j => rg (σ 51 j) 1 5) i := cntP_f n_j
        rw [nI_1, ← e]
        exact ih (i + 1) (by omega) (by omega)
set_option maxRecDepth 20000 in
theorem x_37 {d : Nat} {σ : Nat → Nat → Int32} {τ : Nat → Nat → Int64} {Post : Option Value → Sto → Prop} (hp : Post (some (.int (nI (cntP (fun j => rg (σ 51 j) 1 5) 192)))) (stt σ τ)) : Ex (d + 2) 37 [.ref 50] (stt σ τ) 0 0 Post := by
  refine en_37 (Nat.le_of_ble_eq_true rfl) ?_
  show RU_37 (d + 1) (0, 0) Post 0 ([(0, .ref 50)]) ([]) (stt σ τ) 0 0
  refine R_seg sg_37_0 sk_37_0 (pc' := 4) (lv' := [(2, .int 0), (1, .int 0), (0, .ref 50)]) (st' := []) (S' := stt σ τ) (kc' := 0) (ks' := 0) rfl ⟨trivial, (by decide), trivial, (by decide), trivial⟩ ?_
  exact l_37 hp 193 0 (by omega) (by omega)
set_option maxRecDepth 20000 in
theorem x_78 {d : Nat} {σ : Nat → Nat → Int32} {τ : Nat → Nat → Int64} {x1 : Int32} {Post : Option Value → Sto → Prop} (h0 : x1 = 0 → Post (some (.int (σ 1 4))) (stt σ τ)) (h1 : x1 = 1 → Post (some (.int (σ 30 1))) (stt σ τ)) (h2 : x1 = 2 → Post (some (.int (σ 42 5))) (stt σ τ)) (h3 : x1 = 3 → Post (some (.int (σ 55 1))) (stt σ τ)) (h4 : x1 = 4 → Post (some (.int (σ 50 1))) (stt σ τ)) (h5 : x1 = 5 → Post (some (.int (nI (cntP (fun j => rg (σ 51 j) 1 5) 192)))) (stt σ τ)) (h6 : x1 = 6 → Post (some (.int (σ 6 1))) (stt σ τ)) (ha : ∀ a : Nat, 10 ≤ a → a ≤ 13 → x1 = nI a → Post (some (.int (σ 5 (a - 10)))) (stt σ τ)) (hd : ¬ rg x1 10 13 → (x1.toInt < 0 ∨ 6 < x1.toInt) → Post (some (.int (-1))) (stt σ τ)) : Ex (d + 3) 78 [.ref 0, .int x1] (stt σ τ) 0 0 Post := by
  refine en_78 (Nat.le_of_ble_eq_true rfl) ?_
  show RU_78 (d + 2) (0, 0) Post 0 ([(0, .ref 0), (1, .int x1)]) ([]) (stt σ τ) 0 0
  refine R_seg sg_78_0 sk_78_0 (pc' := 1) (lv' := [(0, .ref 0), (1, .int x1)]) (st' := [.int x1]) (S' := stt σ τ) (kc' := 0) (ks' := 0) rfl ⟨trivial, trivial⟩ ?_
  by_cases w_0 : x1 = 0
  · rw [w_0]
    refine R_tsw ck_78_1 44 rfl ?_
    refine R_seg sg_78_44 sk_78_44 (pc' := 51) (lv' := [(0, .ref 0), (1, .int 0)]) (st' := [.int (σ 1 4)]) (S' := stt σ τ) (kc' := 0) (ks' := 0) rfl ⟨trivial, rfl, rfl, trivial⟩ ?_
    refine R_iret ck_78_51 rfl rfl ?_
    exact h0 w_0
  by_cases w_1 : x1 = 1
  · rw [w_1]
    refine R_tsw ck_78_1 52 rfl ?_
    refine R_seg sg_78_52 sk_78_52 (pc' := 59) (lv' := [(0, .ref 0), (1, .int 1)]) (st' := [.int (σ 30 1)]) (S' := stt σ τ) (kc' := 0) (ks' := 0) rfl ⟨trivial, rfl, rfl, trivial⟩ ?_
    refine R_iret ck_78_59 rfl rfl ?_
    exact h1 w_1
  by_cases w_2 : x1 = 2
  · rw [w_2]
    refine R_tsw ck_78_1 60 rfl ?_
    refine R_seg sg_78_60 sk_78_60 (pc' := 67) (lv' := [(0, .ref 0), (1, .int 2)]) (st' := [.int (σ 42 5)]) (S' := stt σ τ) (kc' := 0) (ks' := 0) rfl ⟨trivial, rfl, rfl, trivial⟩ ?_
    refine R_iret ck_78_67 rfl rfl ?_
    exact h2 w_2
  by_cases w_3 : x1 = 3
  · rw [w_3]
    refine R_tsw ck_78_1 68 rfl ?_
    refine R_seg sg_78_68 sk_78_68 (pc' := 75) (lv' := [(0, .ref 0), (1, .int 3)]) (st' := [.int (σ 55 1)]) (S' := stt σ τ) (kc' := 0) (ks' := 0) rfl ⟨trivial, rfl, rfl, trivial⟩ ?_
    refine R_iret ck_78_75 rfl rfl ?_
    exact h3 w_3
  by_cases w_4 : x1 = 4
  · rw [w_4]
    refine R_tsw ck_78_1 76 rfl ?_
    refine R_seg sg_78_76 sk_78_76 (pc' := 83) (lv' := [(0, .ref 0), (1, .int 4)]) (st' := [.int (σ 50 1)]) (S' := stt σ τ) (kc' := 0) (ks' := 0) rfl ⟨trivial, rfl, rfl, trivial⟩ ?_
    refine R_iret ck_78_83 rfl rfl ?_
    exact h4 w_4
  by_cases w_5 : x1 = 5
  · rw [w_5]
    refine R_tsw ck_78_1 84 rfl ?_
    refine R_seg sg_78_84 sk_78_84 (pc' := 88) (lv' := [(0, .ref 0), (1, .int 5)]) (st' := [.ref 50]) (S' := stt σ τ) (kc' := 0) (ks' := 0) rfl ⟨trivial, rfl, trivial⟩ ?_
    refine R_virt ck_78_88 50 [] 0 0 (r := []) rfl rfl rfl (Nat.le_of_ble_eq_true rfl) (Nat.le_refl _) (Nat.le_refl _) ?_
    refine x_37 (d := d) ?_
    show RU_78 (d + 2) (0, 0) Post 91 ([(0, .ref 0), (1, .int 5)]) ([.int (nI (cntP (fun j => rg (σ 51 j) 1 5) 192))]) (stt σ τ) 0 0
    refine R_iret ck_78_91 rfl rfl ?_
    exact h5 w_5
  by_cases w_6 : x1 = 6
  · rw [w_6]
    refine R_tsw ck_78_1 92 rfl ?_
    refine R_seg sg_78_92 sk_78_92 (pc' := 99) (lv' := [(0, .ref 0), (1, .int 6)]) (st' := [.int (σ 6 1)]) (S' := stt σ τ) (kc' := 0) (ks' := 0) rfl ⟨trivial, rfl, rfl, trivial⟩ ?_
    refine R_iret ck_78_99 rfl rfl ?_
    exact h6 w_6
  have w_o : x1.toInt < 0 ∨ 6 < x1.toInt := sw_out (n := 6) (by decide) (fun j hj => by rcases (show j = 0 ∨ j = 1 ∨ j = 2 ∨ j = 3 ∨ j = 4 ∨ j = 5 ∨ j = 6 by omega) with rfl | rfl | rfl | rfl | rfl | rfl | rfl <;> assumption)
  refine R_tsw ck_78_1 100 (by simp only [swT]; rw [if_pos w_o]; rfl) ?_
  refine R_seg sg_78_100 sk_78_100 (pc' := 105) (lv' := [(0, .ref 0), (1, .int x1)]) (st' := [.int 13, .int 10, .int x1]) (S' := stt σ τ) (kc' := 0) (ks' := 0) rfl ⟨trivial, trivial, trivial, trivial⟩ ?_
  refine R_stat ck_78_105 (by decide) [.int x1, .int 10, .int 13] 0 0 (r := []) rfl rfl (Nat.le_of_ble_eq_true rfl) (Nat.le_refl _) (Nat.le_refl _) ?_
  refine xn_57 (d := d + 1) 10 13 (by omega) (by omega) (fun a l_a u_a e_a => ?_) (fun n_a => ?_)
  · subst e_a
    show RU_78 (d + 2) (0, 0) Post 108 ([(0, .ref 0), (1, .int (nI a))]) ([.int 1]) (stt σ τ) 0 0
    refine R_if ck_78_108 (fun c => absurd c (show ¬ (1 : Int32) = 0 from by decide)) (fun _ => ?_)
    refine R_seg sg_78_111 sk_78_111 (pc' := 122) (lv' := [(0, .ref 0), (1, .int (nI a))]) (st' := [.int ((nI a) - 10), .ref 5]) (S' := stt σ τ) (kc' := 0) (ks' := 0) rfl ⟨trivial, rfl, rfl, trivial, trivial, trivial, trivial⟩ ?_
    refine R_iald ca_78_122 (j := a - 10) rfl (by rw [nk_10, pk_sub (by omega)]) (by omega) ?_
    refine R_goto ck_78_123 ?_
    refine R_iret ck_78_127 rfl rfl ?_
    exact ha a (by omega) (by omega) rfl
  · show RU_78 (d + 2) (0, 0) Post 108 ([(0, .ref 0), (1, .int x1)]) ([.int 0]) (stt σ τ) 0 0
    refine R_if ck_78_108 (fun _ => ?_) (fun c => absurd (show (0 : Int32) = 0 from by decide) c)
    refine R_seg sg_78_126 sk_78_126 (pc' := 127) (lv' := [(0, .ref 0), (1, .int x1)]) (st' := [.int (-1)]) (S' := stt σ τ) (kc' := 0) (ks' := 0) rfl ⟨trivial, trivial⟩ ?_
    refine R_iret ck_78_127 rfl rfl ?_
    exact hd (fun q => n_a q) w_o
