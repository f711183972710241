/-! ===== thing and pass, their refusals bounded ===== -/
set_option maxRecDepth 20000 in
theorem y_61 {d : Nat} {σ : Nat → Nat → Int32} {τ : Nat → Nat → Int64} {x1 x2 x3 : Int32} (hb : x3 = 0 ∨ x3 = 1) {Post : Option Value → Sto → Prop} (hs : ∀ t k : Nat, t < 6 → k < 32 → x1 = nI t → x2 = nI k → ¬ σ 24 (t * 32 + k) = x3 → Post (some (.int 1)) (stt (c_thing σ (t * 32 + k) x3) τ)) (hf : ¬ (rg x1 0 5 ∧ rg x2 0 31 ∧ ∀ t k : Nat, t < 6 → k < 32 → x1 = nI t → x2 = nI k → ¬ σ 24 (t * 32 + k) = x3) → Post (some (.int 0)) (stt σ τ)) : Ex (d + 3) 61 [.ref 0, .int x1, .int x2, .int x3] (stt σ τ) 0 0 Post := by
  refine en_61 (Nat.le_of_ble_eq_true rfl) ?_
  show RU_61 (d + 2) (0, 0) Post 0 ([(0, .ref 0), (1, .int x1), (2, .int x2), (3, .int x3)]) ([]) (stt σ τ) 0 0
  refine R_seg sg_61_0 sk_61_0 (pc' := 2) (lv' := [(0, .ref 0), (1, .int x1), (2, .int x2), (3, .int x3)]) (st' := [.int x2, .int x1]) (S' := stt σ τ) (kc' := 0) (ks' := 0) rfl ⟨trivial, trivial, trivial⟩ ?_
  refine R_stat ck_61_2 (by decide) [.int x1, .int x2] 0 0 (r := []) rfl rfl (Nat.le_of_ble_eq_true rfl) (Nat.le_refl _) (Nat.le_refl _) ?_
  refine x_62 (d := d) (fun t k b_t b_k e_t e_k => ?_) (fun n_tk => ?_)
  · subst e_t; subst e_k
    show RU_61 (d + 2) (0, 0) Post 5 ([(0, .ref 0), (1, .int (nI t)), (2, .int (nI k)), (3, .int x3)]) ([.int 1]) (stt σ τ) 0 0
    refine R_if ck_61_5 (fun _ => ?_) (fun c => absurd (show ¬ (1 : Int32) = 0 from by decide) c)
    refine R_seg sg_61_10 sk_61_10 (pc' := 27) (lv' := [(4, .int (((nI t) * 32) + (nI k))), (0, .ref 0), (1, .int (nI t)), (2, .int (nI k)), (3, .int x3)]) (st' := [.int (((nI t) * 32) + (nI k)), .ref 24]) (S' := stt σ τ) (kc' := 0) (ks' := 0) rfl ⟨trivial, trivial, trivial, trivial, trivial, (by decide), trivial, rfl, rfl, trivial, trivial⟩ ?_
    refine R_bald ca_61_27 (j := (t * 32) + k) rfl (by simp only [nl_0, nl_1, nl_2, nl_3, nl_4, nl_5, nl_6, nl_8, nl_20, nl_31, nl_32, pk_mul, nI_add]) (by omega) ?_
    refine R_seg sg_61_28 sk_61_28 (pc' := 29) (lv' := [(4, .int (((nI t) * 32) + (nI k))), (0, .ref 0), (1, .int (nI t)), (2, .int (nI k)), (3, .int x3)]) (st' := [.int x3, .int (σ 24 ((t * 32) + k))]) (S' := stt σ τ) (kc' := 0) (ks' := 0) rfl ⟨trivial, trivial⟩ ?_
    refine R_icmp ck_61_29 (fun (c_29 : ¬ (σ 24 ((t * 32) + k)) = x3) => ?_) (fun (c_29 : ¬ ¬ (σ 24 ((t * 32) + k)) = x3) => ?_)
    · refine R_seg sg_61_34 sk_61_34 (pc' := 44) (lv' := [(4, .int (((nI t) * 32) + (nI k))), (0, .ref 0), (1, .int (nI t)), (2, .int (nI k)), (3, .int x3)]) (st' := [.int x3, .int (((nI t) * 32) + (nI k)), .ref 24]) (S' := stt σ τ) (kc' := 0) (ks' := 0) rfl ⟨trivial, rfl, rfl, trivial, trivial, trivial⟩ ?_
      refine R_zast ca_61_44 (j := (t * 32) + k) rfl (by simp only [nl_0, nl_1, nl_2, nl_3, nl_4, nl_5, nl_6, nl_8, nl_20, nl_31, nl_32, pk_mul, nI_add]) (by omega) (vz hb) ?_
      refine R_seg sg_61_45 sk_61_45 (pc' := 55) (lv' := [(4, .int (((nI t) * 32) + (nI k))), (0, .ref 0), (1, .int (nI t)), (2, .int (nI k)), (3, .int x3)]) (st' := [.int 0, .int (((nI t) * 32) + (nI k)), .ref 25]) (S' := stt (up2 σ 24 ((t * 32) + k) x3) τ) (kc' := 0) (ks' := 0) rfl ⟨trivial, rfl, rfl, trivial, trivial, trivial⟩ ?_
      refine R_iast ca_61_55 (j := (t * 32) + k) rfl (by simp only [nl_0, nl_1, nl_2, nl_3, nl_4, nl_5, nl_6, nl_8, nl_20, nl_31, nl_32, pk_mul, nI_add]) (by omega) ?_
      refine R_seg sg_61_56 sk_61_56 (pc' := 57) (lv' := [(4, .int (((nI t) * 32) + (nI k))), (0, .ref 0), (1, .int (nI t)), (2, .int (nI k)), (3, .int x3)]) (st' := [.int 1]) (S' := stt (up2 (up2 σ 24 ((t * 32) + k) x3) 25 ((t * 32) + k) 0) τ) (kc' := 0) (ks' := 0) rfl ⟨trivial, trivial⟩ ?_
      refine R_iret ck_61_57 rfl rfl ?_
      exact hs t k (by omega) (by omega) rfl rfl (by assumption)
    · refine R_seg sg_61_32 sk_61_32 (pc' := 33) (lv' := [(4, .int (((nI t) * 32) + (nI k))), (0, .ref 0), (1, .int (nI t)), (2, .int (nI k)), (3, .int x3)]) (st' := [.int 0]) (S' := stt σ τ) (kc' := 0) (ks' := 0) rfl ⟨trivial, trivial⟩ ?_
      refine R_iret ck_61_33 rfl rfl ?_
      exact hf (fun q => by obtain ⟨-, -, h⟩ := q; exact h t k b_t b_k rfl rfl (Classical.not_not.mp (by assumption)))
  · show RU_61 (d + 2) (0, 0) Post 5 ([(0, .ref 0), (1, .int x1), (2, .int x2), (3, .int x3)]) ([.int 0]) (stt σ τ) 0 0
    refine R_if ck_61_5 (fun c => absurd c (show ¬ ¬ (0 : Int32) = 0 from by decide)) (fun _ => ?_)
    refine R_seg sg_61_8 sk_61_8 (pc' := 9) (lv' := [(0, .ref 0), (1, .int x1), (2, .int x2), (3, .int x3)]) (st' := [.int 0]) (S' := stt σ τ) (kc' := 0) (ks' := 0) rfl ⟨trivial, trivial⟩ ?_
    refine R_iret ck_61_9 rfl rfl ?_
    exact hf (fun q => n_tk ⟨q.1, q.2.1⟩)
set_option maxRecDepth 20000 in
theorem y_68 {d : Nat} {σ : Nat → Nat → Int32} {τ : Nat → Nat → Int64} {x1 : Int32} {n : Nat} (hn : σ 1 4 = nI n) (hn2 : n ≤ 100000) {Post : Option Value → Sto → Prop} (hs : ∀ t : Nat, 1 ≤ t → t ≤ 1000 → n + t ≤ 100000 → x1 = nI t → Post (some (.int (c_goBy σ (nI t) 1 4))) (stt (c_goBy σ (nI t)) τ)) (hf : ¬ (rg x1 1 1000 ∧ ∀ t, t ≤ 1000 → x1 = nI t → n + t ≤ 100000) → Post (some (.int (-1))) (stt σ τ)) : Ex (d + 2) 68 [.ref 0, .int x1] (stt σ τ) 0 0 Post := by
  refine en_68 (Nat.le_of_ble_eq_true rfl) ?_
  show RU_68 (d + 1) (0, 0) Post 0 ([(0, .ref 0), (1, .int x1)]) ([]) (stt σ τ) 0 0
  refine R_seg sg_68_0 sk_68_0 (pc' := 5) (lv' := [(0, .ref 0), (1, .int x1)]) (st' := [.int 1000, .int 1, .int x1]) (S' := stt σ τ) (kc' := 0) (ks' := 0) rfl ⟨trivial, trivial, trivial, trivial⟩ ?_
  refine R_stat ck_68_5 (by decide) [.int x1, .int 1, .int 1000] 0 0 (r := []) rfl rfl (Nat.le_of_ble_eq_true rfl) (Nat.le_refl _) (Nat.le_refl _) ?_
  refine xn_57 (d := d) 1 1000 (by omega) (by omega) (fun t l_t u_t e_t => ?_) (fun n_t => ?_)
  · subst e_t
    show RU_68 (d + 1) (0, 0) Post 8 ([(0, .ref 0), (1, .int (nI t))]) ([.int 1]) (stt σ τ) 0 0
    refine R_if ck_68_8 (fun c => absurd c (show ¬ (1 : Int32) = 0 from by decide)) (fun _ => ?_)
    refine R_seg sg_68_11 sk_68_11 (pc' := 22) (lv' := [(0, .ref 0), (1, .int (nI t))]) (st' := [.int 100000, .int ((σ 1 4) + (nI t))]) (S' := stt σ τ) (kc' := 0) (ks' := 0) rfl ⟨trivial, rfl, rfl, trivial, trivial, trivial, trivial⟩ ?_
    rw [hn]
    rw [nI_add]
    refine R_icmp ck_68_22 (fun (c_22 : (nI (n + t)) ≤ 100000) => ?_) (fun (c_22 : ¬ (nI (n + t)) ≤ 100000) => ?_)
    · have c_22 : (n + t) ≤ 100000 := (nI_leI (a := (n + t)) (b := 100000) (by omega) (by omega)).mp c_22
      refine R_seg sg_68_27 sk_68_27 (pc' := 32) (lv' := [(0, .ref 0), (1, .int (nI t))]) (st' := [.int (nI t), .ref 1]) (S' := stt σ τ) (kc' := 0) (ks' := 0) rfl ⟨trivial, rfl, trivial, trivial⟩ ?_
      refine R_virt ck_68_32 1 [.int (nI t)] 0 0 (r := []) rfl rfl rfl (Nat.le_of_ble_eq_true rfl) (Nat.le_refl _) (Nat.le_refl _) ?_
      refine x_7 (d := d) ?_
      show RU_68 (d + 1) (0, 0) Post 35 ([(0, .ref 0), (1, .int (nI t))]) ([]) (stt (c_goBy σ (nI t)) τ) 0 0
      refine R_seg sg_68_35 sk_68_35 (pc' := 42) (lv' := [(0, .ref 0), (1, .int (nI t))]) (st' := [.int ((c_goBy σ (nI t)) 1 4)]) (S' := stt (c_goBy σ (nI t)) τ) (kc' := 0) (ks' := 0) rfl ⟨trivial, rfl, rfl, trivial⟩ ?_
      refine R_iret ck_68_42 rfl rfl ?_
      exact hs t (by omega) (by omega) (by omega) rfl
    · have c_22 : 100000 < (n + t) := Nat.not_le.mp (fun zq => c_22 ((nI_leI (a := (n + t)) (b := 100000) (by omega) (by omega)).mpr zq))
      refine R_seg sg_68_25 sk_68_25 (pc' := 26) (lv' := [(0, .ref 0), (1, .int (nI t))]) (st' := [.int (-1)]) (S' := stt σ τ) (kc' := 0) (ks' := 0) rfl ⟨trivial, trivial⟩ ?_
      refine R_iret ck_68_26 rfl rfl ?_
      first | exact hf (fun q => n_t q.1) | (refine hf (fun q => ?_); have q2 := q.2 t u_t rfl; omega)
  · show RU_68 (d + 1) (0, 0) Post 8 ([(0, .ref 0), (1, .int x1)]) ([.int 0]) (stt σ τ) 0 0
    refine R_if ck_68_8 (fun _ => ?_) (fun c => absurd (show (0 : Int32) = 0 from by decide) c)
    refine R_seg sg_68_25 sk_68_25 (pc' := 26) (lv' := [(0, .ref 0), (1, .int x1)]) (st' := [.int (-1)]) (S' := stt σ τ) (kc' := 0) (ks' := 0) rfl ⟨trivial, trivial⟩ ?_
    refine R_iret ck_68_26 rfl rfl ?_
    first | exact hf (fun q => n_t q.1) | (refine hf (fun q => ?_); have q2 := q.2 t u_t rfl; omega)
set_option maxRecDepth 20000 in
theorem y_85 {d : Nat} {σ : Nat → Nat → Int32} {τ : Nat → Nat → Int64} {x1 x2 x3 : Int32} (hb : x3 = 0 ∨ x3 = 1) {Post : Option Value → Sto → Prop} (hs : ∀ t k : Nat, t < 6 → k < 32 → x1 = nI t → x2 = nI k → ¬ σ 76 (t * 32 + k) = x3 → Post (some (.int 1)) (stt (m_thing σ (t * 32 + k) x3) τ)) (hf : ¬ (rg x1 0 5 ∧ rg x2 0 31 ∧ ∀ t k : Nat, t < 6 → k < 32 → x1 = nI t → x2 = nI k → ¬ σ 76 (t * 32 + k) = x3) → Post (some (.int 0)) (stt σ τ)) : Ex (d + 3) 85 [.ref 57, .int x1, .int x2, .int x3] (stt σ τ) 0 0 Post := by
  refine en_85 (Nat.le_of_ble_eq_true rfl) ?_
  show RU_85 (d + 2) (0, 0) Post 0 ([(0, .ref 57), (1, .int x1), (2, .int x2), (3, .int x3)]) ([]) (stt σ τ) 0 0
  refine R_seg sg_85_0 sk_85_0 (pc' := 2) (lv' := [(0, .ref 57), (1, .int x1), (2, .int x2), (3, .int x3)]) (st' := [.int x2, .int x1]) (S' := stt σ τ) (kc' := 0) (ks' := 0) rfl ⟨trivial, trivial, trivial⟩ ?_
  refine R_stat ck_85_2 (by decide) [.int x1, .int x2] 0 0 (r := []) rfl rfl (Nat.le_of_ble_eq_true rfl) (Nat.le_refl _) (Nat.le_refl _) ?_
  refine x_86 (d := d) (fun t k b_t b_k e_t e_k => ?_) (fun n_tk => ?_)
  · subst e_t; subst e_k
    show RU_85 (d + 2) (0, 0) Post 5 ([(0, .ref 57), (1, .int (nI t)), (2, .int (nI k)), (3, .int x3)]) ([.int 1]) (stt σ τ) 0 0
    refine R_if ck_85_5 (fun c => absurd c (show ¬ (1 : Int32) = 0 from by decide)) (fun _ => ?_)
    refine R_seg sg_85_8 sk_85_8 (pc' := 18) (lv' := [(0, .ref 57), (1, .int (nI t)), (2, .int (nI k)), (3, .int x3)]) (st' := [.int ((32 * (nI t)) + (nI k)), .ref 76]) (S' := stt σ τ) (kc' := 0) (ks' := 0) rfl ⟨trivial, rfl, trivial, trivial, trivial, trivial, trivial, trivial⟩ ?_
    refine R_bald ca_85_18 (j := t * 32 + k) rfl (by first | (simp only [nl_0, nl_1, nl_2, nl_3, nl_4, nl_5, nl_6, nl_8, nl_20, nl_31, nl_32, pk_mul, nI_add]; done) | (simp only [nl_0, nl_1, nl_2, nl_3, nl_4, nl_5, nl_6, nl_8, nl_20, nl_31, nl_32, pk_mul, nI_add]; congr 1; omega)) (by omega) ?_
    refine R_seg sg_85_19 sk_85_19 (pc' := 20) (lv' := [(0, .ref 57), (1, .int (nI t)), (2, .int (nI k)), (3, .int x3)]) (st' := [.int x3, .int (σ 76 (t * 32 + k))]) (S' := stt σ τ) (kc' := 0) (ks' := 0) rfl ⟨trivial, trivial⟩ ?_
    refine R_icmp ck_85_20 (fun (c_20 : ¬ (σ 76 (t * 32 + k)) = x3) => ?_) (fun (c_20 : ¬ ¬ (σ 76 (t * 32 + k)) = x3) => ?_)
    · refine R_seg sg_85_25 sk_85_25 (pc' := 36) (lv' := [(0, .ref 57), (1, .int (nI t)), (2, .int (nI k)), (3, .int x3)]) (st' := [.int x3, .int ((32 * (nI t)) + (nI k)), .ref 76]) (S' := stt σ τ) (kc' := 0) (ks' := 0) rfl ⟨trivial, rfl, trivial, trivial, trivial, trivial, trivial, trivial, trivial⟩ ?_
      refine R_zast ca_85_36 (j := t * 32 + k) rfl (by first | (simp only [nl_0, nl_1, nl_2, nl_3, nl_4, nl_5, nl_6, nl_8, nl_20, nl_31, nl_32, pk_mul, nI_add]; done) | (simp only [nl_0, nl_1, nl_2, nl_3, nl_4, nl_5, nl_6, nl_8, nl_20, nl_31, nl_32, pk_mul, nI_add]; congr 1; omega)) (by omega) (vz hb) ?_
      refine R_seg sg_85_37 sk_85_37 (pc' := 48) (lv' := [(0, .ref 57), (1, .int (nI t)), (2, .int (nI k)), (3, .int x3)]) (st' := [.int (-1), .int ((32 * (nI t)) + (nI k)), .ref 81]) (S' := stt (up2 σ 76 (t * 32 + k) x3) τ) (kc' := 0) (ks' := 0) rfl ⟨trivial, rfl, trivial, trivial, trivial, trivial, trivial, trivial, trivial⟩ ?_
      refine R_iast ca_85_48 (j := t * 32 + k) rfl (by first | (simp only [nl_0, nl_1, nl_2, nl_3, nl_4, nl_5, nl_6, nl_8, nl_20, nl_31, nl_32, pk_mul, nI_add]; done) | (simp only [nl_0, nl_1, nl_2, nl_3, nl_4, nl_5, nl_6, nl_8, nl_20, nl_31, nl_32, pk_mul, nI_add]; congr 1; omega)) (by omega) ?_
      refine R_seg sg_85_49 sk_85_49 (pc' := 50) (lv' := [(0, .ref 57), (1, .int (nI t)), (2, .int (nI k)), (3, .int x3)]) (st' := [.int 1]) (S' := stt (up2 (up2 σ 76 (t * 32 + k) x3) 81 (t * 32 + k) (-1)) τ) (kc' := 0) (ks' := 0) rfl ⟨trivial, trivial⟩ ?_
      refine R_iret ck_85_50 rfl rfl ?_
      exact hs t k (by omega) (by omega) rfl rfl (by assumption)
    · refine R_seg sg_85_23 sk_85_23 (pc' := 24) (lv' := [(0, .ref 57), (1, .int (nI t)), (2, .int (nI k)), (3, .int x3)]) (st' := [.int 0]) (S' := stt σ τ) (kc' := 0) (ks' := 0) rfl ⟨trivial, trivial⟩ ?_
      refine R_iret ck_85_24 rfl rfl ?_
      first | exact hf (fun q => n_tk ⟨q.1, q.2.1⟩) | exact hf (fun q => by obtain ⟨-, -, h⟩ := q; exact h t k b_t b_k rfl rfl (Classical.not_not.mp (by assumption)))
  · show RU_85 (d + 2) (0, 0) Post 5 ([(0, .ref 57), (1, .int x1), (2, .int x2), (3, .int x3)]) ([.int 0]) (stt σ τ) 0 0
    refine R_if ck_85_5 (fun _ => ?_) (fun c => absurd (show (0 : Int32) = 0 from by decide) c)
    refine R_seg sg_85_23 sk_85_23 (pc' := 24) (lv' := [(0, .ref 57), (1, .int x1), (2, .int x2), (3, .int x3)]) (st' := [.int 0]) (S' := stt σ τ) (kc' := 0) (ks' := 0) rfl ⟨trivial, trivial⟩ ?_
    refine R_iret ck_85_24 rfl rfl ?_
    first | exact hf (fun q => n_tk ⟨q.1, q.2.1⟩) | exact hf (fun q => by obtain ⟨-, -, h⟩ := q; exact h t k b_t b_k rfl rfl (Classical.not_not.mp (by assumption)))
set_option maxRecDepth 20000 in
theorem y_91 {d : Nat} {σ : Nat → Nat → Int32} {τ : Nat → Nat → Int64} {x1 : Int32} {n : Nat} (hn : σ 57 1 = nI n) (hn2 : n ≤ 100000) {Post : Option Value → Sto → Prop} (hs : ∀ t : Nat, 1 ≤ t → t ≤ 1000 → n + t ≤ 100000 → x1 = nI t → Post (some (.int (m_goesOn σ (nI t) 57 1))) (stt (m_goesOn σ (nI t)) τ)) (hf : ¬ (rg x1 1 1000 ∧ ∀ t, t ≤ 1000 → x1 = nI t → n + t ≤ 100000) → Post (some (.int (-1))) (stt σ τ)) : Ex (d + 2) 91 [.ref 57, .int x1] (stt σ τ) 0 0 Post := by
  refine en_91 (Nat.le_of_ble_eq_true rfl) ?_
  show RU_91 (d + 1) (0, 0) Post 0 ([(0, .ref 57), (1, .int x1)]) ([]) (stt σ τ) 0 0
  refine R_seg sg_91_0 sk_91_0 (pc' := 5) (lv' := [(0, .ref 57), (1, .int x1)]) (st' := [.int 1000, .int 1, .int x1]) (S' := stt σ τ) (kc' := 0) (ks' := 0) rfl ⟨trivial, trivial, trivial, trivial⟩ ?_
  refine R_stat ck_91_5 (by decide) [.int x1, .int 1, .int 1000] 0 0 (r := []) rfl rfl (Nat.le_of_ble_eq_true rfl) (Nat.le_refl _) (Nat.le_refl _) ?_
  refine xn_81 (d := d) 1 1000 (by omega) (by omega) (fun t l_t u_t e_t => ?_) (fun n_t => ?_)
  · subst e_t
    show RU_91 (d + 1) (0, 0) Post 8 ([(0, .ref 57), (1, .int (nI t))]) ([.int 1]) (stt σ τ) 0 0
    refine R_if ck_91_8 (fun c => absurd c (show ¬ (1 : Int32) = 0 from by decide)) (fun _ => ?_)
    refine R_seg sg_91_11 sk_91_11 (pc' := 19) (lv' := [(0, .ref 57), (1, .int (nI t))]) (st' := [.int 100000, .int ((σ 57 1) + (nI t))]) (S' := stt σ τ) (kc' := 0) (ks' := 0) rfl ⟨trivial, rfl, trivial, trivial, trivial, trivial⟩ ?_
    rw [hn]
    rw [nI_add]
    refine R_icmp ck_91_19 (fun (c_19 : (nI (n + t)) ≤ 100000) => ?_) (fun (c_19 : ¬ (nI (n + t)) ≤ 100000) => ?_)
    · have c_19 : (n + t) ≤ 100000 := (nI_leI (a := (n + t)) (b := 100000) (by omega) (by omega)).mp c_19
      refine R_seg sg_91_24 sk_91_24 (pc' := 26) (lv' := [(0, .ref 57), (1, .int (nI t))]) (st' := [.int (nI t), .ref 57]) (S' := stt σ τ) (kc' := 0) (ks' := 0) rfl ⟨trivial, trivial, trivial⟩ ?_
      refine R_virt ck_91_26 57 [.int (nI t)] 0 0 (r := []) rfl rfl rfl (Nat.le_of_ble_eq_true rfl) (Nat.le_refl _) (Nat.le_refl _) ?_
      refine x_92 (d := d) ?_
      show RU_91 (d + 1) (0, 0) Post 29 ([(0, .ref 57), (1, .int (nI t))]) ([]) (stt (m_goesOn σ (nI t)) τ) 0 0
      refine R_seg sg_91_29 sk_91_29 (pc' := 33) (lv' := [(0, .ref 57), (1, .int (nI t))]) (st' := [.int ((m_goesOn σ (nI t)) 57 1)]) (S' := stt (m_goesOn σ (nI t)) τ) (kc' := 0) (ks' := 0) rfl ⟨trivial, rfl, trivial⟩ ?_
      refine R_iret ck_91_33 rfl rfl ?_
      exact hs t (by omega) (by omega) (by omega) rfl
    · have c_19 : 100000 < (n + t) := Nat.not_le.mp (fun zq => c_19 ((nI_leI (a := (n + t)) (b := 100000) (by omega) (by omega)).mpr zq))
      refine R_seg sg_91_22 sk_91_22 (pc' := 23) (lv' := [(0, .ref 57), (1, .int (nI t))]) (st' := [.int (-1)]) (S' := stt σ τ) (kc' := 0) (ks' := 0) rfl ⟨trivial, trivial⟩ ?_
      refine R_iret ck_91_23 rfl rfl ?_
      first | exact hf (fun q => n_t q.1) | (refine hf (fun q => ?_); have q2 := q.2 t u_t rfl; omega)
  · show RU_91 (d + 1) (0, 0) Post 8 ([(0, .ref 57), (1, .int x1)]) ([.int 0]) (stt σ τ) 0 0
    refine R_if ck_91_8 (fun _ => ?_) (fun c => absurd (show (0 : Int32) = 0 from by decide) c)
    refine R_seg sg_91_22 sk_91_22 (pc' := 23) (lv' := [(0, .ref 57), (1, .int x1)]) (st' := [.int (-1)]) (S' := stt σ τ) (kc' := 0) (ks' := 0) rfl ⟨trivial, trivial⟩ ?_
    refine R_iret ck_91_23 rfl rfl ?_
    first | exact hf (fun q => n_t q.1) | (refine hf (fun q => ?_); have q2 := q.2 t u_t rfl; omega)
