/-! ===== call, sizes bounded ===== -/
set_option maxRecDepth 20000 in
theorem y_75 {d : Nat} {σ : Nat → Nat → Int32} {τ : Nat → Nat → Int64} {x1 x2 : Int32} {n : Nat} (hn : σ 42 5 = nI n) (hn2 : n ≤ 192) (hw : ∀ k, k < n → ∃ z s : Nat, σ 46 k = nI z ∧ σ 48 k = nI s ∧ s + z ≤ 192) {Post : Option Value → Sto → Prop} (hf : ¬ (∃ j : Nat, j < n ∧ x1 = nI j) → Post (some (.int (-1))) (stt σ τ)) (h0 : ∀ k : Nat, k < n → x1 = nI k → x2 = 0 → Post (some (.int (σ 43 k))) (stt σ τ)) (h1 : ∀ k : Nat, k < n → x1 = nI k → x2 = 1 → Post (some (.int (σ 44 k))) (stt σ τ)) (h2 : ∀ k : Nat, k < n → x1 = nI k → x2 = 2 → Post (some (.int (σ 45 k))) (stt σ τ)) (h3 : ∀ k : Nat, k < n → x1 = nI k → x2 = 3 → Post (some (.int (σ 46 k))) (stt σ τ)) (h4 : ∀ k : Nat, k < n → x1 = nI k → x2 = 4 → Post (some (.int (σ 47 k))) (stt σ τ)) (hk : ∀ k z s j : Nat, k < n → j < z → s + z ≤ 192 → σ 46 k = nI z → σ 48 k = nI s → x1 = nI k → x2 = nI (j + 10) → Post (some (.int (σ 49 (s + j)))) (stt σ τ)) (hd : ∀ k z s : Nat, k < n → s + z ≤ 192 → σ 46 k = nI z → σ 48 k = nI s → x1 = nI k → (∀ j, j < z → ¬ x2 = nI (j + 10)) → (x2.toInt < 0 ∨ 4 < x2.toInt) → Post (some (.int (-1))) (stt σ τ)) : Ex (d + 3) 75 [.ref 0, .int x1, .int x2] (stt σ τ) 0 0 Post := by
  refine en_75 (Nat.le_of_ble_eq_true rfl) ?_
  show RU_75 (d + 2) (0, 0) Post 0 ([(0, .ref 0), (1, .int x1), (2, .int x2)]) ([]) (stt σ τ) 0 0
  refine R_seg sg_75_0 sk_75_0 (pc' := 11) (lv' := [(0, .ref 0), (1, .int x1), (2, .int x2)]) (st' := [.int ((σ 42 5) - 1), .int 0, .int x1]) (S' := stt σ τ) (kc' := 0) (ks' := 0) rfl ⟨trivial, trivial, trivial, rfl, rfl, trivial, trivial, trivial⟩ ?_
  rw [hn]
  refine R_stat ck_75_11 (by decide) [.int x1, .int 0, .int ((nI n) - 1)] 0 0 (r := []) rfl rfl (Nat.le_of_ble_eq_true rfl) (Nat.le_refl _) (Nat.le_refl _) ?_
  refine xm_57 (d := d + 1) n (by omega) (fun k u_k e_k => ?_) (fun n_k => ?_)
  · subst e_k
    show RU_75 (d + 2) (0, 0) Post 14 ([(0, .ref 0), (1, .int (nI k)), (2, .int x2)]) ([.int 1]) (stt σ τ) 0 0
    refine R_if ck_75_14 (fun _ => ?_) (fun c => absurd (show ¬ (1 : Int32) = 0 from by decide) c)
    refine R_seg sg_75_19 sk_75_19 (pc' := 20) (lv' := [(0, .ref 0), (1, .int (nI k)), (2, .int x2)]) (st' := [.int x2]) (S' := stt σ τ) (kc' := 0) (ks' := 0) rfl ⟨trivial, trivial⟩ ?_
    by_cases w_0 : x2 = 0
    · rw [w_0]
      refine R_tsw ck_75_20 56 rfl ?_
      refine R_seg sg_75_56 sk_75_56 (pc' := 64) (lv' := [(0, .ref 0), (1, .int (nI k)), (2, .int 0)]) (st' := [.int (nI k), .ref 43]) (S' := stt σ τ) (kc' := 0) (ks' := 0) rfl ⟨trivial, rfl, rfl, trivial, trivial⟩ ?_
      refine R_iald ca_75_64 (j := k) rfl rfl (by omega) ?_
      refine R_iret ck_75_65 rfl rfl ?_
      exact h0 k (by omega) rfl w_0
    by_cases w_1 : x2 = 1
    · rw [w_1]
      refine R_tsw ck_75_20 66 rfl ?_
      refine R_seg sg_75_66 sk_75_66 (pc' := 74) (lv' := [(0, .ref 0), (1, .int (nI k)), (2, .int 1)]) (st' := [.int (nI k), .ref 44]) (S' := stt σ τ) (kc' := 0) (ks' := 0) rfl ⟨trivial, rfl, rfl, trivial, trivial⟩ ?_
      refine R_iald ca_75_74 (j := k) rfl rfl (by omega) ?_
      refine R_iret ck_75_75 rfl rfl ?_
      exact h1 k (by omega) rfl w_1
    by_cases w_2 : x2 = 2
    · rw [w_2]
      refine R_tsw ck_75_20 76 rfl ?_
      refine R_seg sg_75_76 sk_75_76 (pc' := 84) (lv' := [(0, .ref 0), (1, .int (nI k)), (2, .int 2)]) (st' := [.int (nI k), .ref 45]) (S' := stt σ τ) (kc' := 0) (ks' := 0) rfl ⟨trivial, rfl, rfl, trivial, trivial⟩ ?_
      refine R_iald ca_75_84 (j := k) rfl rfl (by omega) ?_
      refine R_iret ck_75_85 rfl rfl ?_
      exact h2 k (by omega) rfl w_2
    by_cases w_3 : x2 = 3
    · rw [w_3]
      refine R_tsw ck_75_20 86 rfl ?_
      refine R_seg sg_75_86 sk_75_86 (pc' := 94) (lv' := [(0, .ref 0), (1, .int (nI k)), (2, .int 3)]) (st' := [.int (nI k), .ref 46]) (S' := stt σ τ) (kc' := 0) (ks' := 0) rfl ⟨trivial, rfl, rfl, trivial, trivial⟩ ?_
      refine R_iald ca_75_94 (j := k) rfl rfl (by omega) ?_
      refine R_iret ck_75_95 rfl rfl ?_
      exact h3 k (by omega) rfl w_3
    by_cases w_4 : x2 = 4
    · rw [w_4]
      refine R_tsw ck_75_20 96 rfl ?_
      refine R_seg sg_75_96 sk_75_96 (pc' := 104) (lv' := [(0, .ref 0), (1, .int (nI k)), (2, .int 4)]) (st' := [.int (nI k), .ref 47]) (S' := stt σ τ) (kc' := 0) (ks' := 0) rfl ⟨trivial, rfl, rfl, trivial, trivial⟩ ?_
      refine R_iald ca_75_104 (j := k) rfl rfl (by omega) ?_
      refine R_iret ck_75_105 rfl rfl ?_
      exact h4 k (by omega) rfl w_4
    have w_o : x2.toInt < 0 ∨ 4 < x2.toInt := sw_out (n := 4) (by decide) (fun j hj => by rcases (show j = 0 ∨ j = 1 ∨ j = 2 ∨ j = 3 ∨ j = 4 by omega) with rfl | rfl | rfl | rfl | rfl <;> assumption)
    refine R_tsw ck_75_20 106 (by simp only [swT]; rw [if_pos w_o]; rfl) ?_
    refine R_seg sg_75_106 sk_75_106 (pc' := 109) (lv' := [(0, .ref 0), (1, .int (nI k)), (2, .int x2)]) (st' := [.int 10, .int x2]) (S' := stt σ τ) (kc' := 0) (ks' := 0) rfl ⟨trivial, trivial, trivial⟩ ?_
    refine R_icmp ck_75_109 (fun (c_109 : 10 ≤ x2) => ?_) (fun (c_109 : ¬ 10 ≤ x2) => ?_)
    · obtain ⟨z, s, hz, hs, hzs⟩ := hw k (by omega)
      refine R_seg sg_75_116 sk_75_116 (pc' := 125) (lv' := [(0, .ref 0), (1, .int (nI k)), (2, .int x2)]) (st' := [.int (x2 - 10), .int (nI k), .ref 42]) (S' := stt σ τ) (kc' := 0) (ks' := 0) rfl ⟨trivial, rfl, trivial, trivial, trivial, trivial, trivial⟩ ?_
      refine R_virt ck_75_125 42 [.int (nI k), .int (x2 - 10)] 0 0 (r := []) rfl rfl rfl (Nat.le_of_ble_eq_true rfl) (Nat.le_refl _) (Nat.le_refl _) ?_
      refine x_5 (d := d) (by omega) hz hs hzs (fun j u_j e_j => ?_) (fun n_j => ?_)
      · show RU_75 (d + 2) (0, 0) Post 128 ([(0, .ref 0), (1, .int (nI k)), (2, .int x2)]) ([.int (σ 49 (s + j))]) (stt σ τ) 0 0
        refine R_iret ck_75_128 rfl rfl ?_
        exact hk k z s j (by omega) (by omega) hzs hz hs rfl (by rw [show x2 = x2 - 10 + 10 from (Int32.sub_add_cancel x2 10).symm, e_j, nk_10, nI_add])
      · show RU_75 (d + 2) (0, 0) Post 128 ([(0, .ref 0), (1, .int (nI k)), (2, .int x2)]) ([.int (-1)]) (stt σ τ) 0 0
        refine R_iret ck_75_128 rfl rfl ?_
        first | exact hd k z s (by omega) hzs hz hs rfl (fun j q1 q2 => n_j ⟨j, q1, by rw [q2]; exact sub10 j⟩) w_o | (obtain ⟨z, s, hz, hs, hzs⟩ := hw k (by omega); exact hd k z s (by omega) hzs hz hs rfl (fun j q1 q2 => by rw [q2] at c_109; exact c_109 (nI_le (a := 10) (b := j + 10) (by omega) (by omega))) w_o)
    · refine R_seg sg_75_112 sk_75_112 (pc' := 113) (lv' := [(0, .ref 0), (1, .int (nI k)), (2, .int x2)]) (st' := [.int (-1)]) (S' := stt σ τ) (kc' := 0) (ks' := 0) rfl ⟨trivial, trivial⟩ ?_
      refine R_goto ck_75_113 ?_
      refine R_iret ck_75_128 rfl rfl ?_
      first | exact hd k z s (by omega) hzs hz hs rfl (fun j q1 q2 => n_j ⟨j, q1, by rw [q2]; exact sub10 j⟩) w_o | (obtain ⟨z, s, hz, hs, hzs⟩ := hw k (by omega); exact hd k z s (by omega) hzs hz hs rfl (fun j q1 q2 => by rw [q2] at c_109; exact c_109 (nI_le (a := 10) (b := j + 10) (by omega) (by omega))) w_o)
  · show RU_75 (d + 2) (0, 0) Post 14 ([(0, .ref 0), (1, .int x1), (2, .int x2)]) ([.int 0]) (stt σ τ) 0 0
    refine R_if ck_75_14 (fun c => absurd c (show ¬ ¬ (0 : Int32) = 0 from by decide)) (fun _ => ?_)
    refine R_seg sg_75_17 sk_75_17 (pc' := 18) (lv' := [(0, .ref 0), (1, .int x1), (2, .int x2)]) (st' := [.int (-1)]) (S' := stt σ τ) (kc' := 0) (ks' := 0) rfl ⟨trivial, trivial⟩ ?_
    refine R_iret ck_75_18 rfl rfl ?_
    exact hf n_k
set_option maxRecDepth 20000 in
theorem y_123 {d : Nat} {σ : Nat → Nat → Int32} {τ : Nat → Nat → Int64} {x1 x2 : Int32} {n : Nat} (hn : σ 57 51 = nI n) (hn2 : n ≤ 192) (hw : ∀ k, k < n → ∃ z : Nat, σ 101 k = nI z ∧ z ≤ 8) {Post : Option Value → Sto → Prop} (hf : ¬ (∃ j : Nat, j < n ∧ x1 = nI j) → Post (some (.int (-1))) (stt σ τ)) (h0 : ∀ k : Nat, k < n → x1 = nI k → x2 = 0 → Post (some (.int (σ 98 k))) (stt σ τ)) (h1 : ∀ k : Nat, k < n → x1 = nI k → x2 = 1 → Post (some (.int (σ 99 k))) (stt σ τ)) (h2 : ∀ k : Nat, k < n → x1 = nI k → x2 = 2 → Post (some (.int (σ 100 k))) (stt σ τ)) (h3 : ∀ k : Nat, k < n → x1 = nI k → x2 = 3 → Post (some (.int (σ 101 k))) (stt σ τ)) (h4 : ∀ k : Nat, k < n → x1 = nI k → x2 = 4 → Post (some (.int (σ 102 k))) (stt σ τ)) (hk : ∀ k z j : Nat, k < n → j < z → z ≤ 8 → σ 101 k = nI z → x1 = nI k → x2 = nI (j + 10) → Post (some (.int (σ 103 (8 * k + j)))) (stt σ τ)) (hd : ∀ k z : Nat, k < n → z ≤ 8 → σ 101 k = nI z → x1 = nI k → (∀ j, j < z → ¬ x2 = nI (j + 10)) → (x2.toInt < 0 ∨ 4 < x2.toInt) → Post (some (.int (-1))) (stt σ τ)) : Ex (d + 2) 123 [.ref 57, .int x1, .int x2] (stt σ τ) 0 0 Post := by
  refine en_123 (Nat.le_of_ble_eq_true rfl) ?_
  show RU_123 (d + 1) (0, 0) Post 0 ([(0, .ref 57), (1, .int x1), (2, .int x2)]) ([]) (stt σ τ) 0 0
  refine R_seg sg_123_0 sk_123_0 (pc' := 8) (lv' := [(0, .ref 57), (1, .int x1), (2, .int x2)]) (st' := [.int ((σ 57 51) - 1), .int 0, .int x1]) (S' := stt σ τ) (kc' := 0) (ks' := 0) rfl ⟨trivial, trivial, trivial, rfl, trivial, trivial, trivial⟩ ?_
  rw [hn]
  refine R_stat ck_123_8 (by decide) [.int x1, .int 0, .int ((nI n) - 1)] 0 0 (r := []) rfl rfl (Nat.le_of_ble_eq_true rfl) (Nat.le_refl _) (Nat.le_refl _) ?_
  refine xm_81 (d := d) n (by omega) (fun k u_k e_k => ?_) (fun n_k => ?_)
  · subst e_k
    show RU_123 (d + 1) (0, 0) Post 11 ([(0, .ref 57), (1, .int (nI k)), (2, .int x2)]) ([.int 1]) (stt σ τ) 0 0
    refine R_if ck_123_11 (fun _ => ?_) (fun c => absurd (show ¬ (1 : Int32) = 0 from by decide) c)
    obtain ⟨z, hz, hz8⟩ := hw k (by omega)
    refine R_seg sg_123_16 sk_123_16 (pc' := 26) (lv' := [(0, .ref 57), (1, .int (nI k)), (2, .int x2)]) (st' := [.int (nI k), .ref 101, .int 9, .int 10, .int x2]) (S' := stt σ τ) (kc' := 0) (ks' := 0) rfl ⟨trivial, trivial, trivial, trivial, rfl, trivial, trivial⟩ ?_
    refine R_iald ca_123_26 (j := k) rfl rfl (by omega) ?_
    show RU_123 (d + 1) (0, 0) Post 27 ([(0, .ref 57), (1, .int (nI k)), (2, .int x2)]) ([.int (σ 101 k), .int 9, .int 10, .int x2]) (stt σ τ) 0 0
    rw [hz]
    refine R_seg sg_123_27 sk_123_27 (pc' := 28) (lv' := [(0, .ref 57), (1, .int (nI k)), (2, .int x2)]) (st' := [.int (9 + (nI z)), .int 10, .int x2]) (S' := stt σ τ) (kc' := 0) (ks' := 0) rfl ⟨trivial, trivial⟩ ?_
    rw [show (9 : Int32) + nI z = nI (9 + z) from nI_add 9 z]
    refine R_stat ck_123_28 (by decide) [.int x2, .int 10, .int (nI (9 + z))] 0 0 (r := []) rfl rfl (Nat.le_of_ble_eq_true rfl) (Nat.le_refl _) (Nat.le_refl _) ?_
    refine xn_81 (d := d) 10 (9 + z) (by omega) (by omega) (fun w l_w u_w e_w => ?_) (fun n_w => ?_)
    · subst e_w
      show RU_123 (d + 1) (0, 0) Post 31 ([(0, .ref 57), (1, .int (nI k)), (2, .int (nI w))]) ([.int 1]) (stt σ τ) 0 0
      refine R_if ck_123_31 (fun c => absurd c (show ¬ (1 : Int32) = 0 from by decide)) (fun _ => ?_)
      refine R_seg sg_123_34 sk_123_34 (pc' := 47) (lv' := [(0, .ref 57), (1, .int (nI k)), (2, .int (nI w))]) (st' := [.int (((8 * (nI k)) + (nI w)) - 10), .ref 103]) (S' := stt σ τ) (kc' := 0) (ks' := 0) rfl ⟨trivial, rfl, trivial, trivial, trivial, trivial, trivial, trivial, trivial, trivial⟩ ?_
      refine R_iald ca_123_47 (j := 8 * k + (w - 10)) rfl (by rw [nl_8, pk_mul, nI_add, nk_10, pk_sub (by omega)]; congr 1; omega) (by omega) ?_
      refine R_iret ck_123_48 rfl rfl ?_
      exact hk k z (w - 10) (by omega) (by omega) hz8 hz rfl (by congr 1; omega)
    · show RU_123 (d + 1) (0, 0) Post 31 ([(0, .ref 57), (1, .int (nI k)), (2, .int x2)]) ([.int 0]) (stt σ τ) 0 0
      refine R_if ck_123_31 (fun _ => ?_) (fun c => absurd (show (0 : Int32) = 0 from by decide) c)
      refine R_seg sg_123_49 sk_123_49 (pc' := 50) (lv' := [(0, .ref 57), (1, .int (nI k)), (2, .int x2)]) (st' := [.int x2]) (S' := stt σ τ) (kc' := 0) (ks' := 0) rfl ⟨trivial, trivial⟩ ?_
      by_cases w_0 : x2 = 0
      · rw [w_0]
        refine R_tsw ck_123_50 84 rfl ?_
        refine R_seg sg_123_84 sk_123_84 (pc' := 89) (lv' := [(0, .ref 57), (1, .int (nI k)), (2, .int 0)]) (st' := [.int (nI k), .ref 98]) (S' := stt σ τ) (kc' := 0) (ks' := 0) rfl ⟨trivial, rfl, trivial, trivial⟩ ?_
        refine R_iald ca_123_89 (j := k) rfl rfl (by omega) ?_
        refine R_iret ck_123_90 rfl rfl ?_
        exact h0 k (by omega) rfl w_0
      by_cases w_1 : x2 = 1
      · rw [w_1]
        refine R_tsw ck_123_50 91 rfl ?_
        refine R_seg sg_123_91 sk_123_91 (pc' := 96) (lv' := [(0, .ref 57), (1, .int (nI k)), (2, .int 1)]) (st' := [.int (nI k), .ref 99]) (S' := stt σ τ) (kc' := 0) (ks' := 0) rfl ⟨trivial, rfl, trivial, trivial⟩ ?_
        refine R_iald ca_123_96 (j := k) rfl rfl (by omega) ?_
        refine R_iret ck_123_97 rfl rfl ?_
        exact h1 k (by omega) rfl w_1
      by_cases w_2 : x2 = 2
      · rw [w_2]
        refine R_tsw ck_123_50 98 rfl ?_
        refine R_seg sg_123_98 sk_123_98 (pc' := 103) (lv' := [(0, .ref 57), (1, .int (nI k)), (2, .int 2)]) (st' := [.int (nI k), .ref 100]) (S' := stt σ τ) (kc' := 0) (ks' := 0) rfl ⟨trivial, rfl, trivial, trivial⟩ ?_
        refine R_iald ca_123_103 (j := k) rfl rfl (by omega) ?_
        refine R_iret ck_123_104 rfl rfl ?_
        exact h2 k (by omega) rfl w_2
      by_cases w_3 : x2 = 3
      · rw [w_3]
        refine R_tsw ck_123_50 105 rfl ?_
        refine R_seg sg_123_105 sk_123_105 (pc' := 110) (lv' := [(0, .ref 57), (1, .int (nI k)), (2, .int 3)]) (st' := [.int (nI k), .ref 101]) (S' := stt σ τ) (kc' := 0) (ks' := 0) rfl ⟨trivial, rfl, trivial, trivial⟩ ?_
        refine R_iald ca_123_110 (j := k) rfl rfl (by omega) ?_
        show RU_123 (d + 1) (0, 0) Post 111 ([(0, .ref 57), (1, .int (nI k)), (2, .int 3)]) ([.int (σ 101 k)]) (stt σ τ) 0 0
        rw [hz]
        refine R_iret ck_123_111 rfl rfl ?_
        rw [← hz]; exact h3 k (by omega) rfl w_3
      by_cases w_4 : x2 = 4
      · rw [w_4]
        refine R_tsw ck_123_50 112 rfl ?_
        refine R_seg sg_123_112 sk_123_112 (pc' := 117) (lv' := [(0, .ref 57), (1, .int (nI k)), (2, .int 4)]) (st' := [.int (nI k), .ref 102]) (S' := stt σ τ) (kc' := 0) (ks' := 0) rfl ⟨trivial, rfl, trivial, trivial⟩ ?_
        refine R_iald ca_123_117 (j := k) rfl rfl (by omega) ?_
        refine R_iret ck_123_118 rfl rfl ?_
        exact h4 k (by omega) rfl w_4
      have w_o : x2.toInt < 0 ∨ 4 < x2.toInt := sw_out (n := 4) (by decide) (fun j hj => by rcases (show j = 0 ∨ j = 1 ∨ j = 2 ∨ j = 3 ∨ j = 4 by omega) with rfl | rfl | rfl | rfl | rfl <;> assumption)
      refine R_tsw ck_123_50 119 (by simp only [swT]; rw [if_pos w_o]; rfl) ?_
      refine R_seg sg_123_119 sk_123_119 (pc' := 120) (lv' := [(0, .ref 57), (1, .int (nI k)), (2, .int x2)]) (st' := [.int (-1)]) (S' := stt σ τ) (kc' := 0) (ks' := 0) rfl ⟨trivial, trivial⟩ ?_
      refine R_iret ck_123_120 rfl rfl ?_
      exact hd k z (by omega) hz8 hz rfl (fun j q1 q2 => n_w ⟨j + 10, by omega, by omega, q2⟩) w_o
  · show RU_123 (d + 1) (0, 0) Post 11 ([(0, .ref 57), (1, .int x1), (2, .int x2)]) ([.int 0]) (stt σ τ) 0 0
    refine R_if ck_123_11 (fun c => absurd c (show ¬ ¬ (0 : Int32) = 0 from by decide)) (fun _ => ?_)
    refine R_seg sg_123_14 sk_123_14 (pc' := 15) (lv' := [(0, .ref 57), (1, .int x1), (2, .int x2)]) (st' := [.int (-1)]) (S' := stt σ τ) (kc' := 0) (ks' := 0) rfl ⟨trivial, trivial⟩ ?_
    refine R_iret ck_123_15 rfl rfl ?_
    exact hf n_k
