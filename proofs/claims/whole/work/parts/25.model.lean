/-! ===== AnswerDoorModel: call, count ===== -/
set_option maxRecDepth 20000 in
theorem x_123 {d : Nat} {σ : Nat → Nat → Int32} {τ : Nat → Nat → Int64} {x1 x2 : Int32} {n : Nat} (hn : σ 57 51 = nI n) (hn2 : n ≤ 192) (hw : ∀ k, k < n → ∃ z : Nat, σ 101 k = nI z ∧ z ≤ 8) {Post : Option Value → Sto → Prop} (hf : ¬ (∃ j : Nat, j < n ∧ x1 = nI j) → Post (some (.int (-1))) (stt σ τ)) (h0 : ∀ k : Nat, k < n → x1 = nI k → x2 = 0 → Post (some (.int (σ 98 k))) (stt σ τ)) (h1 : ∀ k : Nat, k < n → x1 = nI k → x2 = 1 → Post (some (.int (σ 99 k))) (stt σ τ)) (h2 : ∀ k : Nat, k < n → x1 = nI k → x2 = 2 → Post (some (.int (σ 100 k))) (stt σ τ)) (h3 : ∀ k : Nat, k < n → x1 = nI k → x2 = 3 → Post (some (.int (σ 101 k))) (stt σ τ)) (h4 : ∀ k : Nat, k < n → x1 = nI k → x2 = 4 → Post (some (.int (σ 102 k))) (stt σ τ)) (hk : ∀ k z j : Nat, k < n → j < z → σ 101 k = nI z → x1 = nI k → x2 = nI (j + 10) → Post (some (.int (σ 103 (8 * k + j)))) (stt σ τ)) (hd : ∀ k z : Nat, k < n → σ 101 k = nI z → x1 = nI k → (∀ j, j < z → ¬ x2 = nI (j + 10)) → (x2.toInt < 0 ∨ 4 < x2.toInt) → Post (some (.int (-1))) (stt σ τ)) : Ex (d + 2) 123 [.ref 57, .int x1, .int x2] (stt σ τ) 0 0 Post := by
  refine en_123 (Nat.le_of_ble_eq_true rfl) ?_
  show RU_123 (d + 1) (0, 0) Post 0 ([(0, .ref 57), (1, .int x1), (2, .int x2)]) ([]) (stt σ τ) 0 0
  refine R_seg sg_123_0 sk_123_0 (pc' := 8) (lv' := [(0, .ref 57), (1, .int x1), (2, .int x2)]) (st' := [.int ((σ 57 51) - 1), .int 0, .int x1]) (S' := stt σ τ) (kc' := 0) (ks' := 0) rfl ⟨trivial, trivial, trivial, rfl, trivial, trivial, trivial⟩ ?_
  rw [hn]
  refine R_stat ck_123_8 (by decide) [.int x1, .int 0, .int ((nI n) - 1)] 0 0 (r := []) rfl rfl (Nat.le_of_ble_eq_true rfl) (Nat.le_refl _) (Nat.le_refl _) ?_
  refine xm_81 (d := d) n (by omega) (fun k u_k e_k => ?_) (fun n_k => ?_)
  · subst e_k
    show RU_123 (d + 1) (0, 0) Post 11 ([(0, .ref 57), (1, .int (nI k)), (2, .int x2)]) ([.int 1]) (stt σ τ) 0 0
    refine R_if ck_123_11 (fun _ => ?_) (fun c => absurd (show ¬ (1 : Int32) = 0 from by decide) c)
    obtain ⟨z, hz, hz8⟩ := hw k (by omega)
    refine R_seg sg_123_16 sk_123_16 (pc' := 26) (lv' := [(0, .ref 57), (1, .int (nI k)), (2, .int x2)]) (st' := [.int (nI k), .ref 101, .int 9, .int 10, .int x2]) (S' := stt σ τ) (kc' := 0) (ks' := 0) rfl ⟨trivial, trivial, trivial, trivial, rfl, trivial, trivial⟩ ?_
    refine R_iald ca_123_26 (j := k) rfl rfl (by omega) ?_
    show RU_123 (d + 1) (0, 0) Post 27 ([(0, .ref 57), (1, .int (nI k)), (2, .int x2)]) ([.int (σ 101 k), .int 9, .int 10, .int x2]) (stt σ τ) 0 0
    rw [hz]
    refine R_seg sg_123_27 sk_123_27 (pc' := 28) (lv' := [(0, .ref 57), (1, .int (nI k)), (2, .int x2)]) (st' := [.int (9 + (nI z)), .int 10, .int x2]) (S' := stt σ τ) (kc' := 0) (ks' := 0) rfl ⟨trivial, trivial⟩ ?_
    rw [show (9 : Int32) + nI z = nI (9 + z) from nI_add 9 z]
    refine R_stat ck_123_28 (by decide) [.int x2, .int 10, .int (nI (9 + z))] 0 0 (r := []) rfl rfl (Nat.le_of_ble_eq_true rfl) (Nat.le_refl _) (Nat.le_refl _) ?_
    refine xn_81 (d := d) 10 (9 + z) (by omega) (by omega) (fun w l_w u_w e_w => ?_) (fun n_w => ?_)
    · subst e_w
      show RU_123 (d + 1) (0, 0) Post 31 ([(0, .ref 57), (1, .int (nI k)), (2, .int (nI w))]) ([.int 1]) (stt σ τ) 0 0
      refine R_if ck_123_31 (fun c => absurd c (show ¬ (1 : Int32) = 0 from by decide)) (fun _ => ?_)
      refine R_seg sg_123_34 sk_123_34 (pc' := 47) (lv' := [(0, .ref 57), (1, .int (nI k)), (2, .int (nI w))]) (st' := [.int (((8 * (nI k)) + (nI w)) - 10), .ref 103]) (S' := stt σ τ) (kc' := 0) (ks' := 0) rfl ⟨trivial, rfl, trivial, trivial, trivial, trivial, trivial, trivial, trivial, trivial⟩ ?_
      refine R_iald ca_123_47 (j := 8 * k + (w - 10)) rfl (by rw [nl_8, pk_mul, nI_add, nk_10, pk_sub (by omega)]; congr 1; omega) (by omega) ?_
      refine R_iret ck_123_48 rfl rfl ?_
      exact hk k z (w - 10) (by omega) (by omega) hz rfl (by congr 1; omega)
    · show RU_123 (d + 1) (0, 0) Post 31 ([(0, .ref 57), (1, .int (nI k)), (2, .int x2)]) ([.int 0]) (stt σ τ) 0 0
      refine R_if ck_123_31 (fun _ => ?_) (fun c => absurd (show (0 : Int32) = 0 from by decide) c)
      refine R_seg sg_123_49 sk_123_49 (pc' := 50) (lv' := [(0, .ref 57), (1, .int (nI k)), (2, .int x2)]) (st' := [.int x2]) (S' := stt σ τ) (kc' := 0) (ks' := 0) rfl ⟨trivial, trivial⟩ ?_
      by_cases w_0 : x2 = 0
      · rw [w_0]
        refine R_tsw ck_123_50 84 rfl ?_
        refine R_seg sg_123_84 sk_123_84 (pc' := 89) (lv' := [(0, .ref 57), (1, .int (nI k)), (2, .int 0)]) (st' := [.int (nI k), .ref 98]) (S' := stt σ τ) (kc' := 0) (ks' := 0) rfl ⟨trivial, rfl, trivial, trivial⟩ ?_
        refine R_iald ca_123_89 (j := k) rfl rfl (by omega) ?_
        refine R_iret ck_123_90 rfl rfl ?_
        exact h0 k (by omega) rfl w_0
      by_cases w_1 : x2 = 1
      · rw [w_1]
        refine R_tsw ck_123_50 91 rfl ?_
        refine R_seg sg_123_91 sk_123_91 (pc' := 96) (lv' := [(0, .ref 57), (1, .int (nI k)), (2, .int 1)]) (st' := [.int (nI k), .ref 99]) (S' := stt σ τ) (kc' := 0) (ks' := 0) rfl ⟨trivial, rfl, trivial, trivial⟩ ?_
        refine R_iald ca_123_96 (j := k) rfl rfl (by omega) ?_
        refine R_iret ck_123_97 rfl rfl ?_
        exact h1 k (by omega) rfl w_1
      by_cases w_2 : x2 = 2
      · rw [w_2]
        refine R_tsw ck_123_50 98 rfl ?_
        refine R_seg sg_123_98 sk_123_98 (pc' := 103) (lv' := [(0, .ref 57), (1, .int (nI k)), (2, .int 2)]) (st' := [.int (nI k), .ref 100]) (S' := stt σ τ) (kc' := 0) (ks' := 0) rfl ⟨trivial, rfl, trivial, trivial⟩ ?_
        refine R_iald ca_123_103 (j := k) rfl rfl (by omega) ?_
        refine R_iret ck_123_104 rfl rfl ?_
        exact h2 k (by omega) rfl w_2
      by_cases w_3 : x2 = 3
      · rw [w_3]
        refine R_tsw ck_123_50 105 rfl ?_
        refine R_seg sg_123_105 sk_123_105 (pc' := 110) (lv' := [(0, .ref 57), (1, .int (nI k)), (2, .int 3)]) (st' := [.int (nI k), .ref 101]) (S' := stt σ τ) (kc' := 0) (ks' := 0) rfl ⟨trivial, rfl, trivial, trivial⟩ ?_
        refine R_iald ca_123_110 (j := k) rfl rfl (by omega) ?_
        show RU_123 (d + 1) (0, 0) Post 111 ([(0, .ref 57), (1, .int (nI k)), (2, .int 3)]) ([.int (σ 101 k)]) (stt σ τ) 0 0
        rw [hz]
        refine R_iret ck_123_111 rfl rfl ?_
        rw [← hz]; exact h3 k (by omega) rfl w_3
      by_cases w_4 : x2 = 4
      · rw [w_4]
        refine R_tsw ck_123_50 112 rfl ?_
        refine R_seg sg_123_112 sk_123_112 (pc' := 117) (lv' := [(0, .ref 57), (1, .int (nI k)), (2, .int 4)]) (st' := [.int (nI k), .ref 102]) (S' := stt σ τ) (kc' := 0) (ks' := 0) rfl ⟨trivial, rfl, trivial, trivial⟩ ?_
        refine R_iald ca_123_117 (j := k) rfl rfl (by omega) ?_
        refine R_iret ck_123_118 rfl rfl ?_
        exact h4 k (by omega) rfl w_4
      have w_o : x2.toInt < 0 ∨ 4 < x2.toInt := sw_out (n := 4) (by decide) (fun j hj => by rcases (show j = 0 ∨ j = 1 ∨ j = 2 ∨ j = 3 ∨ j = 4 by omega) with rfl | rfl | rfl | rfl | rfl <;> assumption)
      refine R_tsw ck_123_50 119 (by simp only [swT]; rw [if_pos w_o]; rfl) ?_
      refine R_seg sg_123_119 sk_123_119 (pc' := 120) (lv' := [(0, .ref 57), (1, .int (nI k)), (2, .int x2)]) (st' := [.int (-1)]) (S' := stt σ τ) (kc' := 0) (ks' := 0) rfl ⟨trivial, trivial⟩ ?_
      refine R_iret ck_123_120 rfl rfl ?_
      exact hd k z (by omega) hz rfl (fun j q1 q2 => n_w ⟨j + 10, by omega, by omega, q2⟩) w_o
  · show RU_123 (d + 1) (0, 0) Post 11 ([(0, .ref 57), (1, .int x1), (2, .int x2)]) ([.int 0]) (stt σ τ) 0 0
    refine R_if ck_123_11 (fun c => absurd c (show ¬ ¬ (0 : Int32) = 0 from by decide)) (fun _ => ?_)
    refine R_seg sg_123_14 sk_123_14 (pc' := 15) (lv' := [(0, .ref 57), (1, .int x1), (2, .int x2)]) (st' := [.int (-1)]) (S' := stt σ τ) (kc' := 0) (ks' := 0) rfl ⟨trivial, trivial⟩ ?_
    refine R_iret ck_123_15 rfl rfl ?_
    exact hf n_k
set_option maxRecDepth 20000 in
theorem l_126 {d : Nat} {σ : Nat → Nat → Int32} {τ : Nat → Nat → Int64} {Post : Option Value → Sto → Prop} (hp : Post (some (.int (nI (cntP (fun j => σ 94 j = 4) 192)))) (stt σ τ)) : ∀ (n : Nat) (i : Nat), i ≤ 192 → 192 - i < n → RU_126 (d + 1) (0, 0) Post 95 [(3, .int (nI i)), (2, .int (nI (cntP (fun j => σ 94 j = 4) i))), (0, .ref 57), (1, .int 5)] [] (stt σ τ) 0 0 := by
  intro n
  induction n with
  | zero => intro i h1 h2; exact absurd h2 (by omega)
  | succ n ih =>
    intro i h1 h2
    have hcl := cntP_le (fun j => σ 94 j = 4) i
    refine R_seg sg_126_95 sk_126_95 (pc' := 99) (lv' := [(3, .int (nI i)), (2, .int (nI (cntP (fun j => σ 94 j = 4) i))), (0, .ref 57), (1, .int 5)]) (st' := [.int 192, .int (nI i)]) (S' := stt σ τ) (kc' := 0) (ks' := 0) rfl ⟨trivial, trivial, trivial⟩ ?_
    refine R_icmp ck_126_99 (fun (c_99 : 192 ≤ (nI i)) => ?_) (fun (c_99 : ¬ 192 ≤ (nI i)) => ?_)
    · have c_99 : 192 ≤ i := (nI_leI (a := 192) (b := i) (by omega) (by omega)).mp c_99
      refine R_seg sg_126_126 sk_126_126 (pc' := 127) (lv' := [(3, .int (nI i)), (2, .int (nI (cntP (fun j => σ 94 j = 4) i))), (0, .ref 57), (1, .int 5)]) (st' := [.int (nI (cntP (fun j => σ 94 j = 4) i))]) (S' := stt σ τ) (kc' := 0) (ks' := 0) rfl ⟨trivial, trivial⟩ ?_
      refine R_iret ck_126_127 rfl rfl ?_
      have e : i = 192 := by omega
      subst e
      exact hp
    · have c_99 : i < 192 := Nat.not_le.mp (fun q => c_99 ((nI_leI (a := 192) (b := i) (by omega) (by omega)).mpr q))
      refine R_seg sg_126_102 sk_126_102 (pc' := 108) (lv' := [(3, .int (nI i)), (2, .int (nI (cntP (fun j => σ 94 j = 4) i))), (0, .ref 57), (1, .int 5)]) (st' := [.int (nI i), .ref 94, .int (nI (cntP (fun j => σ 94 j = 4) i))]) (S' := stt σ τ) (kc' := 0) (ks' := 0) rfl ⟨trivial, trivial, rfl, trivial, trivial⟩ ?_
      refine R_iald ca_126_108 (j := i) rfl rfl (by omega) ?_
      refine R_seg sg_126_109 sk_126_109 (pc' := 110) (lv' := [(3, .int (nI i)), (2, .int (nI (cntP (fun j => σ 94 j = 4) i))), (0, .ref 57), (1, .int 5)]) (st' := [.int 4, .int (σ 94 i), .int (nI (cntP (fun j => σ 94 j = 4) i))]) (S' := stt σ τ) (kc' := 0) (ks' := 0) rfl ⟨trivial, trivial⟩ ?_
      refine R_icmp ck_126_110 (fun (c_110 : ¬ (σ 94 i) = 4) => ?_) (fun (c_110 : ¬ ¬ (σ 94 i) = 4) => ?_)
      · refine R_seg sg_126_117 sk_126_117 (pc' := 118) (lv' := [(3, .int (nI i)), (2, .int (nI (cntP (fun j => σ 94 j = 4) i))), (0, .ref 57), (1, .int 5)]) (st' := [.int 0, .int (nI (cntP (fun j => σ 94 j = 4) i))]) (S' := stt σ τ) (kc' := 0) (ks' := 0) rfl ⟨trivial, trivial⟩ ?_
        refine R_seg sg_126_118 sk_126_118 (pc' := 123) (lv' := [(3, .int ((nI i) + 1)), (2, .int ((nI (cntP (fun j => σ 94 j = 4) i)) + 0)), (0, .ref 57), (1, .int 5)]) (st' := []) (S' := stt σ τ) (kc' := 0) (ks' := 0) rfl ⟨trivial, (by decide), (by decide), trivial⟩ ?_
        refine R_goto ck_126_123 ?_
        have e : cntP (fun j => σ 94 j = 4) (i + 1) = cntP (fun j => σ 94 j = 4) i := cntP_f (P := fun j => σ 94 j = 4) c_110
        rw [nI_1, Int32.add_zero, ← e]
        exact ih (i + 1) (by omega) (by omega)
      · refine R_seg sg_126_113 sk_126_113 (pc' := 114) (lv' := [(3, .int (nI i)), (2, .int (nI (cntP (fun j => σ 94 j = 4) i))), (0, .ref 57), (1, .int 5)]) (st' := [.int 1, .int (nI (cntP (fun j => σ 94 j = 4) i))]) (S' := stt σ τ) (kc' := 0) (ks' := 0) rfl ⟨trivial, trivial⟩ ?_
        refine R_goto ck_126_114 ?_
        refine R_seg sg_126_118 sk_126_118 (pc' := 123) (lv' := [(3, .int ((nI i) + 1)), (2, .int ((nI (cntP (fun j => σ 94 j = 4) i)) + 1)), (0, .ref 57), (1, .int 5)]) (st' := []) (S' := stt σ τ) (kc' := 0) (ks' := 0) rfl ⟨trivial, (by decide), (by decide), trivial⟩ ?_
        refine R_goto ck_126_123 ?_
        have e : cntP (fun j => σ 94 j = 4) (i + 1) = cntP (fun j => σ 94 j = 4) i + 1 := cntP_t (P := fun j => σ 94 j = 4) (Classical.not_not.mp c_110)
        rw [nI_1, nI_1, ← e]
        exact ih (i + 1) (by omega) (by omega)
set_option maxRecDepth 20000 in
theorem x_126 {d : Nat} {σ : Nat → Nat → Int32} {τ : Nat → Nat → Int64} {x1 : Int32} {Post : Option Value → Sto → Prop} (h0 : x1 = 0 → Post (some (.int (σ 57 1))) (stt σ τ)) (h1 : x1 = 1 → Post (some (.int (σ 57 32))) (stt σ τ)) (h2 : x1 = 2 → Post (some (.int (σ 57 51))) (stt σ τ)) (h3 : x1 = 3 → Post (some (.int (σ 57 59))) (stt σ τ)) (h4 : x1 = 4 → Post (some (.int (σ 57 50))) (stt σ τ)) (h5 : x1 = 5 → Post (some (.int (nI (cntP (fun j => σ 94 j = 4) 192)))) (stt σ τ)) (h6 : x1 = 6 → Post (some (.int (σ 57 10))) (stt σ τ)) (ha : ∀ a : Nat, 10 ≤ a → a ≤ 13 → x1 = nI a → Post (some (.int (σ 85 (a - 10)))) (stt σ τ)) (hd : ¬ rg x1 10 13 → (x1.toInt < 0 ∨ 6 < x1.toInt) → Post (some (.int (-1))) (stt σ τ)) : Ex (d + 2) 126 [.ref 57, .int x1] (stt σ τ) 0 0 Post := by
  refine en_126 (Nat.le_of_ble_eq_true rfl) ?_
  show RU_126 (d + 1) (0, 0) Post 0 ([(0, .ref 57), (1, .int x1)]) ([]) (stt σ τ) 0 0
  refine R_seg sg_126_0 sk_126_0 (pc' := 7) (lv' := [(2, .int 0), (0, .ref 57), (1, .int x1)]) (st' := [.int 13, .int 10, .int x1]) (S' := stt σ τ) (kc' := 0) (ks' := 0) rfl ⟨trivial, (by decide), trivial, trivial, trivial, trivial⟩ ?_
  refine R_stat ck_126_7 (by decide) [.int x1, .int 10, .int 13] 0 0 (r := []) rfl rfl (Nat.le_of_ble_eq_true rfl) (Nat.le_refl _) (Nat.le_refl _) ?_
  refine xn_81 (d := d) 10 13 (by omega) (by omega) (fun a l_a u_a e_a => ?_) (fun n_a => ?_)
  · subst e_a
    show RU_126 (d + 1) (0, 0) Post 10 ([(2, .int 0), (0, .ref 57), (1, .int (nI a))]) ([.int 1]) (stt σ τ) 0 0
    refine R_if ck_126_10 (fun c => absurd c (show ¬ (1 : Int32) = 0 from by decide)) (fun _ => ?_)
    refine R_seg sg_126_13 sk_126_13 (pc' := 21) (lv' := [(2, .int 0), (0, .ref 57), (1, .int (nI a))]) (st' := [.int ((nI a) - 10), .ref 85]) (S' := stt σ τ) (kc' := 0) (ks' := 0) rfl ⟨trivial, rfl, trivial, trivial, trivial, trivial⟩ ?_
    refine R_iald ca_126_21 (j := a - 10) rfl (by rw [nk_10, pk_sub (by omega)]) (by omega) ?_
    refine R_iret ck_126_22 rfl rfl ?_
    exact ha a (by omega) (by omega) rfl
  · show RU_126 (d + 1) (0, 0) Post 10 ([(2, .int 0), (0, .ref 57), (1, .int x1)]) ([.int 0]) (stt σ τ) 0 0
    refine R_if ck_126_10 (fun _ => ?_) (fun c => absurd (show (0 : Int32) = 0 from by decide) c)
    refine R_seg sg_126_23 sk_126_23 (pc' := 24) (lv' := [(2, .int 0), (0, .ref 57), (1, .int x1)]) (st' := [.int x1]) (S' := stt σ τ) (kc' := 0) (ks' := 0) rfl ⟨trivial, trivial⟩ ?_
    by_cases w_0 : x1 = 0
    · rw [w_0]
      refine R_tsw ck_126_24 68 rfl ?_
      refine R_seg sg_126_68 sk_126_68 (pc' := 72) (lv' := [(2, .int 0), (0, .ref 57), (1, .int 0)]) (st' := [.int (σ 57 1)]) (S' := stt σ τ) (kc' := 0) (ks' := 0) rfl ⟨trivial, rfl, trivial⟩ ?_
      refine R_iret ck_126_72 rfl rfl ?_
      exact h0 w_0
    by_cases w_1 : x1 = 1
    · rw [w_1]
      refine R_tsw ck_126_24 73 rfl ?_
      refine R_seg sg_126_73 sk_126_73 (pc' := 77) (lv' := [(2, .int 0), (0, .ref 57), (1, .int 1)]) (st' := [.int (σ 57 32)]) (S' := stt σ τ) (kc' := 0) (ks' := 0) rfl ⟨trivial, rfl, trivial⟩ ?_
      refine R_iret ck_126_77 rfl rfl ?_
      exact h1 w_1
    by_cases w_2 : x1 = 2
    · rw [w_2]
      refine R_tsw ck_126_24 78 rfl ?_
      refine R_seg sg_126_78 sk_126_78 (pc' := 82) (lv' := [(2, .int 0), (0, .ref 57), (1, .int 2)]) (st' := [.int (σ 57 51)]) (S' := stt σ τ) (kc' := 0) (ks' := 0) rfl ⟨trivial, rfl, trivial⟩ ?_
      refine R_iret ck_126_82 rfl rfl ?_
      exact h2 w_2
    by_cases w_3 : x1 = 3
    · rw [w_3]
      refine R_tsw ck_126_24 83 rfl ?_
      refine R_seg sg_126_83 sk_126_83 (pc' := 87) (lv' := [(2, .int 0), (0, .ref 57), (1, .int 3)]) (st' := [.int (σ 57 59)]) (S' := stt σ τ) (kc' := 0) (ks' := 0) rfl ⟨trivial, rfl, trivial⟩ ?_
      refine R_iret ck_126_87 rfl rfl ?_
      exact h3 w_3
    by_cases w_4 : x1 = 4
    · rw [w_4]
      refine R_tsw ck_126_24 88 rfl ?_
      refine R_seg sg_126_88 sk_126_88 (pc' := 92) (lv' := [(2, .int 0), (0, .ref 57), (1, .int 4)]) (st' := [.int (σ 57 50)]) (S' := stt σ τ) (kc' := 0) (ks' := 0) rfl ⟨trivial, rfl, trivial⟩ ?_
      refine R_iret ck_126_92 rfl rfl ?_
      exact h4 w_4
    by_cases w_5 : x1 = 5
    · rw [w_5]
      refine R_tsw ck_126_24 93 rfl ?_
      refine R_seg sg_126_93 sk_126_93 (pc' := 95) (lv' := [(3, .int 0), (2, .int 0), (0, .ref 57), (1, .int 5)]) (st' := []) (S' := stt σ τ) (kc' := 0) (ks' := 0) rfl ⟨trivial, (by decide), trivial⟩ ?_
      exact l_126 (h5 w_5) 193 0 (by omega) (by omega)
    by_cases w_6 : x1 = 6
    · rw [w_6]
      refine R_tsw ck_126_24 128 rfl ?_
      refine R_seg sg_126_128 sk_126_128 (pc' := 132) (lv' := [(2, .int 0), (0, .ref 57), (1, .int 6)]) (st' := [.int (σ 57 10)]) (S' := stt σ τ) (kc' := 0) (ks' := 0) rfl ⟨trivial, rfl, trivial⟩ ?_
      refine R_iret ck_126_132 rfl rfl ?_
      exact h6 w_6
    have w_o : x1.toInt < 0 ∨ 6 < x1.toInt := sw_out (n := 6) (by decide) (fun j hj => by rcases (show j = 0 ∨ j = 1 ∨ j = 2 ∨ j = 3 ∨ j = 4 ∨ j = 5 ∨ j = 6 by omega) with rfl | rfl | rfl | rfl | rfl | rfl | rfl <;> assumption)
    refine R_tsw ck_126_24 133 (by simp only [swT]; rw [if_pos w_o]; rfl) ?_
    refine R_seg sg_126_133 sk_126_133 (pc' := 134) (lv' := [(2, .int 0), (0, .ref 57), (1, .int x1)]) (st' := [.int (-1)]) (S' := stt σ τ) (kc' := 0) (ks' := 0) rfl ⟨trivial, trivial⟩ ?_
    refine R_iret ck_126_134 rfl rfl ?_
    exact hd (fun q => n_a q) w_o
