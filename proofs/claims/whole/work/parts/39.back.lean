/-! ===== Helper.cameBack ===== -/
theorem up2_c {α : Type} (f : Nat → Nat → α) (k i : Nat) (v : α) : up2 f k i v k i = v := by simp [up2, va_up]
theorem up2_d {α : Type} (f : Nat → Nat → α) (k i : Nat) (v : α) {j : Nat} (h : j ≠ i) : up2 f k i v k j = f k j := by simp [up2, va_up, h]
def h_opn (σ : Nat → Nat → Int32) (k : Nat) (now : Int32) : Nat → Nat → Int32 := up2 (up2 (up2 (up2 σ k 5 0) k 6 0) k 7 (now + (up2 (up2 σ k 5 0) k 6 0) k 4)) k 8 (-1)
set_option maxRecDepth 20000 in
theorem x_11 {d : Nat} {σ : Nat → Nat → Int32} {τ : Nat → Nat → Int64} {k : Nat} {c b now : Int32} (hk : kd0[k]? = some (2, 9)) {Post : Option Value → Sto → Prop} (hn : ¬ (¬ σ k 3 ≤ 0 ∧ (¬ σ k 5 = 0 ∨ c = σ k 8)) → Post none (stt σ τ)) (hc : (¬ σ k 3 ≤ 0 ∧ (¬ σ k 5 = 0 ∨ c = σ k 8)) → b = 0 → Post none (stt (h_close σ k) τ)) (ho : (¬ σ k 3 ≤ 0 ∧ (¬ σ k 5 = 0 ∨ c = σ k 8)) → ¬ b = 0 → (σ k 5 = 0 ∨ ¬ σ k 6 + 1 < σ k 3) → Post none (stt (h_opn (up2 σ k 6 (σ k 6 + 1)) k now) τ)) (hi : (¬ σ k 3 ≤ 0 ∧ (¬ σ k 5 = 0 ∨ c = σ k 8)) → ¬ b = 0 → ¬ σ k 5 = 0 → σ k 6 + 1 < σ k 3 → Post none (stt (up2 σ k 6 (σ k 6 + 1)) τ)) : Ex (d + 2) 11 [.ref k, .int c, .int b, .int now] (stt σ τ) 0 0 Post := by
  refine en_11 (Nat.le_of_ble_eq_true rfl) ?_
  show RU_11 (d + 1) (0, 0) Post 0 ([(0, .ref k), (1, .int c), (2, .int b), (3, .int now)]) ([]) (stt σ τ) 0 0
  refine R_seg sg_11_0 sk_11_0 (pc' := 4) (lv' := [(0, .ref k), (1, .int c), (2, .int b), (3, .int now)]) (st' := [.int (σ k 3)]) (S' := stt σ τ) (kc' := 0) (ks' := 0) rfl ⟨trivial, hk, trivial⟩ ?_
  refine R_if ck_11_4 (fun (c_4 : (σ k 3) ≤ 0) => ?_) (fun (c_4 : ¬ (σ k 3) ≤ 0) => ?_)
  · refine R_seg sg_11_26 sk_11_26 (pc' := 27) (lv' := [(0, .ref k), (1, .int c), (2, .int b), (3, .int now)]) (st' := [.int 0]) (S' := stt σ τ) (kc' := 0) (ks' := 0) rfl ⟨trivial, trivial⟩ ?_
    refine R_seg sg_11_27 sk_11_27 (pc' := 31) (lv' := [(4, .int 0), (0, .ref k), (1, .int c), (2, .int b), (3, .int now)]) (st' := [.int 0]) (S' := stt σ τ) (kc' := 0) (ks' := 0) rfl ⟨(by decide), trivial, trivial⟩ ?_
    refine R_if ck_11_31 (fun c => absurd c (show ¬ ¬ (0 : Int32) = 0 from by decide)) (fun _ => ?_)
    refine R_ret ck_11_34 rfl ?_
    first | exact hn (fun zq => zq.1 c_4) | exact hn (fun zq => by rcases zq.2 with z | z; exact z (Classical.not_not.mp c_11); exact c_19 z)
  · have c_4 : ¬ σ k 3 ≤ 0 := c_4
    refine R_seg sg_11_7 sk_11_7 (pc' := 11) (lv' := [(0, .ref k), (1, .int c), (2, .int b), (3, .int now)]) (st' := [.int (σ k 5)]) (S' := stt σ τ) (kc' := 0) (ks' := 0) rfl ⟨trivial, hk, trivial⟩ ?_
    refine R_if ck_11_11 (fun (c_11 : ¬ (σ k 5) = 0) => ?_) (fun (c_11 : ¬ ¬ (σ k 5) = 0) => ?_)
    · refine R_seg sg_11_22 sk_11_22 (pc' := 23) (lv' := [(0, .ref k), (1, .int c), (2, .int b), (3, .int now)]) (st' := [.int 1]) (S' := stt σ τ) (kc' := 0) (ks' := 0) rfl ⟨trivial, trivial⟩ ?_
      refine R_goto ck_11_23 ?_
      refine R_seg sg_11_27 sk_11_27 (pc' := 31) (lv' := [(4, .int 1), (0, .ref k), (1, .int c), (2, .int b), (3, .int now)]) (st' := [.int 1]) (S' := stt σ τ) (kc' := 0) (ks' := 0) rfl ⟨(by decide), trivial, trivial⟩ ?_
      refine R_if ck_11_31 (fun _ => ?_) (fun c => absurd (show ¬ (1 : Int32) = 0 from by decide) c)
      refine R_seg sg_11_35 sk_11_35 (pc' := 36) (lv' := [(4, .int 1), (0, .ref k), (1, .int c), (2, .int b), (3, .int now)]) (st' := [.int b]) (S' := stt σ τ) (kc' := 0) (ks' := 0) rfl ⟨trivial, trivial⟩ ?_
      refine R_if ck_11_36 (fun (c_36 : ¬ b = 0) => ?_) (fun (c_36 : ¬ ¬ b = 0) => ?_)
      · refine R_seg sg_11_44 sk_11_44 (pc' := 58) (lv' := [(4, .int 1), (0, .ref k), (1, .int c), (2, .int b), (3, .int now)]) (st' := [.int ((up2 σ k 6 ((σ k 6) + 1)) k 5)]) (S' := stt (up2 σ k 6 ((σ k 6) + 1)) τ) (kc' := 0) (ks' := 0) rfl ⟨trivial, rfl, hk, trivial, trivial, ⟨hk, ⟨rfl, rfl⟩⟩, trivial, hk, trivial⟩ ?_
        refine R_if ck_11_58 (fun (c_58 : ((up2 σ k 6 ((σ k 6) + 1)) k 5) = 0) => ?_) (fun (c_58 : ¬ ((up2 σ k 6 ((σ k 6) + 1)) k 5) = 0) => ?_)
        · refine R_seg sg_11_72 sk_11_72 (pc' := 74) (lv' := [(4, .int 1), (0, .ref k), (1, .int c), (2, .int b), (3, .int now)]) (st' := [.int now, .ref k]) (S' := stt (up2 σ k 6 ((σ k 6) + 1)) τ) (kc' := 0) (ks' := 0) rfl ⟨trivial, trivial, trivial⟩ ?_
          refine R_virt ck_11_74 k [.int now] 0 0 (r := []) rfl rfl hk (Nat.le_of_ble_eq_true rfl) (Nat.le_refl _) (Nat.le_refl _) ?_
          refine x_12 (d := d) hk ?_
          show RU_11 (d + 1) (0, 0) Post 77 ([(4, .int 1), (0, .ref k), (1, .int c), (2, .int b), (3, .int now)]) ([]) (stt (h_opn (up2 σ k 6 ((σ k 6) + 1)) k now) τ) 0 0
          refine R_ret ck_11_77 rfl ?_
          first | exact ho (by first | exact ⟨c_4, Or.inl c_11⟩ | exact ⟨c_4, Or.inr (Classical.not_not.mp c_19)⟩) c_36 (Or.inl (by rw [up2_d _ _ _ _ (by decide)] at c_58; exact c_58)) | exact ho (by first | exact ⟨c_4, Or.inl c_11⟩ | exact ⟨c_4, Or.inr (Classical.not_not.mp c_19)⟩) c_36 (Or.inr (by rw [up2_c, up2_d _ _ _ _ (by decide)] at c_69; exact c_69))
        · refine R_seg sg_11_61 sk_11_61 (pc' := 69) (lv' := [(4, .int 1), (0, .ref k), (1, .int c), (2, .int b), (3, .int now)]) (st' := [.int ((up2 σ k 6 ((σ k 6) + 1)) k 3), .int ((up2 σ k 6 ((σ k 6) + 1)) k 6)]) (S' := stt (up2 σ k 6 ((σ k 6) + 1)) τ) (kc' := 0) (ks' := 0) rfl ⟨trivial, hk, trivial, hk, trivial⟩ ?_
          refine R_icmp ck_11_69 (fun (c_69 : ((up2 σ k 6 ((σ k 6) + 1)) k 6) < ((up2 σ k 6 ((σ k 6) + 1)) k 3)) => ?_) (fun (c_69 : ¬ ((up2 σ k 6 ((σ k 6) + 1)) k 6) < ((up2 σ k 6 ((σ k 6) + 1)) k 3)) => ?_)
          · refine R_ret ck_11_77 rfl ?_
            exact hi (by first | exact ⟨c_4, Or.inl c_11⟩ | exact ⟨c_4, Or.inr (Classical.not_not.mp c_19)⟩) c_36 (by rw [up2_d _ _ _ _ (by decide)] at c_58; exact c_58) (by rw [up2_c, up2_d _ _ _ _ (by decide)] at c_69; exact c_69)
          · refine R_seg sg_11_72 sk_11_72 (pc' := 74) (lv' := [(4, .int 1), (0, .ref k), (1, .int c), (2, .int b), (3, .int now)]) (st' := [.int now, .ref k]) (S' := stt (up2 σ k 6 ((σ k 6) + 1)) τ) (kc' := 0) (ks' := 0) rfl ⟨trivial, trivial, trivial⟩ ?_
            refine R_virt ck_11_74 k [.int now] 0 0 (r := []) rfl rfl hk (Nat.le_of_ble_eq_true rfl) (Nat.le_refl _) (Nat.le_refl _) ?_
            refine x_12 (d := d) hk ?_
            show RU_11 (d + 1) (0, 0) Post 77 ([(4, .int 1), (0, .ref k), (1, .int c), (2, .int b), (3, .int now)]) ([]) (stt (h_opn (up2 σ k 6 ((σ k 6) + 1)) k now) τ) 0 0
            refine R_ret ck_11_77 rfl ?_
            first | exact ho (by first | exact ⟨c_4, Or.inl c_11⟩ | exact ⟨c_4, Or.inr (Classical.not_not.mp c_19)⟩) c_36 (Or.inl (by rw [up2_d _ _ _ _ (by decide)] at c_58; exact c_58)) | exact ho (by first | exact ⟨c_4, Or.inl c_11⟩ | exact ⟨c_4, Or.inr (Classical.not_not.mp c_19)⟩) c_36 (Or.inr (by rw [up2_c, up2_d _ _ _ _ (by decide)] at c_69; exact c_69))
      · refine R_seg sg_11_39 sk_11_39 (pc' := 40) (lv' := [(4, .int 1), (0, .ref k), (1, .int c), (2, .int b), (3, .int now)]) (st' := [.ref k]) (S' := stt σ τ) (kc' := 0) (ks' := 0) rfl ⟨trivial, trivial⟩ ?_
        refine R_virt ck_11_40 k [] 0 0 (r := []) rfl rfl hk (Nat.le_of_ble_eq_true rfl) (Nat.le_refl _) (Nat.le_refl _) ?_
        refine x_9 (d := d) hk ?_
        show RU_11 (d + 1) (0, 0) Post 43 ([(4, .int 1), (0, .ref k), (1, .int c), (2, .int b), (3, .int now)]) ([]) (stt (h_close σ k) τ) 0 0
        refine R_ret ck_11_43 rfl ?_
        exact hc (by first | exact ⟨c_4, Or.inl c_11⟩ | exact ⟨c_4, Or.inr (Classical.not_not.mp c_19)⟩) (Classical.not_not.mp c_36)
    · refine R_seg sg_11_14 sk_11_14 (pc' := 19) (lv' := [(0, .ref k), (1, .int c), (2, .int b), (3, .int now)]) (st' := [.int (σ k 8), .int c]) (S' := stt σ τ) (kc' := 0) (ks' := 0) rfl ⟨trivial, trivial, hk, trivial⟩ ?_
      refine R_icmp ck_11_19 (fun (c_19 : ¬ c = (σ k 8)) => ?_) (fun (c_19 : ¬ ¬ c = (σ k 8)) => ?_)
      · refine R_seg sg_11_26 sk_11_26 (pc' := 27) (lv' := [(0, .ref k), (1, .int c), (2, .int b), (3, .int now)]) (st' := [.int 0]) (S' := stt σ τ) (kc' := 0) (ks' := 0) rfl ⟨trivial, trivial⟩ ?_
        refine R_seg sg_11_27 sk_11_27 (pc' := 31) (lv' := [(4, .int 0), (0, .ref k), (1, .int c), (2, .int b), (3, .int now)]) (st' := [.int 0]) (S' := stt σ τ) (kc' := 0) (ks' := 0) rfl ⟨(by decide), trivial, trivial⟩ ?_
        refine R_if ck_11_31 (fun c => absurd c (show ¬ ¬ (0 : Int32) = 0 from by decide)) (fun _ => ?_)
        refine R_ret ck_11_34 rfl ?_
        first | exact hn (fun zq => zq.1 c_4) | exact hn (fun zq => by rcases zq.2 with z | z; exact z (Classical.not_not.mp c_11); exact c_19 z)
      · refine R_seg sg_11_22 sk_11_22 (pc' := 23) (lv' := [(0, .ref k), (1, .int c), (2, .int b), (3, .int now)]) (st' := [.int 1]) (S' := stt σ τ) (kc' := 0) (ks' := 0) rfl ⟨trivial, trivial⟩ ?_
        refine R_goto ck_11_23 ?_
        refine R_seg sg_11_27 sk_11_27 (pc' := 31) (lv' := [(4, .int 1), (0, .ref k), (1, .int c), (2, .int b), (3, .int now)]) (st' := [.int 1]) (S' := stt σ τ) (kc' := 0) (ks' := 0) rfl ⟨(by decide), trivial, trivial⟩ ?_
        refine R_if ck_11_31 (fun _ => ?_) (fun c => absurd (show ¬ (1 : Int32) = 0 from by decide) c)
        refine R_seg sg_11_35 sk_11_35 (pc' := 36) (lv' := [(4, .int 1), (0, .ref k), (1, .int c), (2, .int b), (3, .int now)]) (st' := [.int b]) (S' := stt σ τ) (kc' := 0) (ks' := 0) rfl ⟨trivial, trivial⟩ ?_
        refine R_if ck_11_36 (fun (c_36 : ¬ b = 0) => ?_) (fun (c_36 : ¬ ¬ b = 0) => ?_)
        · refine R_seg sg_11_44 sk_11_44 (pc' := 58) (lv' := [(4, .int 1), (0, .ref k), (1, .int c), (2, .int b), (3, .int now)]) (st' := [.int ((up2 σ k 6 ((σ k 6) + 1)) k 5)]) (S' := stt (up2 σ k 6 ((σ k 6) + 1)) τ) (kc' := 0) (ks' := 0) rfl ⟨trivial, rfl, hk, trivial, trivial, ⟨hk, ⟨rfl, rfl⟩⟩, trivial, hk, trivial⟩ ?_
          refine R_if ck_11_58 (fun (c_58 : ((up2 σ k 6 ((σ k 6) + 1)) k 5) = 0) => ?_) (fun (c_58 : ¬ ((up2 σ k 6 ((σ k 6) + 1)) k 5) = 0) => ?_)
          · refine R_seg sg_11_72 sk_11_72 (pc' := 74) (lv' := [(4, .int 1), (0, .ref k), (1, .int c), (2, .int b), (3, .int now)]) (st' := [.int now, .ref k]) (S' := stt (up2 σ k 6 ((σ k 6) + 1)) τ) (kc' := 0) (ks' := 0) rfl ⟨trivial, trivial, trivial⟩ ?_
            refine R_virt ck_11_74 k [.int now] 0 0 (r := []) rfl rfl hk (Nat.le_of_ble_eq_true rfl) (Nat.le_refl _) (Nat.le_refl _) ?_
            refine x_12 (d := d) hk ?_
            show RU_11 (d + 1) (0, 0) Post 77 ([(4, .int 1), (0, .ref k), (1, .int c), (2, .int b), (3, .int now)]) ([]) (stt (h_opn (up2 σ k 6 ((σ k 6) + 1)) k now) τ) 0 0
            refine R_ret ck_11_77 rfl ?_
            first | exact ho (by first | exact ⟨c_4, Or.inl c_11⟩ | exact ⟨c_4, Or.inr (Classical.not_not.mp c_19)⟩) c_36 (Or.inl (by rw [up2_d _ _ _ _ (by decide)] at c_58; exact c_58)) | exact ho (by first | exact ⟨c_4, Or.inl c_11⟩ | exact ⟨c_4, Or.inr (Classical.not_not.mp c_19)⟩) c_36 (Or.inr (by rw [up2_c, up2_d _ _ _ _ (by decide)] at c_69; exact c_69))
          · refine R_seg sg_11_61 sk_11_61 (pc' := 69) (lv' := [(4, .int 1), (0, .ref k), (1, .int c), (2, .int b), (3, .int now)]) (st' := [.int ((up2 σ k 6 ((σ k 6) + 1)) k 3), .int ((up2 σ k 6 ((σ k 6) + 1)) k 6)]) (S' := stt (up2 σ k 6 ((σ k 6) + 1)) τ) (kc' := 0) (ks' := 0) rfl ⟨trivial, hk, trivial, hk, trivial⟩ ?_
            refine R_icmp ck_11_69 (fun (c_69 : ((up2 σ k 6 ((σ k 6) + 1)) k 6) < ((up2 σ k 6 ((σ k 6) + 1)) k 3)) => ?_) (fun (c_69 : ¬ ((up2 σ k 6 ((σ k 6) + 1)) k 6) < ((up2 σ k 6 ((σ k 6) + 1)) k 3)) => ?_)
            · refine R_ret ck_11_77 rfl ?_
              exact hi (by first | exact ⟨c_4, Or.inl c_11⟩ | exact ⟨c_4, Or.inr (Classical.not_not.mp c_19)⟩) c_36 (by rw [up2_d _ _ _ _ (by decide)] at c_58; exact c_58) (by rw [up2_c, up2_d _ _ _ _ (by decide)] at c_69; exact c_69)
            · refine R_seg sg_11_72 sk_11_72 (pc' := 74) (lv' := [(4, .int 1), (0, .ref k), (1, .int c), (2, .int b), (3, .int now)]) (st' := [.int now, .ref k]) (S' := stt (up2 σ k 6 ((σ k 6) + 1)) τ) (kc' := 0) (ks' := 0) rfl ⟨trivial, trivial, trivial⟩ ?_
              refine R_virt ck_11_74 k [.int now] 0 0 (r := []) rfl rfl hk (Nat.le_of_ble_eq_true rfl) (Nat.le_refl _) (Nat.le_refl _) ?_
              refine x_12 (d := d) hk ?_
              show RU_11 (d + 1) (0, 0) Post 77 ([(4, .int 1), (0, .ref k), (1, .int c), (2, .int b), (3, .int now)]) ([]) (stt (h_opn (up2 σ k 6 ((σ k 6) + 1)) k now) τ) 0 0
              refine R_ret ck_11_77 rfl ?_
              first | exact ho (by first | exact ⟨c_4, Or.inl c_11⟩ | exact ⟨c_4, Or.inr (Classical.not_not.mp c_19)⟩) c_36 (Or.inl (by rw [up2_d _ _ _ _ (by decide)] at c_58; exact c_58)) | exact ho (by first | exact ⟨c_4, Or.inl c_11⟩ | exact ⟨c_4, Or.inr (Classical.not_not.mp c_19)⟩) c_36 (Or.inr (by rw [up2_c, up2_d _ _ _ _ (by decide)] at c_69; exact c_69))
        · refine R_seg sg_11_39 sk_11_39 (pc' := 40) (lv' := [(4, .int 1), (0, .ref k), (1, .int c), (2, .int b), (3, .int now)]) (st' := [.ref k]) (S' := stt σ τ) (kc' := 0) (ks' := 0) rfl ⟨trivial, trivial⟩ ?_
          refine R_virt ck_11_40 k [] 0 0 (r := []) rfl rfl hk (Nat.le_of_ble_eq_true rfl) (Nat.le_refl _) (Nat.le_refl _) ?_
          refine x_9 (d := d) hk ?_
          show RU_11 (d + 1) (0, 0) Post 43 ([(4, .int 1), (0, .ref k), (1, .int c), (2, .int b), (3, .int now)]) ([]) (stt (h_close σ k) τ) 0 0
          refine R_ret ck_11_43 rfl ?_
          exact hc (by first | exact ⟨c_4, Or.inl c_11⟩ | exact ⟨c_4, Or.inr (Classical.not_not.mp c_19)⟩) (Classical.not_not.mp c_36)
