/-! ===== ranges ===== -/
def rg (x : Int32) (a b : Nat) : Prop := ∃ j : Nat, a ≤ j ∧ j ≤ b ∧ x = nI j
theorem rg_of {x : Int32} {a b : Nat} (ha : a < 2147483648) (hb : b < 2147483648) (h1 : ¬ x < nI a) (h2 : x ≤ nI b) : rg x a b := by
  have h0 : ¬ x < 0 := by
    intro h
    apply h1
    rw [Int32.lt_iff_toInt_lt] at h ⊢
    rw [nI_toInt ha]
    have : (0 : Int32).toInt = 0 := rfl
    omega
  obtain ⟨j, hj, rfl⟩ := nI_of h0
  rw [nI_ltI hj ha] at h1
  rw [nI_leI hj hb] at h2
  exact ⟨j, by omega, h2, rfl⟩
theorem rg_no {x : Int32} {a b : Nat} (ha : a < 2147483648) (hb : b < 2147483648) (h : rg x a b) : ¬ x < nI a ∧ x ≤ nI b := by
  obtain ⟨j, h1, h2, rfl⟩ := h
  rw [nI_ltI (by omega) ha, nI_leI (by omega) hb]
  omega
set_option maxRecDepth 20000 in
theorem x_57 {d : Nat} {S : Sto} {x lo hi : Int32} {Post : Option Value → Sto → Prop} (h1 : ¬ x < lo → ¬ hi < x → Post (some (.int 1)) S) (h0 : x < lo ∨ hi < x → Post (some (.int 0)) S) : Ex (d + 1) 57 [.int x, .int lo, .int hi] S 0 0 Post := by
  refine en_57 (Nat.le_of_ble_eq_true rfl) ?_
  show RU_57 d (0, 0) Post 0 ([(0, .int x), (1, .int lo), (2, .int hi)]) ([]) S 0 0
  refine R_seg sg_57_0 sk_57_0 (pc' := 2) (lv' := [(0, .int x), (1, .int lo), (2, .int hi)]) (st' := [.int lo, .int x]) (S' := S) (kc' := 0) (ks' := 0) rfl ⟨trivial, trivial, trivial⟩ ?_
  refine R_icmp ck_57_2 (fun (c_2 : x < lo) => ?_) (fun (c_2 : ¬ x < lo) => ?_)
  · refine R_seg sg_57_14 sk_57_14 (pc' := 15) (lv' := [(0, .int x), (1, .int lo), (2, .int hi)]) (st' := [.int 0]) (S' := S) (kc' := 0) (ks' := 0) rfl ⟨trivial, trivial⟩ ?_
    refine R_iret ck_57_15 rfl rfl ?_
    first | exact h0 (Or.inl (by assumption)) | exact h0 (Or.inr (by assumption))
  · refine R_seg sg_57_5 sk_57_5 (pc' := 7) (lv' := [(0, .int x), (1, .int lo), (2, .int hi)]) (st' := [.int hi, .int x]) (S' := S) (kc' := 0) (ks' := 0) rfl ⟨trivial, trivial, trivial⟩ ?_
    refine R_icmp ck_57_7 (fun (c_7 : hi < x) => ?_) (fun (c_7 : ¬ hi < x) => ?_)
    · refine R_seg sg_57_14 sk_57_14 (pc' := 15) (lv' := [(0, .int x), (1, .int lo), (2, .int hi)]) (st' := [.int 0]) (S' := S) (kc' := 0) (ks' := 0) rfl ⟨trivial, trivial⟩ ?_
      refine R_iret ck_57_15 rfl rfl ?_
      first | exact h0 (Or.inl (by assumption)) | exact h0 (Or.inr (by assumption))
    · refine R_seg sg_57_10 sk_57_10 (pc' := 11) (lv' := [(0, .int x), (1, .int lo), (2, .int hi)]) (st' := [.int 1]) (S' := S) (kc' := 0) (ks' := 0) rfl ⟨trivial, trivial⟩ ?_
      refine R_goto ck_57_11 ?_
      refine R_iret ck_57_15 rfl rfl ?_
      exact h1 (by assumption) (by assumption)
theorem xn_57 {d : Nat} {S : Sto} {x : Int32} (a b : Nat) (ha : a < 2147483648) (hb : b < 2147483648) {Post : Option Value → Sto → Prop} (h1 : ∀ j : Nat, a ≤ j → j ≤ b → x = nI j → Post (some (.int 1)) S) (h0 : ¬ rg x a b → Post (some (.int 0)) S) : Ex (d + 1) 57 [.int x, .int (nI a), .int (nI b)] S 0 0 Post := by
  refine x_57 (fun q1 q2 => ?_) (fun q => ?_)
  · obtain ⟨j, j1, j2, j3⟩ := rg_of ha hb q1 (Int32.not_lt.mp q2)
    exact h1 j j1 j2 j3
  · refine h0 (fun h => ?_)
    have h2 := rg_no ha hb h
    rcases q with q | q
    · exact h2.1 q
    · exact absurd h2.2 (Int32.not_le.mpr q)
set_option maxRecDepth 20000 in
theorem x_81 {d : Nat} {S : Sto} {x lo hi : Int32} {Post : Option Value → Sto → Prop} (h1 : ¬ x < lo → ¬ hi < x → Post (some (.int 1)) S) (h0 : x < lo ∨ hi < x → Post (some (.int 0)) S) : Ex (d + 1) 81 [.int x, .int lo, .int hi] S 0 0 Post := by
  refine en_81 (Nat.le_of_ble_eq_true rfl) ?_
  show RU_81 d (0, 0) Post 0 ([(0, .int x), (1, .int lo), (2, .int hi)]) ([]) S 0 0
  refine R_seg sg_81_0 sk_81_0 (pc' := 2) (lv' := [(0, .int x), (1, .int lo), (2, .int hi)]) (st' := [.int lo, .int x]) (S' := S) (kc' := 0) (ks' := 0) rfl ⟨trivial, trivial, trivial⟩ ?_
  refine R_icmp ck_81_2 (fun (c_2 : x < lo) => ?_) (fun (c_2 : ¬ x < lo) => ?_)
  · refine R_seg sg_81_14 sk_81_14 (pc' := 15) (lv' := [(0, .int x), (1, .int lo), (2, .int hi)]) (st' := [.int 0]) (S' := S) (kc' := 0) (ks' := 0) rfl ⟨trivial, trivial⟩ ?_
    refine R_iret ck_81_15 rfl rfl ?_
    first | exact h0 (Or.inl (by assumption)) | exact h0 (Or.inr (by assumption))
  · refine R_seg sg_81_5 sk_81_5 (pc' := 7) (lv' := [(0, .int x), (1, .int lo), (2, .int hi)]) (st' := [.int hi, .int x]) (S' := S) (kc' := 0) (ks' := 0) rfl ⟨trivial, trivial, trivial⟩ ?_
    refine R_icmp ck_81_7 (fun (c_7 : hi < x) => ?_) (fun (c_7 : ¬ hi < x) => ?_)
    · refine R_seg sg_81_14 sk_81_14 (pc' := 15) (lv' := [(0, .int x), (1, .int lo), (2, .int hi)]) (st' := [.int 0]) (S' := S) (kc' := 0) (ks' := 0) rfl ⟨trivial, trivial⟩ ?_
      refine R_iret ck_81_15 rfl rfl ?_
      first | exact h0 (Or.inl (by assumption)) | exact h0 (Or.inr (by assumption))
    · refine R_seg sg_81_10 sk_81_10 (pc' := 11) (lv' := [(0, .int x), (1, .int lo), (2, .int hi)]) (st' := [.int 1]) (S' := S) (kc' := 0) (ks' := 0) rfl ⟨trivial, trivial⟩ ?_
      refine R_goto ck_81_11 ?_
      refine R_iret ck_81_15 rfl rfl ?_
      exact h1 (by assumption) (by assumption)
theorem xn_81 {d : Nat} {S : Sto} {x : Int32} (a b : Nat) (ha : a < 2147483648) (hb : b < 2147483648) {Post : Option Value → Sto → Prop} (h1 : ∀ j : Nat, a ≤ j → j ≤ b → x = nI j → Post (some (.int 1)) S) (h0 : ¬ rg x a b → Post (some (.int 0)) S) : Ex (d + 1) 81 [.int x, .int (nI a), .int (nI b)] S 0 0 Post := by
  refine x_81 (fun q1 q2 => ?_) (fun q => ?_)
  · obtain ⟨j, j1, j2, j3⟩ := rg_of ha hb q1 (Int32.not_lt.mp q2)
    exact h1 j j1 j2 j3
  · refine h0 (fun h => ?_)
    have h2 := rg_no ha hb h
    rcases q with q | q
    · exact h2.1 q
    · exact absurd h2.2 (Int32.not_le.mpr q)
set_option maxRecDepth 20000 in
theorem x_62 {d : Nat} {S : Sto} {x y : Int32} {Post : Option Value → Sto → Prop} (h1 : ∀ t k : Nat, t < 6 → k < 32 → x = nI t → y = nI k → Post (some (.int 1)) S) (h0 : ¬ (rg x 0 5 ∧ rg y 0 31) → Post (some (.int 0)) S) : Ex (d + 2) 62 [.int x, .int y] S 0 0 Post := by
  refine en_62 (Nat.le_of_ble_eq_true rfl) ?_
  show RU_62 (d + 1) (0, 0) Post 0 ([(0, .int x), (1, .int y)]) ([]) S 0 0
  refine R_seg sg_62_0 sk_62_0 (pc' := 3) (lv' := [(0, .int x), (1, .int y)]) (st' := [.int 5, .int 0, .int x]) (S' := S) (kc' := 0) (ks' := 0) rfl ⟨trivial, trivial, trivial, trivial⟩ ?_
  refine R_stat ck_62_3 (by decide) [.int x, .int 0, .int 5] 0 0 (r := []) rfl rfl (Nat.le_of_ble_eq_true rfl) (Nat.le_refl _) (Nat.le_refl _) ?_
  refine xn_57 (d := d) 0 5 (by omega) (by omega) (fun t l_t u_t e_t => ?_) (fun n_t => ?_)
  · subst e_t
    show RU_62 (d + 1) (0, 0) Post 6 ([(0, .int (nI t)), (1, .int y)]) ([.int 1]) S 0 0
    refine R_if ck_62_6 (fun c => absurd c (show ¬ (1 : Int32) = 0 from by decide)) (fun _ => ?_)
    refine R_seg sg_62_9 sk_62_9 (pc' := 13) (lv' := [(0, .int (nI t)), (1, .int y)]) (st' := [.int 31, .int 0, .int y]) (S' := S) (kc' := 0) (ks' := 0) rfl ⟨trivial, trivial, trivial, trivial⟩ ?_
    refine R_stat ck_62_13 (by decide) [.int y, .int 0, .int 31] 0 0 (r := []) rfl rfl (Nat.le_of_ble_eq_true rfl) (Nat.le_refl _) (Nat.le_refl _) ?_
    refine xn_57 (d := d) 0 31 (by omega) (by omega) (fun k l_k u_k e_k => ?_) (fun n_k => ?_)
    · subst e_k
      show RU_62 (d + 1) (0, 0) Post 16 ([(0, .int (nI t)), (1, .int (nI k))]) ([.int 1]) S 0 0
      refine R_if ck_62_16 (fun c => absurd c (show ¬ (1 : Int32) = 0 from by decide)) (fun _ => ?_)
      refine R_seg sg_62_19 sk_62_19 (pc' := 20) (lv' := [(0, .int (nI t)), (1, .int (nI k))]) (st' := [.int 1]) (S' := S) (kc' := 0) (ks' := 0) rfl ⟨trivial, trivial⟩ ?_
      refine R_goto ck_62_20 ?_
      refine R_iret ck_62_24 rfl rfl ?_
      exact h1 t k (by omega) (by omega) rfl rfl
    · show RU_62 (d + 1) (0, 0) Post 16 ([(0, .int (nI t)), (1, .int y)]) ([.int 0]) S 0 0
      refine R_if ck_62_16 (fun _ => ?_) (fun c => absurd (show (0 : Int32) = 0 from by decide) c)
      refine R_seg sg_62_23 sk_62_23 (pc' := 24) (lv' := [(0, .int (nI t)), (1, .int y)]) (st' := [.int 0]) (S' := S) (kc' := 0) (ks' := 0) rfl ⟨trivial, trivial⟩ ?_
      refine R_iret ck_62_24 rfl rfl ?_
      exact h0 (fun q => by first | exact n_t q.1 | exact n_k q.2)
  · show RU_62 (d + 1) (0, 0) Post 6 ([(0, .int x), (1, .int y)]) ([.int 0]) S 0 0
    refine R_if ck_62_6 (fun _ => ?_) (fun c => absurd (show (0 : Int32) = 0 from by decide) c)
    refine R_seg sg_62_23 sk_62_23 (pc' := 24) (lv' := [(0, .int x), (1, .int y)]) (st' := [.int 0]) (S' := S) (kc' := 0) (ks' := 0) rfl ⟨trivial, trivial⟩ ?_
    refine R_iret ck_62_24 rfl rfl ?_
    exact h0 (fun q => by first | exact n_t q.1 | exact n_k q.2)
set_option maxRecDepth 20000 in
theorem x_86 {d : Nat} {S : Sto} {x y : Int32} {Post : Option Value → Sto → Prop} (h1 : ∀ t k : Nat, t < 6 → k < 32 → x = nI t → y = nI k → Post (some (.int 1)) S) (h0 : ¬ (rg x 0 5 ∧ rg y 0 31) → Post (some (.int 0)) S) : Ex (d + 2) 86 [.int x, .int y] S 0 0 Post := by
  refine en_86 (Nat.le_of_ble_eq_true rfl) ?_
  show RU_86 (d + 1) (0, 0) Post 0 ([(0, .int x), (1, .int y)]) ([]) S 0 0
  refine R_seg sg_86_0 sk_86_0 (pc' := 3) (lv' := [(0, .int x), (1, .int y)]) (st' := [.int 5, .int 0, .int x]) (S' := S) (kc' := 0) (ks' := 0) rfl ⟨trivial, trivial, trivial, trivial⟩ ?_
  refine R_stat ck_86_3 (by decide) [.int x, .int 0, .int 5] 0 0 (r := []) rfl rfl (Nat.le_of_ble_eq_true rfl) (Nat.le_refl _) (Nat.le_refl _) ?_
  refine xn_81 (d := d) 0 5 (by omega) (by omega) (fun t l_t u_t e_t => ?_) (fun n_t => ?_)
  · subst e_t
    show RU_86 (d + 1) (0, 0) Post 6 ([(0, .int (nI t)), (1, .int y)]) ([.int 1]) S 0 0
    refine R_if ck_86_6 (fun c => absurd c (show ¬ (1 : Int32) = 0 from by decide)) (fun _ => ?_)
    refine R_seg sg_86_9 sk_86_9 (pc' := 13) (lv' := [(0, .int (nI t)), (1, .int y)]) (st' := [.int 31, .int 0, .int y]) (S' := S) (kc' := 0) (ks' := 0) rfl ⟨trivial, trivial, trivial, trivial⟩ ?_
    refine R_stat ck_86_13 (by decide) [.int y, .int 0, .int 31] 0 0 (r := []) rfl rfl (Nat.le_of_ble_eq_true rfl) (Nat.le_refl _) (Nat.le_refl _) ?_
    refine xn_81 (d := d) 0 31 (by omega) (by omega) (fun k l_k u_k e_k => ?_) (fun n_k => ?_)
    · subst e_k
      show RU_86 (d + 1) (0, 0) Post 16 ([(0, .int (nI t)), (1, .int (nI k))]) ([.int 1]) S 0 0
      refine R_if ck_86_16 (fun c => absurd c (show ¬ (1 : Int32) = 0 from by decide)) (fun _ => ?_)
      refine R_seg sg_86_19 sk_86_19 (pc' := 20) (lv' := [(0, .int (nI t)), (1, .int (nI k))]) (st' := [.int 1]) (S' := S) (kc' := 0) (ks' := 0) rfl ⟨trivial, trivial⟩ ?_
      refine R_goto ck_86_20 ?_
      refine R_iret ck_86_24 rfl rfl ?_
      exact h1 t k (by omega) (by omega) rfl rfl
    · show RU_86 (d + 1) (0, 0) Post 16 ([(0, .int (nI t)), (1, .int y)]) ([.int 0]) S 0 0
      refine R_if ck_86_16 (fun _ => ?_) (fun c => absurd (show (0 : Int32) = 0 from by decide) c)
      refine R_seg sg_86_23 sk_86_23 (pc' := 24) (lv' := [(0, .int (nI t)), (1, .int y)]) (st' := [.int 0]) (S' := S) (kc' := 0) (ks' := 0) rfl ⟨trivial, trivial⟩ ?_
      refine R_iret ck_86_24 rfl rfl ?_
      exact h0 (fun q => by first | exact n_t q.1 | exact n_k q.2)
  · show RU_86 (d + 1) (0, 0) Post 6 ([(0, .int x), (1, .int y)]) ([.int 0]) S 0 0
    refine R_if ck_86_6 (fun _ => ?_) (fun c => absurd (show (0 : Int32) = 0 from by decide) c)
    refine R_seg sg_86_23 sk_86_23 (pc' := 24) (lv' := [(0, .int x), (1, .int y)]) (st' := [.int 0]) (S' := S) (kc' := 0) (ks' := 0) rfl ⟨trivial, trivial⟩ ?_
    refine R_iret ck_86_24 rfl rfl ?_
    exact h0 (fun q => by first | exact n_t q.1 | exact n_k q.2)
theorem sw_out {x : Int32} {n : Nat} (hn : n < 2147483648) (h : ∀ j : Nat, j ≤ n → ¬ x = nI j) : x.toInt < 0 ∨ (n : Int) < x.toInt := by
  by_cases h0 : x < 0
  · left
    rw [Int32.lt_iff_toInt_lt] at h0
    exact h0
  · obtain ⟨j, hj, rfl⟩ := nI_of h0
    right
    rw [nI_toInt hj]
    by_cases hjn : j ≤ n
    · exact absurd rfl (h j hjn)
    · omega
theorem vz {x : Int32} (h : x = 0 ∨ x = 1) : vp_nar .boolean x = x := by rcases h with rfl | rfl <;> rfl
/-- a row of a cell is filled from a up to b -/
def fl2 (σ : Nat → Nat → Int32) (k a b : Nat) (v : Int32) : Nat → Nat → Int32 := fun k' => if k' = k then (fun i => if a ≤ i ∧ i < b then v else σ k i) else σ k'
theorem fl2_0 (σ : Nat → Nat → Int32) (k a : Nat) (v : Int32) : fl2 σ k a a v = σ := by
  funext k' i
  unfold fl2
  by_cases h : k' = k
  · rw [if_pos h, if_neg (by omega), h]
  · rw [if_neg h]
theorem fl2_s (σ : Nat → Nat → Int32) (k a b : Nat) (v : Int32) (h : a ≤ b) : up2 (fl2 σ k a b v) k b v = fl2 σ k a (b + 1) v := by
  funext k' i
  unfold up2 va_up fl2
  by_cases hk : k' = k
  · simp only [hk, if_true]
    by_cases hi : i = b
    · simp only [hi, if_true]
      rw [if_pos (by omega)]
    · simp only [hi, if_false]
      by_cases h2 : a ≤ i ∧ i < b
      · rw [if_pos h2, if_pos (by omega)]
      · rw [if_neg h2, if_neg (by omega)]
  · simp only [hk, if_false]
theorem xm_57 {d : Nat} {S : Sto} {x : Int32} (L : Nat) (hL : L < 2147483648) {Post : Option Value → Sto → Prop} (h1 : ∀ j : Nat, j < L → x = nI j → Post (some (.int 1)) S) (h0 : ¬ (∃ j : Nat, j < L ∧ x = nI j) → Post (some (.int 0)) S) : Ex (d + 1) 57 [.int x, .int 0, .int (nI L - 1)] S 0 0 Post := by
  have hm : (nI L - 1).toInt = (L : Int) - 1 := by
    cases L with
    | zero => rfl
    | succ n => rw [nI_pred, nI_toInt (by omega)]; omega
  refine x_57 (fun q1 q2 => ?_) (fun q => ?_)
  · obtain ⟨j, hj, rfl⟩ := nI_of q1
    rw [Int32.lt_iff_toInt_lt, hm, nI_toInt hj] at q2
    exact h1 j (by omega) rfl
  · refine h0 (fun h => ?_)
    obtain ⟨j, hj, rfl⟩ := h
    rcases q with q | q
    · exact nI_pos (by omega) q
    · rw [Int32.lt_iff_toInt_lt, hm, nI_toInt (by omega)] at q
      omega
theorem xm_81 {d : Nat} {S : Sto} {x : Int32} (L : Nat) (hL : L < 2147483648) {Post : Option Value → Sto → Prop} (h1 : ∀ j : Nat, j < L → x = nI j → Post (some (.int 1)) S) (h0 : ¬ (∃ j : Nat, j < L ∧ x = nI j) → Post (some (.int 0)) S) : Ex (d + 1) 81 [.int x, .int 0, .int (nI L - 1)] S 0 0 Post := by
  have hm : (nI L - 1).toInt = (L : Int) - 1 := by
    cases L with
    | zero => rfl
    | succ n => rw [nI_pred, nI_toInt (by omega)]; omega
  refine x_81 (fun q1 q2 => ?_) (fun q => ?_)
  · obtain ⟨j, hj, rfl⟩ := nI_of q1
    rw [Int32.lt_iff_toInt_lt, hm, nI_toInt hj] at q2
    exact h1 j (by omega) rfl
  · refine h0 (fun h => ?_)
    obtain ⟨j, hj, rfl⟩ := h
    rcases q with q | q
    · exact nI_pos (by omega) q
    · rw [Int32.lt_iff_toInt_lt, hm, nI_toInt (by omega)] at q
      omega
/-- how many of the first n have P -/
noncomputable def cntP (P : Nat → Prop) : Nat → Nat
  | 0 => 0
  | n + 1 => cntP P n + (@ite Nat (P n) (Classical.propDecidable _) 1 0)
theorem cntP_t {P : Nat → Prop} {n : Nat} (h : P n) : cntP P (n + 1) = cntP P n + 1 := by
  show cntP P n + (@ite Nat (P n) (Classical.propDecidable _) 1 0) = cntP P n + 1
  rw [if_pos h]
theorem cntP_f {P : Nat → Prop} {n : Nat} (h : ¬ P n) : cntP P (n + 1) = cntP P n := by
  show cntP P n + (@ite Nat (P n) (Classical.propDecidable _) 1 0) = cntP P n
  rw [if_neg h, Nat.add_zero]
theorem cntP_le (P : Nat → Prop) : ∀ n, cntP P n ≤ n
  | 0 => Nat.le_refl _
  | n + 1 => by
    have := cntP_le P n
    by_cases h : P n
    · rw [cntP_t h]; omega
    · rw [cntP_f h]; omega
theorem cntP_c {P Q : Nat → Prop} : ∀ n, (∀ i, i < n → (P i ↔ Q i)) → cntP P n = cntP Q n
  | 0, _ => rfl
  | n + 1, h => by
    have ih := cntP_c n (fun i hi => h i (by omega))
    by_cases hp : P n
    · rw [cntP_t hp, cntP_t ((h n (by omega)).mp hp), ih]
    · rw [cntP_f hp, cntP_f (fun q => hp ((h n (by omega)).mpr q)), ih]
theorem nk_10 : (10 : Int32) = nI 10 := rfl
theorem nk_60 : (60 : Int32) = nI 60 := rfl
theorem nk_180 : (180 : Int32) = nI 180 := rfl
theorem nk_192 : (192 : Int32) = nI 192 := rfl
theorem nk_200 : (200 : Int32) = nI 200 := rfl
theorem nk_255 : (255 : Int32) = nI 255 := rfl
theorem nk_100000 : (100000 : Int32) = nI 100000 := rfl
