/-! ===== Model: next, begins, reads ===== -/
theorem up2_same {α : Type} {f : Nat → Nat → α} {k i : Nat} {v : α} (h : f k i = v) : up2 f k i v = f := by
  funext k2 i2
  unfold up2 va_up
  by_cases hk : k2 = k
  · simp only [hk, if_true]
    by_cases hi : i2 = i
    · simp only [hi, if_true, h]
    · simp only [hi, if_false]
  · simp only [hk, if_false]
theorem l_98 {d : Nat} {σ : Nat → Nat → Int32} {τ : Nat → Nat → Int64} {q len : Nat} (hlen : σ 57 32 = nI len) (hlen2 : len ≤ 200) (hq2 : q ≤ len) (hne : q < len → ¬ σ 86 q = 32) {Post : Option Value → Sto → Prop} (h1 : q = len → Post (some (.int (-1))) (stt (up2 σ 57 33 (nI q)) τ)) (h0 : q < len → Post (some (.int (σ 86 q &&& 255))) (stt (up2 σ 57 33 (nI q)) τ)) : ∀ (n p : Nat), q - p = n → p ≤ q → (∀ i, p ≤ i → i < q → σ 86 i = 32) → RU_98 d (0, 0) Post 0 [(0, .ref 57)] [] (stt (up2 σ 57 33 (nI p)) τ) 0 0 := by
  intro n
  induction n with
  | zero =>
    intro p hn hp hbl
    have e : p = q := by omega
    subst e
    exact s_98e hlen hlen2 hq2 hne h1 h0
  | succ n ih =>
    intro p hn hp hbl
    exact s_98b hlen hlen2 (by omega) (hbl p (Nat.le_refl _) (by omega)) (ih (p + 1) (by omega) (by omega) (fun i h2 h3 => hbl i (by omega) h3))
theorem x_98 {d : Nat} {σ : Nat → Nat → Int32} {τ : Nat → Nat → Int64} {p q len : Nat} (hat : σ 57 33 = nI p) (hlen : σ 57 32 = nI len) (hlen2 : len ≤ 200) (hp : p ≤ q) (hq2 : q ≤ len) (hbl : ∀ i, p ≤ i → i < q → σ 86 i = 32) (hne : q < len → ¬ σ 86 q = 32) {Post : Option Value → Sto → Prop} (h1 : q = len → Post (some (.int (-1))) (stt (up2 σ 57 33 (nI q)) τ)) (h0 : q < len → Post (some (.int (σ 86 q &&& 255))) (stt (up2 σ 57 33 (nI q)) τ)) : Ex (d + 1) 98 [.ref 57] (stt σ τ) 0 0 Post := by
  refine en_98 (Nat.le_of_ble_eq_true rfl) ?_
  have key := l_98 (d := d) (τ := τ) hlen hlen2 hq2 hne h1 h0 (q - p) p rfl hp hbl
  rw [up2_same hat] at key
  exact key
def m_beg (σ : Nat → Nat → Int32) (nd dp p : Nat) (ty : Int32) : Nat → Nat → Int32 := up2 (up2 (up2 (up2 (up2 (up2 σ 87 nd ty) 88 nd (nI p)) 89 nd 0) 93 dp (nI nd)) 57 35 (nI nd + 1)) 57 33 (nI p + 1)
set_option maxRecDepth 20000 in
theorem x_100 {d : Nat} {σ : Nat → Nat → Int32} {τ : Nat → Nat → Int64} {nd dp p : Nat} {ty : Int32} {mn : Int64} (hnd : σ 57 35 = nI nd) (hnd2 : nd ≤ 20) (hdp : dp ≤ 5) (hat : σ 57 33 = nI p) (hp2 : p ≤ 200) (hft : σ 57 34 = 0) {Post : Option Value → Sto → Prop} (hf : (nd = 20 ∨ dp = 5) → Post none (stt (up2 σ 57 34 (nI (1 + 4 * p + 1))) τ)) (hs : nd < 20 → dp < 5 → Post none (stt (m_beg σ nd dp p ty) (up2 τ 92 nd mn))) : Ex (d + 2) 100 [.ref 57, .int ty, .long mn, .int (nI dp)] (stt σ τ) 0 0 Post := by
  refine en_100 (Nat.le_of_ble_eq_true rfl) ?_
  show RU_100 (d + 1) (0, 0) Post 0 ([(0, .ref 57), (1, .int ty), (2, .long mn), (4, .int (nI dp))]) ([]) (stt σ τ) 0 0
  refine R_seg sg_100_0 sk_100_0 (pc' := 6) (lv' := [(0, .ref 57), (1, .int ty), (2, .long mn), (4, .int (nI dp))]) (st' := [.int 20, .int (σ 57 35)]) (S' := stt σ τ) (kc' := 0) (ks' := 0) rfl ⟨trivial, rfl, trivial, trivial⟩ ?_
  rw [hnd]
  refine R_icmp ck_100_6 (fun (c_6 : (nI nd) = 20) => ?_) (fun (c_6 : ¬ (nI nd) = 20) => ?_)
  · have c_6 : nd = 20 := (nI_eq (a := nd) (b := 20) (by omega) (by omega)).mp c_6
    refine R_seg sg_100_15 sk_100_15 (pc' := 21) (lv' := [(0, .ref 57), (1, .int ty), (2, .long mn), (4, .int (nI dp))]) (st' := [.int (σ 57 33), .int 1, .ref 57]) (S' := stt σ τ) (kc' := 0) (ks' := 0) rfl ⟨trivial, trivial, trivial, rfl, trivial⟩ ?_
    rw [hat]
    refine R_virt ck_100_21 57 [.int 1, .int (nI p)] 0 0 (r := []) rfl rfl rfl (Nat.le_of_ble_eq_true rfl) (Nat.le_refl _) (Nat.le_refl _) ?_
    refine x_99 (d := d) (fun _ => ?_) (fun zq => absurd hft zq)
    rw [show ((1 : Int32) + 4 * (nI p)) + 1 = nI (1 + 4 * p + 1) from by simp only [nl_0, nl_1, nl_2, nl_3, nl_4, nl_5, nl_6, nl_8, nl_20, nl_31, nl_32, pk_mul, nI_add]]
    show RU_100 (d + 1) (0, 0) Post 24 ([(0, .ref 57), (1, .int ty), (2, .long mn), (4, .int (nI dp))]) ([]) (stt (up2 σ 57 34 (nI (1 + 4 * p + 1))) τ) 0 0
    refine R_ret ck_100_24 rfl ?_
    exact hf (by omega)
  · have c_6 : ¬ nd = 20 := fun zq => c_6 ((nI_eq (a := nd) (b := 20) (by omega) (by omega)).mpr zq)
    refine R_seg sg_100_9 sk_100_9 (pc' := 12) (lv' := [(0, .ref 57), (1, .int ty), (2, .long mn), (4, .int (nI dp))]) (st' := [.int 5, .int (nI dp)]) (S' := stt σ τ) (kc' := 0) (ks' := 0) rfl ⟨trivial, trivial, trivial⟩ ?_
    refine R_icmp ck_100_12 (fun (c_12 : ¬ (nI dp) = 5) => ?_) (fun (c_12 : ¬ ¬ (nI dp) = 5) => ?_)
    · have c_12 : ¬ dp = 5 := fun zq => c_12 ((nI_eq (a := dp) (b := 5) (by omega) (by omega)).mpr zq)
      refine R_seg sg_100_25 sk_100_25 (pc' := 34) (lv' := [(0, .ref 57), (1, .int ty), (2, .long mn), (4, .int (nI dp))]) (st' := [.int ty, .int (σ 57 35), .ref 87]) (S' := stt σ τ) (kc' := 0) (ks' := 0) rfl ⟨trivial, rfl, trivial, rfl, trivial, trivial⟩ ?_
      rw [hnd]
      refine R_iast ca_100_34 (j := nd) rfl rfl (by omega) ?_
      refine R_seg sg_100_35 sk_100_35 (pc' := 47) (lv' := [(0, .ref 57), (1, .int ty), (2, .long mn), (4, .int (nI dp))]) (st' := [.int (σ 57 33), .int (σ 57 35), .ref 88]) (S' := stt (up2 σ 87 nd ty) τ) (kc' := 0) (ks' := 0) rfl ⟨trivial, rfl, trivial, rfl, trivial, rfl, trivial⟩ ?_
      rw [hnd]
      rw [hat]
      refine R_iast ca_100_47 (j := nd) rfl rfl (by omega) ?_
      refine R_seg sg_100_48 sk_100_48 (pc' := 57) (lv' := [(0, .ref 57), (1, .int ty), (2, .long mn), (4, .int (nI dp))]) (st' := [.int 0, .int (σ 57 35), .ref 89]) (S' := stt (up2 (up2 σ 87 nd ty) 88 nd (nI p)) τ) (kc' := 0) (ks' := 0) rfl ⟨trivial, rfl, trivial, rfl, trivial, trivial⟩ ?_
      rw [hnd]
      refine R_iast ca_100_57 (j := nd) rfl rfl (by omega) ?_
      refine R_seg sg_100_58 sk_100_58 (pc' := 67) (lv' := [(0, .ref 57), (1, .int ty), (2, .long mn), (4, .int (nI dp))]) (st' := [.long mn, .int (σ 57 35), .ref 92]) (S' := stt (up2 (up2 (up2 σ 87 nd ty) 88 nd (nI p)) 89 nd 0) τ) (kc' := 0) (ks' := 0) rfl ⟨trivial, rfl, trivial, rfl, trivial, trivial⟩ ?_
      rw [hnd]
      refine R_last ca_100_67 (j := nd) rfl rfl (by omega) ?_
      refine R_seg sg_100_68 sk_100_68 (pc' := 78) (lv' := [(0, .ref 57), (1, .int ty), (2, .long mn), (4, .int (nI dp))]) (st' := [.int (σ 57 35), .int (nI dp), .ref 93]) (S' := stt (up2 (up2 (up2 σ 87 nd ty) 88 nd (nI p)) 89 nd 0) (up2 τ 92 nd mn)) (kc' := 0) (ks' := 0) rfl ⟨trivial, rfl, trivial, trivial, rfl, trivial⟩ ?_
      rw [hnd]
      refine R_iast ca_100_78 (j := dp) rfl rfl (by omega) ?_
      refine R_seg sg_100_79 sk_100_79 (pc' := 99) (lv' := [(0, .ref 57), (1, .int ty), (2, .long mn), (4, .int (nI dp))]) (st' := []) (S' := stt (up2 (up2 (up2 (up2 (up2 (up2 σ 87 nd ty) 88 nd (nI p)) 89 nd 0) 93 dp (nI nd)) 57 35 ((σ 57 35) + 1)) 57 33 ((σ 57 33) + 1)) (up2 τ 92 nd mn)) (kc' := 0) (ks' := 0) rfl ⟨trivial, rfl, rfl, trivial, trivial, ⟨rfl, ⟨rfl, rfl⟩⟩, trivial, rfl, rfl, trivial, trivial, ⟨rfl, ⟨rfl, rfl⟩⟩, trivial⟩ ?_
      refine R_ret ck_100_99 rfl ?_
      rw [hnd, hat]
      exact hs (by omega) (by omega)
    · have c_12 : dp = 5 := (nI_eq (a := dp) (b := 5) (by omega) (by omega)).mp (Classical.not_not.mp c_12)
      refine R_seg sg_100_15 sk_100_15 (pc' := 21) (lv' := [(0, .ref 57), (1, .int ty), (2, .long mn), (4, .int (nI dp))]) (st' := [.int (σ 57 33), .int 1, .ref 57]) (S' := stt σ τ) (kc' := 0) (ks' := 0) rfl ⟨trivial, trivial, trivial, rfl, trivial⟩ ?_
      rw [hat]
      refine R_virt ck_100_21 57 [.int 1, .int (nI p)] 0 0 (r := []) rfl rfl rfl (Nat.le_of_ble_eq_true rfl) (Nat.le_refl _) (Nat.le_refl _) ?_
      refine x_99 (d := d) (fun _ => ?_) (fun zq => absurd hft zq)
      rw [show ((1 : Int32) + 4 * (nI p)) + 1 = nI (1 + 4 * p + 1) from by simp only [nl_0, nl_1, nl_2, nl_3, nl_4, nl_5, nl_6, nl_8, nl_20, nl_31, nl_32, pk_mul, nI_add]]
      show RU_100 (d + 1) (0, 0) Post 24 ([(0, .ref 57), (1, .int ty), (2, .long mn), (4, .int (nI dp))]) ([]) (stt (up2 σ 57 34 (nI (1 + 4 * p + 1))) τ) 0 0
      refine R_ret ck_100_24 rfl ?_
      exact hf (by omega)
set_option maxRecDepth 20000 in
theorem s_97f {d : Nat} {σ : Nat → Nat → Int32} {τ : Nat → Nat → Int64} {dp ty : Int32} (hf : ¬ σ 57 34 = 0) {Post : Option Value → Sto → Prop} (hp : Post none (stt σ τ)) : RU_97 d (0, 0) Post 43 [(2, .int dp), (0, .ref 57), (1, .int ty)] [] (stt σ τ) 0 0 := by
  refine R_seg sg_97_43 sk_97_43 (pc' := 47) (lv' := [(2, .int dp), (0, .ref 57), (1, .int ty)]) (st' := [.int (σ 57 34)]) (S' := stt σ τ) (kc' := 0) (ks' := 0) rfl ⟨trivial, rfl, trivial⟩ ?_
  refine R_if ck_97_47 (fun (c_47 : ¬ (σ 57 34) = 0) => ?_) (fun (c_47 : ¬ ¬ (σ 57 34) = 0) => ?_)
  · refine R_seg sg_97_309 sk_97_309 (pc' := 313) (lv' := [(2, .int dp), (0, .ref 57), (1, .int ty)]) (st' := [.int (σ 57 34)]) (S' := stt σ τ) (kc' := 0) (ks' := 0) rfl ⟨trivial, rfl, trivial⟩ ?_
    refine R_if ck_97_313 (fun (c_313 : ¬ (σ 57 34) = 0) => ?_) (fun (c_313 : ¬ ¬ (σ 57 34) = 0) => ?_)
    · refine R_ret ck_97_333 rfl ?_
      exact hp
    · exact absurd (Classical.not_not.mp c_313) hf
  · exact absurd (Classical.not_not.mp c_47) hf
