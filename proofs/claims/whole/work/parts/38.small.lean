/-! ===== Model.many, rowKey; Calls.finish; Helper.cameBack ===== -/
set_option maxRecDepth 20000 in
theorem x_106 {d : Nat} {σ : Nat → Nat → Int32} {τ : Nat → Nat → Int64} {x f : Nat} (hx : x < 192) (hf : f < 4) {n m : Nat} (hn : σ 79 (x * 4 + f) = nI n) (hn5 : n ≤ 5) (hm : σ 74 (x / 32 * 4 + f) = nI m) (hm5 : m ≤ 5) {Post : Option Value → Sto → Prop} (hp : Post (some (.int (nI (if m ≤ n then m else n)))) (stt σ τ)) : Ex (d + 1) 106 [.ref 57, .int (nI x), .int (nI f)] (stt σ τ) 0 0 Post := by
  refine en_106 (Nat.le_of_ble_eq_true rfl) ?_
  show RU_106 d (0, 0) Post 0 ([(0, .ref 57), (1, .int (nI x)), (2, .int (nI f))]) ([]) (stt σ τ) 0 0
  refine R_seg sg_106_0 sk_106_0 (pc' := 9) (lv' := [(0, .ref 57), (1, .int (nI x)), (2, .int (nI f))]) (st' := [.int ((4 * (nI x)) + (nI f)), .ref 79]) (S' := stt σ τ) (kc' := 0) (ks' := 0) rfl ⟨trivial, rfl, trivial, trivial, trivial, trivial, trivial, trivial⟩ ?_
  refine R_iald ca_106_9 (j := x * 4 + f) rfl (by first | (simp only [nl_0, nl_1, nl_2, nl_3, nl_4, nl_5, nl_6, nl_8, nl_20, nl_31, nl_32, pk_mul, nI_add]; done) | (simp only [nl_0, nl_1, nl_2, nl_3, nl_4, nl_5, nl_6, nl_8, nl_20, nl_31, nl_32, pk_mul, nI_add]; congr 1; omega)) (by omega) ?_
  show RU_106 d (0, 0) Post 10 ([(0, .ref 57), (1, .int (nI x)), (2, .int (nI f))]) ([.int (σ 79 (x * 4 + f))]) (stt σ τ) 0 0
  rw [hn]
  refine R_seg [(.istore_n 3, 1, 0, 0, 0, 0), (.aload_n 0, 1, 0, 0, 0, 0), (.getfield 58, 3, 11, 19, 2, 0), (.iconst 4, 1, 0, 0, 0, 4), (.iload_n 1, 1, 0, 0, 0, 0), (.bipush 32, 2, 0, 0, 0, 32), (.idiv, 1, 0, 0, 0, 0)] (by decide +kernel) (pc' := 20) (lv' := [(3, .int (nI n)), (0, .ref 57), (1, .int (nI x)), (2, .int (nI f))]) (st' := [.int ((nI x) / 32), .int 4, .ref 74]) (S' := stt σ τ) (kc' := 0) (ks' := 0) rfl ⟨(by decide), trivial, rfl, trivial, trivial, trivial, (by decide), trivial⟩ ?_
  rw [show nI x / 32 = nI (x / 32) from pk_div (d := 32) (by omega) (by omega) (by omega)]
  skip
  refine R_seg [(.imul, 1, 0, 0, 0, 0), (.iload_n 2, 1, 0, 0, 0, 0), (.iadd, 1, 0, 0, 0, 0)] (by decide +kernel) (pc' := 23) (lv' := [(3, .int (nI n)), (0, .ref 57), (1, .int (nI x)), (2, .int (nI f))]) (st' := [.int ((4 * (nI (x / 32))) + (nI f)), .ref 74]) (S' := stt σ τ) (kc' := 0) (ks' := 0) rfl ⟨trivial, trivial, trivial, trivial⟩ ?_
  refine R_iald ca_106_23 (j := x / 32 * 4 + f) rfl (by first | (simp only [nl_0, nl_1, nl_2, nl_3, nl_4, nl_5, nl_6, nl_8, nl_20, nl_31, nl_32, pk_mul, nI_add]; done) | (simp only [nl_0, nl_1, nl_2, nl_3, nl_4, nl_5, nl_6, nl_8, nl_20, nl_31, nl_32, pk_mul, nI_add]; congr 1; omega)) (by omega) ?_
  show RU_106 d (0, 0) Post 24 ([(3, .int (nI n)), (0, .ref 57), (1, .int (nI x)), (2, .int (nI f))]) ([.int (σ 74 (x / 32 * 4 + f))]) (stt σ τ) 0 0
  rw [hm]
  refine R_seg sg_106_24 sk_106_24 (pc' := 29) (lv' := [(4, .int (nI m)), (3, .int (nI n)), (0, .ref 57), (1, .int (nI x)), (2, .int (nI f))]) (st' := [.int (nI m), .int (nI n)]) (S' := stt σ τ) (kc' := 0) (ks' := 0) rfl ⟨(by decide), trivial, trivial, trivial⟩ ?_
  refine R_icmp ck_106_29 (fun (c_29 : (nI m) ≤ (nI n)) => ?_) (fun (c_29 : ¬ (nI m) ≤ (nI n)) => ?_)
  · have c_29 : m ≤ n := (nI_leI (a := m) (b := n) (by omega) (by omega)).mp c_29
    refine R_seg sg_106_36 sk_106_36 (pc' := 38) (lv' := [(4, .int (nI m)), (3, .int (nI n)), (0, .ref 57), (1, .int (nI x)), (2, .int (nI f))]) (st' := [.int (nI m)]) (S' := stt σ τ) (kc' := 0) (ks' := 0) rfl ⟨trivial, trivial⟩ ?_
    refine R_iret ck_106_38 rfl rfl ?_
    rw [if_pos c_29] at hp
    exact hp
  · have c_29 : n < m := Nat.not_le.mp (fun zq => c_29 ((nI_leI (a := m) (b := n) (by omega) (by omega)).mpr zq))
    refine R_seg sg_106_32 sk_106_32 (pc' := 33) (lv' := [(4, .int (nI m)), (3, .int (nI n)), (0, .ref 57), (1, .int (nI x)), (2, .int (nI f))]) (st' := [.int (nI n)]) (S' := stt σ τ) (kc' := 0) (ks' := 0) rfl ⟨trivial, trivial⟩ ?_
    refine R_goto ck_106_33 ?_
    refine R_iret ck_106_38 rfl rfl ?_
    rw [if_neg (by omega)] at hp
    exact hp
set_option maxRecDepth 20000 in
theorem x_107 {d : Nat} {σ : Nat → Nat → Int32} {τ : Nat → Nat → Int64} {x f : Nat} (hx : x < 192) (hf : f < 4) {j : Nat} (hj : j ≤ 4) {Post : Option Value → Sto → Prop} (hp : Post (some (.int (nI (rk (σ 80 (x * 4 + f)) j)))) (stt σ τ)) : Ex (d + 1) 107 [.ref 57, .int (nI x), .int (nI f), .int (nI j)] (stt σ τ) 0 0 Post := by
  refine en_107 (Nat.le_of_ble_eq_true rfl) ?_
  show RU_107 d (0, 0) Post 0 ([(0, .ref 57), (1, .int (nI x)), (2, .int (nI f)), (3, .int (nI j))]) ([]) (stt σ τ) 0 0
  refine R_seg sg_107_0 sk_107_0 (pc' := 9) (lv' := [(0, .ref 57), (1, .int (nI x)), (2, .int (nI f)), (3, .int (nI j))]) (st' := [.int ((4 * (nI x)) + (nI f)), .ref 80]) (S' := stt σ τ) (kc' := 0) (ks' := 0) rfl ⟨trivial, rfl, trivial, trivial, trivial, trivial, trivial, trivial⟩ ?_
  refine R_iald ca_107_9 (j := x * 4 + f) rfl (by first | (simp only [nl_0, nl_1, nl_2, nl_3, nl_4, nl_5, nl_6, nl_8, nl_20, nl_31, nl_32, pk_mul, nI_add]; done) | (simp only [nl_0, nl_1, nl_2, nl_3, nl_4, nl_5, nl_6, nl_8, nl_20, nl_31, nl_32, pk_mul, nI_add]; congr 1; omega)) (by omega) ?_
  refine R_seg sg_107_10 sk_107_10 (pc' := 17) (lv' := [(0, .ref 57), (1, .int (nI x)), (2, .int (nI f)), (3, .int (nI j))]) (st' := [.int (((σ 80 (x * 4 + f)) >>> ((5 * (nI j)) &&& 31)) &&& 31)]) (S' := stt σ τ) (kc' := 0) (ks' := 0) rfl ⟨trivial, trivial, trivial, trivial, trivial, trivial, trivial⟩ ?_
  refine R_iret ck_107_17 rfl rfl ?_
  rw [sh_m hj]
  exact hp
set_option maxRecDepth 20000 in
theorem l_4 {d : Nat} {σ : Nat → Nat → Int32} {τ : Nat → Nat → Int64} {k n f e : Nat} {w : Int32} (hn : σ 42 5 = nI n) (hn2 : n ≤ 192) (hen : e ≤ n) (hmid : ∀ i, f ≤ i → i < e → ¬ σ 47 i = 3) (hend : e < n → σ 47 e = 3) {Post : Option Value → Sto → Prop} (hp : Post none (stt (up2 σ 42 6 (nI e)) τ)) : ∀ (nn : Nat) (i : Nat), i ≤ e → f ≤ i → n - i < nn → RU_4 d (0, 0) Post 7 [(0, .ref 42), (1, .int (nI k)), (2, .int w)] [] (stt (up2 σ 42 6 (nI i)) τ) 0 0 := by
  intro nn
  induction nn with
  | zero => intro i h1 h2 h3; exact absurd h3 (by omega)
  | succ nn ih =>
    intro i h1 h2 h3
    refine R_seg sg_4_7 sk_4_7 (pc' := 15) (lv' := [(0, .ref 42), (1, .int (nI k)), (2, .int w)]) (st' := [.int (σ 42 5), .int (nI i)]) (S' := stt (up2 σ 42 6 (nI i)) τ) (kc' := 0) (ks' := 0) rfl ⟨trivial, rfl, trivial, rfl, trivial⟩ ?_
    rw [hn]
    refine R_icmp ck_4_15 (fun (c_15 : (nI n) ≤ (nI i)) => ?_) (fun (c_15 : ¬ (nI n) ≤ (nI i)) => ?_)
    · have c_15 : n ≤ i := (nI_leI (a := n) (b := i) (by omega) (by omega)).mp c_15
      refine R_ret ck_4_44 rfl ?_
      first | (rw [show i = e by omega]; exact hp) | (rw [show i = e from by rcases Nat.lt_or_ge i e with z | z; exact absurd c_28 (hmid i (by omega) z); omega]; exact hp)
    · have c_15 : i < n := Nat.not_le.mp (fun zq => c_15 ((nI_leI (a := n) (b := i) (by omega) (by omega)).mpr zq))
      refine R_seg sg_4_18 sk_4_18 (pc' := 26) (lv' := [(0, .ref 42), (1, .int (nI k)), (2, .int w)]) (st' := [.int (nI i), .ref 47]) (S' := stt (up2 σ 42 6 (nI i)) τ) (kc' := 0) (ks' := 0) rfl ⟨trivial, rfl, trivial, rfl, trivial⟩ ?_
      refine R_iald ca_4_26 (j := i) rfl rfl (by omega) ?_
      refine R_seg sg_4_27 sk_4_27 (pc' := 28) (lv' := [(0, .ref 42), (1, .int (nI k)), (2, .int w)]) (st' := [.int 3, .int (σ 47 i)]) (S' := stt (up2 σ 42 6 (nI i)) τ) (kc' := 0) (ks' := 0) rfl ⟨trivial, trivial⟩ ?_
      refine R_icmp ck_4_28 (fun (c_28 : (σ 47 i) = 3) => ?_) (fun (c_28 : ¬ (σ 47 i) = 3) => ?_)
      · refine R_ret ck_4_44 rfl ?_
        first | (rw [show i = e by omega]; exact hp) | (rw [show i = e from by rcases Nat.lt_or_ge i e with z | z; exact absurd c_28 (hmid i (by omega) z); omega]; exact hp)
      · refine R_seg sg_4_31 sk_4_31 (pc' := 41) (lv' := [(0, .ref 42), (1, .int (nI k)), (2, .int w)]) (st' := []) (S' := stt (up2 (up2 σ 42 6 (nI i)) 42 6 ((nI i) + 1)) τ) (kc' := 0) (ks' := 0) rfl ⟨trivial, rfl, rfl, trivial, trivial, ⟨rfl, ⟨rfl, rfl⟩⟩, trivial⟩ ?_
        refine R_goto ck_4_41 ?_
        rw [nI_1, up2_up2]
        exact ih (i + 1) (by rcases Nat.lt_or_ge i e with z | z; exact z; exact absurd (hend (by omega)) (by rw [show e = i by omega]; exact c_28)) (by omega) (by omega)
set_option maxRecDepth 20000 in
theorem x_4 {d : Nat} {σ : Nat → Nat → Int32} {τ : Nat → Nat → Int64} {k n f e : Nat} {w : Int32} (hk : k < 192) (hn : σ 42 5 = nI n) (hn2 : n ≤ 192) (hf : σ 42 6 = nI f) (hfe : f ≤ e) (hen : e ≤ n) (hmid : ∀ i, f ≤ i → i < e → ¬ up2 σ 47 k w 47 i = 3) (hend : e < n → up2 σ 47 k w 47 e = 3) {Post : Option Value → Sto → Prop} (hp : Post none (stt (up2 (up2 σ 47 k w) 42 6 (nI e)) τ)) : Ex (d + 1) 4 [.ref 42, .int (nI k), .int w] (stt σ τ) 0 0 Post := by
  refine en_4 (Nat.le_of_ble_eq_true rfl) ?_
  show RU_4 d (0, 0) Post 0 ([(0, .ref 42), (1, .int (nI k)), (2, .int w)]) ([]) (stt σ τ) 0 0
  refine R_seg sg_4_0 sk_4_0 (pc' := 6) (lv' := [(0, .ref 42), (1, .int (nI k)), (2, .int w)]) (st' := [.int w, .int (nI k), .ref 47]) (S' := stt σ τ) (kc' := 0) (ks' := 0) rfl ⟨trivial, rfl, trivial, trivial, trivial⟩ ?_
  refine R_iast ca_4_6 (j := k) rfl rfl (by omega) ?_
  have key := @l_4 d (up2 σ 47 k w) τ k n f e w hn hn2 hen hmid hend Post hp (n + 1) f hfe (Nat.le_refl _) (by omega)
  rw [up2_same (show (up2 σ 47 k w) 42 6 = nI f from hf)] at key
  exact key
