/-! ===== small methods of the round ===== -/
set_option maxRecDepth 20000 in
theorem x_40 {d : Nat} {σ : Nat → Nat → Int32} {τ : Nat → Nat → Int64} {x f : Nat} (hx : x < 192) (hf : f < 4) {Post : Option Value → Sto → Prop} (hp : Post (some (.int (nI (x / 32 * 4 + f)))) (stt σ τ)) : Ex (d + 1) 40 [.ref 16, .int (nI x), .int (nI f)] (stt σ τ) 0 0 Post := by
  refine en_40 (Nat.le_of_ble_eq_true rfl) ?_
  show RU_40 d (0, 0) Post 0 ([(0, .ref 16), (1, .int (nI x)), (2, .int (nI f))]) ([]) (stt σ τ) 0 0
  refine R_seg [(.iload_n 1, 1, 0, 0, 0, 0), (.bipush 32, 2, 0, 0, 0, 32), (.idiv, 1, 0, 0, 0, 0)] (by decide +kernel) (pc' := 4) (lv' := [(0, .ref 16), (1, .int (nI x)), (2, .int (nI f))]) (st' := [.int ((nI x) / 32)]) (S' := stt σ τ) (kc' := 0) (ks' := 0) rfl ⟨trivial, trivial, (by decide), trivial⟩ ?_
  rw [show nI x / 32 = nI (x / 32) from pk_div (d := 32) (by omega) (by omega) (by omega)]
  skip
  refine R_seg [(.iconst 4, 1, 0, 0, 0, 4), (.imul, 1, 0, 0, 0, 0), (.iload_n 2, 1, 0, 0, 0, 0), (.iadd, 1, 0, 0, 0, 0)] (by decide +kernel) (pc' := 8) (lv' := [(0, .ref 16), (1, .int (nI x)), (2, .int (nI f))]) (st' := [.int (((nI (x / 32)) * 4) + (nI f))]) (S' := stt σ τ) (kc' := 0) (ks' := 0) rfl ⟨trivial, trivial, trivial, trivial, trivial⟩ ?_
  refine R_iret ck_40_8 rfl rfl ?_
  rw [show nI (x / 32) * 4 + nI f = nI (x / 32 * 4 + f) from by simp only [nl_0, nl_1, nl_2, nl_3, nl_4, nl_5, nl_6, nl_8, nl_20, nl_31, nl_32, pk_mul, nI_add]]
  exact hp
set_option maxRecDepth 20000 in
theorem x_42 {d : Nat} {σ : Nat → Nat → Int32} {τ : Nat → Nat → Int64} {x lf : Nat} {now : Int32} (hx : x < 192) (hlf : σ 19 (x / 32) = nI lf) (hlf2 : lf ≤ 999) {Post : Option Value → Sto → Prop} (h0 : lf = 0 → Post none (stt σ τ)) (h1 : 0 < lf → Post none (stt (up2 σ 25 x (now + nI lf)) τ)) : Ex (d + 1) 42 [.ref 16, .int (nI x), .int now] (stt σ τ) 0 0 Post := by
  refine en_42 (Nat.le_of_ble_eq_true rfl) ?_
  show RU_42 d (0, 0) Post 0 ([(0, .ref 16), (1, .int (nI x)), (2, .int now)]) ([]) (stt σ τ) 0 0
  refine R_seg sg_42_0 sk_42_0 (pc' := 8) (lv' := [(0, .ref 16), (1, .int (nI x)), (2, .int now)]) (st' := [.int ((nI x) / 32), .ref 19]) (S' := stt σ τ) (kc' := 0) (ks' := 0) rfl ⟨trivial, rfl, trivial, trivial, (by decide), trivial⟩ ?_
  rw [show nI x / 32 = nI (x / 32) from pk_div (d := 32) (by omega) (by omega) (by omega)]
  refine R_iald ca_42_8 (j := x / 32) rfl rfl (by omega) ?_
  show RU_42 d (0, 0) Post 9 ([(0, .ref 16), (1, .int (nI x)), (2, .int now)]) ([.int (σ 19 (x / 32))]) (stt σ τ) 0 0
  rw [hlf]
  refine R_seg sg_42_9 sk_42_9 (pc' := 11) (lv' := [(3, .int (nI lf)), (0, .ref 16), (1, .int (nI x)), (2, .int now)]) (st' := [.int (nI lf)]) (S' := stt σ τ) (kc' := 0) (ks' := 0) rfl ⟨(by decide), trivial, trivial⟩ ?_
  refine R_if ck_42_11 (fun (c_11 : (nI lf) ≤ 0) => ?_) (fun (c_11 : ¬ (nI lf) ≤ 0) => ?_)
  · have c_11 : lf ≤ 0 := (nI_leI (a := lf) (b := 0) (by omega) (by omega)).mp c_11
    refine R_ret ck_42_23 rfl ?_
    exact h0 (by omega)
  · have c_11 : 0 < lf := Nat.not_le.mp (fun zq => c_11 ((nI_leI (a := lf) (b := 0) (by omega) (by omega)).mpr zq))
    refine R_seg sg_42_14 sk_42_14 (pc' := 22) (lv' := [(3, .int (nI lf)), (0, .ref 16), (1, .int (nI x)), (2, .int now)]) (st' := [.int (now + (nI lf)), .int (nI x), .ref 25]) (S' := stt σ τ) (kc' := 0) (ks' := 0) rfl ⟨trivial, rfl, trivial, trivial, trivial, trivial, trivial⟩ ?_
    refine R_iast ca_42_22 (j := x) rfl rfl (by omega) ?_
    refine R_ret ck_42_23 rfl ?_
    exact h1 (by omega)
set_option maxRecDepth 20000 in
theorem x_1 {d : Nat} {σ : Nat → Nat → Int32} {τ : Nat → Nat → Int64} {Post : Option Value → Sto → Prop} (hp : Post none (stt (up2 (up2 (up2 σ 42 5 0) 42 6 0) 42 9 0) τ)) : Ex (d + 1) 1 [.ref 42] (stt σ τ) 0 0 Post := by
  refine en_1 (Nat.le_of_ble_eq_true rfl) ?_
  show RU_1 d (0, 0) Post 0 ([(0, .ref 42)]) ([]) (stt σ τ) 0 0
  refine R_seg sg_1_0 sk_1_0 (pc' := 15) (lv' := [(0, .ref 42)]) (st' := []) (S' := stt (up2 (up2 (up2 σ 42 5 0) 42 6 0) 42 9 0) τ) (kc' := 0) (ks' := 0) rfl ⟨trivial, trivial, ⟨rfl, ⟨rfl, rfl⟩⟩, trivial, trivial, ⟨rfl, ⟨rfl, rfl⟩⟩, trivial, trivial, ⟨rfl, ⟨rfl, rfl⟩⟩, trivial⟩ ?_
  refine R_ret ck_1_15 rfl ?_
  exact hp
def c_begin (σ : Nat → Nat → Int32) (n : Nat) (h t now : Int32) : Nat → Nat → Int32 := up2 (up2 (up2 (up2 (up2 (up2 (up2 σ 43 n h) 44 n t) 45 n now) 46 n 0) 47 n 3) 48 n (σ 42 9)) 42 5 (nI n + 1)
set_option maxRecDepth 20000 in
theorem x_2 {d : Nat} {σ : Nat → Nat → Int32} {τ : Nat → Nat → Int64} {n : Nat} {h t now : Int32} (hn : σ 42 5 = nI n) (hn2 : n < 192) {Post : Option Value → Sto → Prop} (hp : Post none (stt (c_begin σ n h t now) τ)) : Ex (d + 1) 2 [.ref 42, .int h, .int t, .int now] (stt σ τ) 0 0 Post := by
  refine en_2 (Nat.le_of_ble_eq_true rfl) ?_
  show RU_2 d (0, 0) Post 0 ([(0, .ref 42), (1, .int h), (2, .int t), (3, .int now)]) ([]) (stt σ τ) 0 0
  refine R_seg sg_2_0 sk_2_0 (pc' := 7) (lv' := [(0, .ref 42), (1, .int h), (2, .int t), (3, .int now)]) (st' := [.int 192, .int (σ 42 5)]) (S' := stt σ τ) (kc' := 0) (ks' := 0) rfl ⟨trivial, rfl, trivial, trivial⟩ ?_
  rw [hn]
  refine R_icmp ck_2_7 (fun (c_7 : (nI n) < 192) => ?_) (fun (c_7 : ¬ (nI n) < 192) => ?_)
  · have c_7 : n < 192 := (nI_ltI (a := n) (b := 192) (by omega) (by omega)).mp c_7
    refine R_seg sg_2_11 sk_2_11 (pc' := 20) (lv' := [(0, .ref 42), (1, .int h), (2, .int t), (3, .int now)]) (st' := [.int h, .int (σ 42 5), .ref 43]) (S' := stt σ τ) (kc' := 0) (ks' := 0) rfl ⟨trivial, rfl, trivial, rfl, trivial, trivial⟩ ?_
    rw [hn]
    refine R_iast ca_2_20 (j := n) rfl rfl (by omega) ?_
    refine R_seg sg_2_21 sk_2_21 (pc' := 30) (lv' := [(0, .ref 42), (1, .int h), (2, .int t), (3, .int now)]) (st' := [.int t, .int (σ 42 5), .ref 44]) (S' := stt (up2 σ 43 n h) τ) (kc' := 0) (ks' := 0) rfl ⟨trivial, rfl, trivial, rfl, trivial, trivial⟩ ?_
    rw [hn]
    refine R_iast ca_2_30 (j := n) rfl rfl (by omega) ?_
    refine R_seg sg_2_31 sk_2_31 (pc' := 40) (lv' := [(0, .ref 42), (1, .int h), (2, .int t), (3, .int now)]) (st' := [.int now, .int (σ 42 5), .ref 45]) (S' := stt (up2 (up2 σ 43 n h) 44 n t) τ) (kc' := 0) (ks' := 0) rfl ⟨trivial, rfl, trivial, rfl, trivial, trivial⟩ ?_
    rw [hn]
    refine R_iast ca_2_40 (j := n) rfl rfl (by omega) ?_
    refine R_seg sg_2_41 sk_2_41 (pc' := 50) (lv' := [(0, .ref 42), (1, .int h), (2, .int t), (3, .int now)]) (st' := [.int 0, .int (σ 42 5), .ref 46]) (S' := stt (up2 (up2 (up2 σ 43 n h) 44 n t) 45 n now) τ) (kc' := 0) (ks' := 0) rfl ⟨trivial, rfl, trivial, rfl, trivial, trivial⟩ ?_
    rw [hn]
    refine R_iast ca_2_50 (j := n) rfl rfl (by omega) ?_
    refine R_seg sg_2_51 sk_2_51 (pc' := 60) (lv' := [(0, .ref 42), (1, .int h), (2, .int t), (3, .int now)]) (st' := [.int 3, .int (σ 42 5), .ref 47]) (S' := stt (up2 (up2 (up2 (up2 σ 43 n h) 44 n t) 45 n now) 46 n 0) τ) (kc' := 0) (ks' := 0) rfl ⟨trivial, rfl, trivial, rfl, trivial, trivial⟩ ?_
    rw [hn]
    refine R_iast ca_2_60 (j := n) rfl rfl (by omega) ?_
    refine R_seg sg_2_61 sk_2_61 (pc' := 73) (lv' := [(0, .ref 42), (1, .int h), (2, .int t), (3, .int now)]) (st' := [.int (σ 42 9), .int (σ 42 5), .ref 48]) (S' := stt (up2 (up2 (up2 (up2 (up2 σ 43 n h) 44 n t) 45 n now) 46 n 0) 47 n 3) τ) (kc' := 0) (ks' := 0) rfl ⟨trivial, rfl, trivial, rfl, trivial, rfl, trivial⟩ ?_
    rw [hn]
    refine R_iast ca_2_73 (j := n) rfl rfl (by omega) ?_
    refine R_seg sg_2_74 sk_2_74 (pc' := 84) (lv' := [(0, .ref 42), (1, .int h), (2, .int t), (3, .int now)]) (st' := []) (S' := stt (up2 (up2 (up2 (up2 (up2 (up2 (up2 σ 43 n h) 44 n t) 45 n now) 46 n 0) 47 n 3) 48 n (σ 42 9)) 42 5 ((σ 42 5) + 1)) τ) (kc' := 0) (ks' := 0) rfl ⟨trivial, rfl, rfl, trivial, trivial, ⟨rfl, ⟨rfl, rfl⟩⟩, trivial⟩ ?_
    refine R_ret ck_2_84 rfl ?_
    rw [hn]
    exact hp
  · have c_7 : 192 ≤ n := Nat.not_lt.mp (fun zq => c_7 ((nI_ltI (a := n) (b := 192) (by omega) (by omega)).mpr zq))
    omega
def c_addKey (σ : Nat → Nat → Int32) (n a : Nat) (k : Int32) : Nat → Nat → Int32 := up2 (up2 (up2 σ 49 a k) 42 9 (nI a + 1)) 46 (n - 1) (σ 46 (n - 1) + 1)
set_option maxRecDepth 20000 in
theorem x_3 {d : Nat} {σ : Nat → Nat → Int32} {τ : Nat → Nat → Int64} {n a : Nat} {k : Int32} (hn : σ 42 5 = nI n) (hn1 : 1 ≤ n) (hn2 : n ≤ 192) (ha : σ 42 9 = nI a) (ha2 : a < 192) {Post : Option Value → Sto → Prop} (hp : Post none (stt (c_addKey σ n a k) τ)) : Ex (d + 1) 3 [.ref 42, .int k] (stt σ τ) 0 0 Post := by
  refine en_3 (Nat.le_of_ble_eq_true rfl) ?_
  show RU_3 d (0, 0) Post 0 ([(0, .ref 42), (1, .int k)]) ([]) (stt σ τ) 0 0
  refine R_seg sg_3_0 sk_3_0 (pc' := 5) (lv' := [(0, .ref 42), (1, .int k)]) (st' := [.int 1, .int (σ 42 5)]) (S' := stt σ τ) (kc' := 0) (ks' := 0) rfl ⟨trivial, rfl, trivial, trivial⟩ ?_
  rw [hn]
  refine R_icmp ck_3_5 (fun (c_5 : (nI n) < 1) => ?_) (fun (c_5 : ¬ (nI n) < 1) => ?_)
  · have c_5 : n < 1 := (nI_ltI (a := n) (b := 1) (by omega) (by omega)).mp c_5
    omega
  · have c_5 : 1 ≤ n := Nat.not_lt.mp (fun zq => c_5 ((nI_ltI (a := n) (b := 1) (by omega) (by omega)).mpr zq))
    refine R_seg sg_3_8 sk_3_8 (pc' := 15) (lv' := [(0, .ref 42), (1, .int k)]) (st' := [.int 192, .int (σ 42 9)]) (S' := stt σ τ) (kc' := 0) (ks' := 0) rfl ⟨trivial, rfl, trivial, trivial⟩ ?_
    rw [ha]
    refine R_icmp ck_3_15 (fun (c_15 : (nI a) < 192) => ?_) (fun (c_15 : ¬ (nI a) < 192) => ?_)
    · have c_15 : a < 192 := (nI_ltI (a := a) (b := 192) (by omega) (by omega)).mp c_15
      refine R_seg sg_3_19 sk_3_19 (pc' := 28) (lv' := [(0, .ref 42), (1, .int k)]) (st' := [.int k, .int (σ 42 9), .ref 49]) (S' := stt σ τ) (kc' := 0) (ks' := 0) rfl ⟨trivial, rfl, trivial, rfl, trivial, trivial⟩ ?_
      rw [ha]
      refine R_iast ca_3_28 (j := a) rfl rfl (by omega) ?_
      refine R_seg sg_3_29 sk_3_29 (pc' := 50) (lv' := [(0, .ref 42), (1, .int k)]) (st' := [.int ((σ 42 5) - 1), .ref 46, .int ((σ 42 5) - 1), .ref 46]) (S' := stt (up2 (up2 σ 49 a k) 42 9 ((σ 42 9) + 1)) τ) (kc' := 0) (ks' := 0) rfl ⟨trivial, rfl, rfl, trivial, trivial, ⟨rfl, ⟨rfl, rfl⟩⟩, trivial, rfl, trivial, rfl, trivial, trivial, ⟨rfl, rfl⟩, trivial⟩ ?_
      rw [hn]
      rw [show nI n - 1 = nI (n - 1) from pk_sub (b := 1) (by omega)]
      refine R_iald ca_3_50 (j := n - 1) rfl rfl (by omega) ?_
      refine R_seg sg_3_51 sk_3_51 (pc' := 53) (lv' := [(0, .ref 42), (1, .int k)]) (st' := [.int ((σ 46 (n - 1)) + 1), .int (nI (n - 1)), .ref 46]) (S' := stt (up2 (up2 σ 49 a k) 42 9 ((σ 42 9) + 1)) τ) (kc' := 0) (ks' := 0) rfl ⟨trivial, trivial, trivial⟩ ?_
      refine R_iast ca_3_53 (j := n - 1) rfl rfl (by omega) ?_
      refine R_ret ck_3_54 rfl ?_
      first | exact hp | (rw [ha]; exact hp)
    · have c_15 : 192 ≤ a := Nat.not_lt.mp (fun zq => c_15 ((nI_ltI (a := a) (b := 192) (by omega) (by omega)).mpr zq))
      omega
set_option maxRecDepth 20000 in
theorem x_32 {d : Nat} {σ : Nat → Nat → Int32} {τ : Nat → Nat → Int64} {fw n ft a : Nat} (h1 : σ 42 6 = nI fw) (h2 : σ 42 5 = nI n) (h3 : σ 50 9 = nI ft) (h4 : σ 50 1 = nI a) (b1 : fw ≤ 192) (b2 : n ≤ 192) (b3 : ft ≤ 192) (b4 : a ≤ 192) {Post : Option Value → Sto → Prop} (hy : n ≤ fw → a ≤ ft → Post (some (.int 1)) (stt σ τ)) (hn : (fw < n ∨ ft < a) → Post (some (.int 0)) (stt σ τ)) : Ex (d + 1) 32 [.ref 50] (stt σ τ) 0 0 Post := by
  refine en_32 (Nat.le_of_ble_eq_true rfl) ?_
  show RU_32 d (0, 0) Post 0 ([(0, .ref 50)]) ([]) (stt σ τ) 0 0
  refine R_seg sg_32_0 sk_32_0 (pc' := 14) (lv' := [(0, .ref 50)]) (st' := [.int (σ 42 5), .int (σ 42 6)]) (S' := stt σ τ) (kc' := 0) (ks' := 0) rfl ⟨trivial, rfl, rfl, trivial, rfl, rfl, trivial⟩ ?_
  rw [h1]
  rw [h2]
  refine R_icmp ck_32_14 (fun (c_14 : (nI fw) < (nI n)) => ?_) (fun (c_14 : ¬ (nI fw) < (nI n)) => ?_)
  · have c_14 : fw < n := (nI_ltI (a := fw) (b := n) (by omega) (by omega)).mp c_14
    refine R_seg sg_32_32 sk_32_32 (pc' := 33) (lv' := [(0, .ref 50)]) (st' := [.int 0]) (S' := stt σ τ) (kc' := 0) (ks' := 0) rfl ⟨trivial, trivial⟩ ?_
    refine R_iret ck_32_33 rfl rfl ?_
    exact hn (by omega)
  · have c_14 : n ≤ fw := Nat.not_lt.mp (fun zq => c_14 ((nI_ltI (a := fw) (b := n) (by omega) (by omega)).mpr zq))
    refine R_seg sg_32_17 sk_32_17 (pc' := 25) (lv' := [(0, .ref 50)]) (st' := [.int (σ 50 1), .int (σ 50 9)]) (S' := stt σ τ) (kc' := 0) (ks' := 0) rfl ⟨trivial, rfl, trivial, rfl, trivial⟩ ?_
    rw [h3]
    rw [h4]
    refine R_icmp ck_32_25 (fun (c_25 : (nI ft) < (nI a)) => ?_) (fun (c_25 : ¬ (nI ft) < (nI a)) => ?_)
    · have c_25 : ft < a := (nI_ltI (a := ft) (b := a) (by omega) (by omega)).mp c_25
      refine R_seg sg_32_32 sk_32_32 (pc' := 33) (lv' := [(0, .ref 50)]) (st' := [.int 0]) (S' := stt σ τ) (kc' := 0) (ks' := 0) rfl ⟨trivial, trivial⟩ ?_
      refine R_iret ck_32_33 rfl rfl ?_
      exact hn (by omega)
    · have c_25 : a ≤ ft := Nat.not_lt.mp (fun zq => c_25 ((nI_ltI (a := ft) (b := a) (by omega) (by omega)).mpr zq))
      refine R_seg sg_32_28 sk_32_28 (pc' := 29) (lv' := [(0, .ref 50)]) (st' := [.int 1]) (S' := stt σ τ) (kc' := 0) (ks' := 0) rfl ⟨trivial, trivial⟩ ?_
      refine R_goto ck_32_29 ?_
      refine R_iret ck_32_33 rfl rfl ?_
      exact hy (by omega) (by omega)
def c_put (σ : Nat → Nat → Int32) (n : Nat) (v : Int32) : Nat → Nat → Int32 := up2 (up2 σ 56 n v) 55 1 (nI (n + 1))
set_option maxRecDepth 20000 in
theorem x_49 {d : Nat} {σ : Nat → Nat → Int32} {τ : Nat → Nat → Int64} {n : Nat} {v : Int32} (hn : σ 55 1 = nI n) (hn2 : n < 3500) {Post : Option Value → Sto → Prop} (hp : Post none (stt (c_put σ n v) τ)) : Ex (d + 1) 49 [.ref 55, .int v] (stt σ τ) 0 0 Post := by
  refine en_49 (Nat.le_of_ble_eq_true rfl) ?_
  show RU_49 d (0, 0) Post 0 ([(0, .ref 55), (1, .int v)]) ([]) (stt σ τ) 0 0
  refine R_seg sg_49_0 sk_49_0 (pc' := 7) (lv' := [(0, .ref 55), (1, .int v)]) (st' := [.int 3500, .int (σ 55 1)]) (S' := stt σ τ) (kc' := 0) (ks' := 0) rfl ⟨trivial, rfl, trivial, trivial⟩ ?_
  rw [hn]
  refine R_icmp ck_49_7 (fun (c_7 : 3500 ≤ (nI n)) => ?_) (fun (c_7 : ¬ 3500 ≤ (nI n)) => ?_)
  · have c_7 : 3500 ≤ n := (nI_leI (a := 3500) (b := n) (by omega) (by omega)).mp c_7
    omega
  · have c_7 : n < 3500 := Nat.not_le.mp (fun zq => c_7 ((nI_leI (a := 3500) (b := n) (by omega) (by omega)).mpr zq))
    refine R_seg sg_49_10 sk_49_10 (pc' := 19) (lv' := [(0, .ref 55), (1, .int v)]) (st' := [.int v, .int (σ 55 1), .ref 56]) (S' := stt σ τ) (kc' := 0) (ks' := 0) rfl ⟨trivial, rfl, trivial, rfl, trivial, trivial⟩ ?_
    rw [hn]
    refine R_iast ca_49_19 (j := n) rfl rfl (by omega) ?_
    refine R_seg sg_49_20 sk_49_20 (pc' := 30) (lv' := [(0, .ref 55), (1, .int v)]) (st' := []) (S' := stt (up2 (up2 σ 56 n v) 55 1 ((σ 55 1) + 1)) τ) (kc' := 0) (ks' := 0) rfl ⟨trivial, rfl, rfl, trivial, trivial, ⟨rfl, ⟨rfl, rfl⟩⟩, trivial⟩ ?_
    refine R_ret ck_49_30 rfl ?_
    first | (rw [nI_1]; exact hp) | (rw [hn, nI_1]; exact hp)
set_option maxRecDepth 20000 in
theorem x_48 {d : Nat} {σ : Nat → Nat → Int32} {τ : Nat → Nat → Int64} {n : Nat} {v : Int32} (hn : σ 55 1 = nI n) (hn2 : n + 1 < 3500) {Post : Option Value → Sto → Prop} (hp : Post (some (.int 0)) (stt (c_put (c_put (up2 σ 55 5 1) n 0) (n + 1) v) τ)) : Ex (d + 2) 48 [.ref 55, .int v] (stt σ τ) 0 0 Post := by
  refine en_48 (Nat.le_of_ble_eq_true rfl) ?_
  show RU_48 (d + 1) (0, 0) Post 0 ([(0, .ref 55), (1, .int v)]) ([]) (stt σ τ) 0 0
  refine R_seg sg_48_0 sk_48_0 (pc' := 7) (lv' := [(0, .ref 55), (1, .int v)]) (st' := [.int 0, .ref 55]) (S' := stt (up2 σ 55 5 1) τ) (kc' := 0) (ks' := 0) rfl ⟨trivial, trivial, ⟨rfl, ⟨rfl, rfl⟩⟩, trivial, trivial, trivial⟩ ?_
  refine R_virt ck_48_7 55 [.int 0] 0 0 (r := []) rfl rfl rfl (Nat.le_of_ble_eq_true rfl) (Nat.le_refl _) (Nat.le_refl _) ?_
  refine x_49 (d := d) (σ := up2 σ 55 5 1) (n := n) hn (by omega) ?_
  show RU_48 (d + 1) (0, 0) Post 10 ([(0, .ref 55), (1, .int v)]) ([]) (stt (c_put (up2 σ 55 5 1) n 0) τ) 0 0
  refine R_seg sg_48_10 sk_48_10 (pc' := 12) (lv' := [(0, .ref 55), (1, .int v)]) (st' := [.int v, .ref 55]) (S' := stt (c_put (up2 σ 55 5 1) n 0) τ) (kc' := 0) (ks' := 0) rfl ⟨trivial, trivial, trivial⟩ ?_
  refine R_virt ck_48_12 55 [.int v] 0 0 (r := []) rfl rfl rfl (Nat.le_of_ble_eq_true rfl) (Nat.le_refl _) (Nat.le_refl _) ?_
  refine x_49 (d := d) (σ := c_put (up2 σ 55 5 1) n 0) (n := n + 1) rfl (by omega) ?_
  show RU_48 (d + 1) (0, 0) Post 15 ([(0, .ref 55), (1, .int v)]) ([]) (stt (c_put (c_put (up2 σ 55 5 1) n 0) (n + 1) v) τ) 0 0
  refine R_seg sg_48_15 sk_48_15 (pc' := 16) (lv' := [(0, .ref 55), (1, .int v)]) (st' := [.int 0]) (S' := stt (c_put (c_put (up2 σ 55 5 1) n 0) (n + 1) v) τ) (kc' := 0) (ks' := 0) rfl ⟨trivial, trivial⟩ ?_
  refine R_iret ck_48_16 rfl rfl ?_
  exact hp
set_option maxRecDepth 20000 in
theorem x_104 {d : Nat} {σ : Nat → Nat → Int32} {τ : Nat → Nat → Int64} {x : Nat} {w : Int32} (hx : x < 192) {Post : Option Value → Sto → Prop} (hp : Post none (stt (up2 (up2 σ 94 x 4) 95 x w) τ)) : Ex (d + 1) 104 [.ref 57, .int (nI x), .int w] (stt σ τ) 0 0 Post := by
  refine en_104 (Nat.le_of_ble_eq_true rfl) ?_
  show RU_104 d (0, 0) Post 0 ([(0, .ref 57), (1, .int (nI x)), (2, .int w)]) ([]) (stt σ τ) 0 0
  refine R_seg sg_104_0 sk_104_0 (pc' := 6) (lv' := [(0, .ref 57), (1, .int (nI x)), (2, .int w)]) (st' := [.int 4, .int (nI x), .ref 94]) (S' := stt σ τ) (kc' := 0) (ks' := 0) rfl ⟨trivial, rfl, trivial, trivial, trivial⟩ ?_
  refine R_iast ca_104_6 (j := x) rfl rfl (by omega) ?_
  refine R_seg sg_104_7 sk_104_7 (pc' := 13) (lv' := [(0, .ref 57), (1, .int (nI x)), (2, .int w)]) (st' := [.int w, .int (nI x), .ref 95]) (S' := stt (up2 σ 94 x 4) τ) (kc' := 0) (ks' := 0) rfl ⟨trivial, rfl, trivial, trivial, trivial⟩ ?_
  refine R_iast ca_104_13 (j := x) rfl rfl (by omega) ?_
  refine R_ret ck_104_14 rfl ?_
  exact hp
set_option maxRecDepth 20000 in
theorem x_111 {d : Nat} {σ : Nat → Nat → Int32} {τ : Nat → Nat → Int64} {h : Nat} (hh : h < 5) {Post : Option Value → Sto → Prop} (hp : Post none (stt (up2 (up2 (up2 σ 64 h (σ 57 1 + σ 62 h)) 63 h 0) 65 h (-1)) τ)) : Ex (d + 1) 111 [.ref 57, .int (nI h)] (stt σ τ) 0 0 Post := by
  refine en_111 (Nat.le_of_ble_eq_true rfl) ?_
  show RU_111 d (0, 0) Post 0 ([(0, .ref 57), (1, .int (nI h))]) ([]) (stt σ τ) 0 0
  refine R_seg sg_111_0 sk_111_0 (pc' := 14) (lv' := [(0, .ref 57), (1, .int (nI h))]) (st' := [.int (nI h), .ref 62, .int (σ 57 1), .int (nI h), .ref 64]) (S' := stt σ τ) (kc' := 0) (ks' := 0) rfl ⟨trivial, rfl, trivial, trivial, rfl, trivial, rfl, trivial, trivial⟩ ?_
  refine R_iald ca_111_14 (j := h) rfl rfl (by omega) ?_
  refine R_seg sg_111_15 sk_111_15 (pc' := 16) (lv' := [(0, .ref 57), (1, .int (nI h))]) (st' := [.int ((σ 57 1) + (σ 62 h)), .int (nI h), .ref 64]) (S' := stt σ τ) (kc' := 0) (ks' := 0) rfl ⟨trivial, trivial⟩ ?_
  refine R_iast ca_111_16 (j := h) rfl rfl (by omega) ?_
  refine R_seg sg_111_17 sk_111_17 (pc' := 23) (lv' := [(0, .ref 57), (1, .int (nI h))]) (st' := [.int 0, .int (nI h), .ref 63]) (S' := stt (up2 σ 64 h ((σ 57 1) + (σ 62 h))) τ) (kc' := 0) (ks' := 0) rfl ⟨trivial, rfl, trivial, trivial, trivial⟩ ?_
  refine R_iast ca_111_23 (j := h) rfl rfl (by omega) ?_
  refine R_seg sg_111_24 sk_111_24 (pc' := 30) (lv' := [(0, .ref 57), (1, .int (nI h))]) (st' := [.int (-1), .int (nI h), .ref 65]) (S' := stt (up2 (up2 σ 64 h ((σ 57 1) + (σ 62 h))) 63 h 0) τ) (kc' := 0) (ks' := 0) rfl ⟨trivial, rfl, trivial, trivial, trivial⟩ ?_
  refine R_iast ca_111_30 (j := h) rfl rfl (by omega) ?_
  refine R_ret ck_111_31 rfl ?_
  exact hp
def m_says (σ : Nat → Nat → Int32) (n : Nat) (v : Int32) : Nat → Nat → Int32 := up2 (up2 σ 104 n v) 57 59 (nI (n + 1))
set_option maxRecDepth 20000 in
theorem x_119 {d : Nat} {σ : Nat → Nat → Int32} {τ : Nat → Nat → Int64} {n : Nat} {v : Int32} (hn : σ 57 59 = nI n) (hn2 : n < 60000) {Post : Option Value → Sto → Prop} (hp : Post none (stt (m_says σ n v) τ)) : Ex (d + 1) 119 [.ref 57, .int v] (stt σ τ) 0 0 Post := by
  refine en_119 (Nat.le_of_ble_eq_true rfl) ?_
  show RU_119 d (0, 0) Post 0 ([(0, .ref 57), (1, .int v)]) ([]) (stt σ τ) 0 0
  refine R_seg sg_119_0 sk_119_0 (pc' := 9) (lv' := [(0, .ref 57), (1, .int v)]) (st' := [.int v, .int (σ 57 59), .ref 104]) (S' := stt σ τ) (kc' := 0) (ks' := 0) rfl ⟨trivial, rfl, trivial, rfl, trivial, trivial⟩ ?_
  rw [hn]
  refine R_iast ca_119_9 (j := n) rfl rfl (by omega) ?_
  refine R_seg sg_119_10 sk_119_10 (pc' := 20) (lv' := [(0, .ref 57), (1, .int v)]) (st' := []) (S' := stt (up2 (up2 σ 104 n v) 57 59 ((σ 57 59) + 1)) τ) (kc' := 0) (ks' := 0) rfl ⟨trivial, rfl, rfl, trivial, trivial, ⟨rfl, ⟨rfl, rfl⟩⟩, trivial⟩ ?_
  refine R_ret ck_119_20 rfl ?_
  first | (rw [nI_1]; exact hp) | (rw [hn, nI_1]; exact hp)
set_option maxRecDepth 20000 in
theorem x_118 {d : Nat} {σ : Nat → Nat → Int32} {τ : Nat → Nat → Int64} {n : Nat} {v : Int32} (hn : σ 57 59 = nI n) (hn2 : n + 1 < 60000) {Post : Option Value → Sto → Prop} (hp : Post none (stt (up2 (m_says (m_says σ n 0) (n + 1) v) 57 60 1) τ)) : Ex (d + 2) 118 [.ref 57, .int v] (stt σ τ) 0 0 Post := by
  refine en_118 (Nat.le_of_ble_eq_true rfl) ?_
  show RU_118 (d + 1) (0, 0) Post 0 ([(0, .ref 57), (1, .int v)]) ([]) (stt σ τ) 0 0
  refine R_seg sg_118_0 sk_118_0 (pc' := 2) (lv' := [(0, .ref 57), (1, .int v)]) (st' := [.int 0, .ref 57]) (S' := stt σ τ) (kc' := 0) (ks' := 0) rfl ⟨trivial, trivial, trivial⟩ ?_
  refine R_virt ck_118_2 57 [.int 0] 0 0 (r := []) rfl rfl rfl (Nat.le_of_ble_eq_true rfl) (Nat.le_refl _) (Nat.le_refl _) ?_
  refine x_119 (d := d) (σ := σ) (n := n) hn (by omega) ?_
  show RU_118 (d + 1) (0, 0) Post 5 ([(0, .ref 57), (1, .int v)]) ([]) (stt (m_says σ n 0) τ) 0 0
  refine R_seg sg_118_5 sk_118_5 (pc' := 7) (lv' := [(0, .ref 57), (1, .int v)]) (st' := [.int v, .ref 57]) (S' := stt (m_says σ n 0) τ) (kc' := 0) (ks' := 0) rfl ⟨trivial, trivial, trivial⟩ ?_
  refine R_virt ck_118_7 57 [.int v] 0 0 (r := []) rfl rfl rfl (Nat.le_of_ble_eq_true rfl) (Nat.le_refl _) (Nat.le_refl _) ?_
  refine x_119 (d := d) (σ := m_says σ n 0) (n := n + 1) rfl (by omega) ?_
  show RU_118 (d + 1) (0, 0) Post 10 ([(0, .ref 57), (1, .int v)]) ([]) (stt (m_says (m_says σ n 0) (n + 1) v) τ) 0 0
  refine R_seg sg_118_10 sk_118_10 (pc' := 15) (lv' := [(0, .ref 57), (1, .int v)]) (st' := []) (S' := stt (up2 (m_says (m_says σ n 0) (n + 1) v) 57 60 1) τ) (kc' := 0) (ks' := 0) rfl ⟨trivial, trivial, ⟨rfl, ⟨rfl, rfl⟩⟩, trivial⟩ ?_
  refine R_ret ck_118_15 rfl ?_
  exact hp
def h_open (σ : Nat → Nat → Int32) (k : Nat) (now : Int32) : Nat → Nat → Int32 := up2 (up2 (up2 (up2 σ k 5 0) k 6 0) k 7 (now + σ k 4)) k 8 (-1)
set_option maxRecDepth 20000 in
theorem x_12 {d : Nat} {σ : Nat → Nat → Int32} {τ : Nat → Nat → Int64} {k : Nat} {now : Int32} (hk : kd0[k]? = some (2, 9)) {Post : Option Value → Sto → Prop} (hp : Post none (stt (up2 (up2 (up2 (up2 σ k 5 0) k 6 0) k 7 (now + (up2 (up2 σ k 5 0) k 6 0) k 4)) k 8 (-1)) τ)) : Ex (d + 1) 12 [.ref k, .int now] (stt σ τ) 0 0 Post := by
  refine en_12 (Nat.le_of_ble_eq_true rfl) ?_
  show RU_12 d (0, 0) Post 0 ([(0, .ref k), (1, .int now)]) ([]) (stt σ τ) 0 0
  refine R_seg sg_12_0 sk_12_0 (pc' := 25) (lv' := [(0, .ref k), (1, .int now)]) (st' := []) (S' := stt (up2 (up2 (up2 (up2 σ k 5 0) k 6 0) k 7 (now + ((up2 (up2 σ k 5 0) k 6 0) k 4))) k 8 (-1)) τ) (kc' := 0) (ks' := 0) rfl ⟨trivial, trivial, ⟨hk, ⟨rfl, rfl⟩⟩, trivial, trivial, ⟨hk, ⟨rfl, rfl⟩⟩, trivial, trivial, trivial, hk, trivial, ⟨hk, ⟨rfl, rfl⟩⟩, trivial, trivial, ⟨hk, ⟨rfl, rfl⟩⟩, trivial⟩ ?_
  refine R_ret ck_12_25 rfl ?_
  exact hp
set_option maxRecDepth 20000 in
theorem x_26 {d : Nat} {σ : Nat → Nat → Int32} {τ : Nat → Nat → Int64} {x a h : Nat} (hx : x < 192) (ha : σ 50 1 = nI a) (ha2 : a < 192) (hh : σ 17 (x / 32) = nI h) (hh5 : h < 5) {Post : Option Value → Sto → Prop} (h1 : (σ 50 11 >>> (nI (x / 32) &&& 31)) &&& 1 = 0 → Post none (stt (up2 σ 51 x 1) τ)) (h2 : ¬ (σ 50 11 >>> (nI (x / 32) &&& 31)) &&& 1 = 0 → ¬ σ 25 x ≤ σ 1 4 → Post none (stt (up2 σ 51 x 10) τ)) (h3 : ¬ (σ 50 11 >>> (nI (x / 32) &&& 31)) &&& 1 = 0 → σ 25 x ≤ σ 1 4 → Post none (stt (up2 (up2 (up2 (up2 σ 51 x 11) 53 a (nI x)) 50 1 (nI a + 1)) 54 h (σ 54 h + 1)) τ)) : Ex (d + 1) 26 [.ref 50, .int (nI x)] (stt σ τ) 0 0 Post := by
  refine en_26 (Nat.le_of_ble_eq_true rfl) ?_
  show RU_26 d (0, 0) Post 0 ([(0, .ref 50), (1, .int (nI x))]) ([]) (stt σ τ) 0 0
  refine R_seg sg_26_0 sk_26_0 (pc' := 13) (lv' := [(2, .int ((nI x) / 32)), (0, .ref 50), (1, .int (nI x))]) (st' := [.int (((σ 50 11) >>> (((nI x) / 32) &&& 31)) &&& 1)]) (S' := stt σ τ) (kc' := 0) (ks' := 0) rfl ⟨trivial, trivial, (by decide), (by decide), trivial, rfl, trivial, trivial, trivial, trivial, trivial⟩ ?_
  rw [show nI x / 32 = nI (x / 32) from pk_div (d := 32) (by omega) (by omega) (by omega)]
  refine R_if ck_26_13 (fun (c_13 : ¬ (((σ 50 11) >>> ((nI (x / 32)) &&& 31)) &&& 1) = 0) => ?_) (fun (c_13 : ¬ ¬ (((σ 50 11) >>> ((nI (x / 32)) &&& 31)) &&& 1) = 0) => ?_)
  · refine R_seg sg_26_26 sk_26_26 (pc' := 34) (lv' := [(2, .int (nI (x / 32))), (0, .ref 50), (1, .int (nI x))]) (st' := [.int (nI x), .ref 25]) (S' := stt σ τ) (kc' := 0) (ks' := 0) rfl ⟨trivial, rfl, rfl, trivial, trivial⟩ ?_
    refine R_iald ca_26_34 (j := x) rfl rfl (by omega) ?_
    refine R_seg sg_26_35 sk_26_35 (pc' := 42) (lv' := [(2, .int (nI (x / 32))), (0, .ref 50), (1, .int (nI x))]) (st' := [.int (σ 1 4), .int (σ 25 x)]) (S' := stt σ τ) (kc' := 0) (ks' := 0) rfl ⟨trivial, rfl, rfl, trivial⟩ ?_
    refine R_icmp ck_26_42 (fun (c_42 : (σ 25 x) ≤ (σ 1 4)) => ?_) (fun (c_42 : ¬ (σ 25 x) ≤ (σ 1 4)) => ?_)
    · refine R_seg sg_26_56 sk_26_56 (pc' := 63) (lv' := [(2, .int (nI (x / 32))), (0, .ref 50), (1, .int (nI x))]) (st' := [.int 192, .int (σ 50 1)]) (S' := stt σ τ) (kc' := 0) (ks' := 0) rfl ⟨trivial, rfl, trivial, trivial⟩ ?_
      rw [ha]
      refine R_icmp ck_26_63 (fun (c_63 : 192 ≤ (nI a)) => ?_) (fun (c_63 : ¬ 192 ≤ (nI a)) => ?_)
      · have c_63 : 192 ≤ a := (nI_leI (a := 192) (b := a) (by omega) (by omega)).mp c_63
        omega
      · have c_63 : a < 192 := Nat.not_le.mp (fun zq => c_63 ((nI_leI (a := 192) (b := a) (by omega) (by omega)).mpr zq))
        refine R_seg sg_26_66 sk_26_66 (pc' := 73) (lv' := [(2, .int (nI (x / 32))), (0, .ref 50), (1, .int (nI x))]) (st' := [.int 11, .int (nI x), .ref 51]) (S' := stt σ τ) (kc' := 0) (ks' := 0) rfl ⟨trivial, rfl, trivial, trivial, trivial⟩ ?_
        refine R_iast ca_26_73 (j := x) rfl rfl (by omega) ?_
        refine R_seg sg_26_74 sk_26_74 (pc' := 83) (lv' := [(2, .int (nI (x / 32))), (0, .ref 50), (1, .int (nI x))]) (st' := [.int (nI x), .int (σ 50 1), .ref 53]) (S' := stt (up2 σ 51 x 11) τ) (kc' := 0) (ks' := 0) rfl ⟨trivial, rfl, trivial, rfl, trivial, trivial⟩ ?_
        rw [ha]
        refine R_iast ca_26_83 (j := a) rfl rfl (by omega) ?_
        refine R_seg sg_26_84 sk_26_84 (pc' := 106) (lv' := [(2, .int (nI (x / 32))), (0, .ref 50), (1, .int (nI x))]) (st' := [.int (nI (x / 32)), .ref 17, .ref 54]) (S' := stt (up2 (up2 (up2 σ 51 x 11) 53 a (nI x)) 50 1 ((σ 50 1) + 1)) τ) (kc' := 0) (ks' := 0) rfl ⟨trivial, rfl, rfl, trivial, trivial, ⟨rfl, ⟨rfl, rfl⟩⟩, trivial, rfl, trivial, rfl, rfl, trivial, trivial⟩ ?_
        refine R_iald ca_26_106 (j := x / 32) rfl rfl (by omega) ?_
        show RU_26 d (0, 0) Post 107 ([(2, .int (nI (x / 32))), (0, .ref 50), (1, .int (nI x))]) ([.int (σ 17 (x / 32)), .ref 54]) (stt (up2 (up2 (up2 σ 51 x 11) 53 a (nI x)) 50 1 ((σ 50 1) + 1)) τ) 0 0
        rw [hh]
        refine R_seg sg_26_107 sk_26_107 (pc' := 108) (lv' := [(2, .int (nI (x / 32))), (0, .ref 50), (1, .int (nI x))]) (st' := [.int (nI h), .ref 54, .int (nI h), .ref 54]) (S' := stt (up2 (up2 (up2 σ 51 x 11) 53 a (nI x)) 50 1 ((σ 50 1) + 1)) τ) (kc' := 0) (ks' := 0) rfl ⟨⟨rfl, rfl⟩, trivial⟩ ?_
        refine R_iald ca_26_108 (j := h) rfl rfl (by omega) ?_
        refine R_seg sg_26_109 sk_26_109 (pc' := 111) (lv' := [(2, .int (nI (x / 32))), (0, .ref 50), (1, .int (nI x))]) (st' := [.int ((σ 54 h) + 1), .int (nI h), .ref 54]) (S' := stt (up2 (up2 (up2 σ 51 x 11) 53 a (nI x)) 50 1 ((σ 50 1) + 1)) τ) (kc' := 0) (ks' := 0) rfl ⟨trivial, trivial, trivial⟩ ?_
        refine R_iast ca_26_111 (j := h) rfl rfl (by omega) ?_
        refine R_ret ck_26_112 rfl ?_
        rw [ha]
        exact h3 c_13 c_42
    · refine R_seg sg_26_45 sk_26_45 (pc' := 52) (lv' := [(2, .int (nI (x / 32))), (0, .ref 50), (1, .int (nI x))]) (st' := [.int 10, .int (nI x), .ref 51]) (S' := stt σ τ) (kc' := 0) (ks' := 0) rfl ⟨trivial, rfl, trivial, trivial, trivial⟩ ?_
      refine R_iast ca_26_52 (j := x) rfl rfl (by omega) ?_
      refine R_goto ck_26_53 ?_
      refine R_ret ck_26_112 rfl ?_
      exact h2 c_13 c_42
  · refine R_seg sg_26_16 sk_26_16 (pc' := 22) (lv' := [(2, .int (nI (x / 32))), (0, .ref 50), (1, .int (nI x))]) (st' := [.int 1, .int (nI x), .ref 51]) (S' := stt σ τ) (kc' := 0) (ks' := 0) rfl ⟨trivial, rfl, trivial, trivial, trivial⟩ ?_
    refine R_iast ca_26_22 (j := x) rfl rfl (by omega) ?_
    refine R_goto ck_26_23 ?_
    refine R_ret ck_26_112 rfl ?_
    exact h1 (Classical.not_not.mp c_13)
