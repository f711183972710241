/-! ===== Reader.read, step by step ===== -/
theorem lvS_l {a b : List (Nat × Value)} (h1 : (a.map (·.1)).Nodup) (h2 : ∀ q ∈ a, lget b q.1 = some q.2) : lvS a b := ⟨h1, fun i v h => h2 (i, v) (lget_mem h)⟩
set_option maxRecDepth 20000 in
theorem s_17b {d : Nat} {σ : Nat → Nat → Int32} {τ : Nat → Nat → Int64} {p len b : Nat} {ty : Int32} {cp : Nat × Nat} (hlen : σ 30 1 = nI len) (hlen2 : len ≤ 200) (hp : p < len) (hb : σ 31 p = nI b) (hb32 : b = 32) {Post : Option Value → Sto → Prop} (hk : RU_17 d (0, 0) Post 35 [(3, .int (nI (p + 1))), (0, .ref 40), (1, .ref 30), (2, .int ty)] [] (stt σ τ) 0 0) : RU_17 d (0, 0) Post 35 [(3, .int (nI p)), (0, .ref 40), (1, .ref 30), (2, .int ty)] [] (stt σ τ) 0 0 := by
  refine R_seg sg_17_35 sk_17_35 (pc' := 40) (lv' := [(3, .int (nI p)), (0, .ref 40), (1, .ref 30), (2, .int ty)]) (st' := [.int (σ 30 1), .int (nI p)]) (S' := stt σ τ) (kc' := 0) (ks' := 0) rfl ⟨trivial, trivial, rfl, trivial⟩ ?_
  rw [hlen]
  refine R_icmp ck_17_40 (fun (c_40 : (nI len) ≤ (nI p)) => ?_) (fun (c_40 : ¬ (nI len) ≤ (nI p)) => ?_)
  · have c_40 : len ≤ p := (nI_leI (a := len) (b := p) (by omega) (by omega)).mp c_40
    omega
  · have c_40 : p < len := Nat.not_le.mp (fun zq => c_40 ((nI_leI (a := len) (b := p) (by omega) (by omega)).mpr zq))
    refine R_seg sg_17_43 sk_17_43 (pc' := 48) (lv' := [(3, .int (nI p)), (0, .ref 40), (1, .ref 30), (2, .int ty)]) (st' := [.int (nI p), .ref 31]) (S' := stt σ τ) (kc' := 0) (ks' := 0) rfl ⟨trivial, rfl, trivial, trivial⟩ ?_
    refine R_iald ca_17_48 (j := p) rfl rfl (by omega) ?_
    show RU_17 d (0, 0) Post 49 ([(3, .int (nI p)), (0, .ref 40), (1, .ref 30), (2, .int ty)]) ([.int (σ 31 p)]) (stt σ τ) 0 0
    rw [hb]
    refine R_seg sg_17_49 sk_17_49 (pc' := 51) (lv' := [(3, .int (nI p)), (0, .ref 40), (1, .ref 30), (2, .int ty)]) (st' := [.int 32, .int (nI b)]) (S' := stt σ τ) (kc' := 0) (ks' := 0) rfl ⟨trivial, trivial⟩ ?_
    refine R_icmp ck_17_51 (fun (c_51 : ¬ (nI b) = 32) => ?_) (fun (c_51 : ¬ ¬ (nI b) = 32) => ?_)
    · have c_51 : ¬ b = 32 := fun zq => c_51 ((nI_eq (a := b) (b := 32) (by omega) (by omega)).mpr zq)
      exact absurd hb32 c_51
    · have c_51 : b = 32 := (nI_eq (a := b) (b := 32) (by omega) (by omega)).mp (Classical.not_not.mp c_51)
      refine R_seg sg_17_54 sk_17_54 (pc' := 55) (lv' := [(3, .int (nI p)), (0, .ref 40), (1, .ref 30), (2, .int ty)]) (st' := [.int (-1)]) (S' := stt σ τ) (kc' := 0) (ks' := 0) rfl ⟨trivial, trivial⟩ ?_
      refine R_goto ck_17_55 ?_
      refine R_seg sg_17_69 sk_17_69 (pc' := 74) (lv' := [(4, .int (-1)), (3, .int (nI p)), (0, .ref 40), (1, .ref 30), (2, .int ty)]) (st' := [.int (-1), .int (-1)]) (S' := stt σ τ) (kc' := 0) (ks' := 0) rfl ⟨(by decide), trivial, trivial, trivial⟩ ?_
      refine R_icmp ck_17_74 (fun _ => ?_) (fun c => absurd (show (-1 : Int32) = (-1) from by decide) c)
      refine R_seg sg_17_86 sk_17_86 (pc' := 89) (lv' := [(3, .int ((nI p) + 1)), (4, .int (-1)), (0, .ref 40), (1, .ref 30), (2, .int ty)]) (st' := []) (S' := stt σ τ) (kc' := 0) (ks' := 0) rfl ⟨(by decide), trivial⟩ ?_
      refine R_goto ck_17_89 ?_
      refine Runs.lv (lv := [(3, .int ((nI p) + 1)), (0, .ref 40), (1, .ref 30), (2, .int ty)]) ?_ _ (lvS_l (show ([3, 0, 1, 2] : List Nat).Nodup from by decide) (by intro q hq; simp only [List.mem_cons, List.not_mem_nil, or_false] at hq; rcases hq with rfl | rfl | rfl | rfl <;> rfl))
      rw [nI_1]
      exact hk
set_option maxRecDepth 20000 in
theorem s_17t {d : Nat} {σ : Nat → Nat → Int32} {τ : Nat → Nat → Int64} {p len b : Nat} {ty : Int32} (hlen : σ 30 1 = nI len) (hlen2 : len ≤ 200) (hp : p < len) (hb : σ 31 p = nI b) (hb2 : b < 256) (hb32 : ¬ b = 32) {Post : Option Value → Sto → Prop} (hE : Ex d 18 [.ref 40, .int (nI b), .int (nI p)] (stt σ τ) 0 0 (fun r S1 => (r = some (.int (-1)) ∧ RU_17 d (0, 0) Post 35 [(3, .int (nI (p + 1))), (0, .ref 40), (1, .ref 30), (2, .int ty)] [] S1 0 0) ∨ (∃ w : Nat, w < 3 ∧ r = some (.int (nI w)) ∧ Post (some (.int (nI (1 + 4 * p + w)))) S1))) : RU_17 d (0, 0) Post 35 [(3, .int (nI p)), (0, .ref 40), (1, .ref 30), (2, .int ty)] [] (stt σ τ) 0 0 := by
  refine R_seg sg_17_35 sk_17_35 (pc' := 40) (lv' := [(3, .int (nI p)), (0, .ref 40), (1, .ref 30), (2, .int ty)]) (st' := [.int (σ 30 1), .int (nI p)]) (S' := stt σ τ) (kc' := 0) (ks' := 0) rfl ⟨trivial, trivial, rfl, trivial⟩ ?_
  rw [hlen]
  refine R_icmp ck_17_40 (fun (c_40 : (nI len) ≤ (nI p)) => ?_) (fun (c_40 : ¬ (nI len) ≤ (nI p)) => ?_)
  · have c_40 : len ≤ p := (nI_leI (a := len) (b := p) (by omega) (by omega)).mp c_40
    omega
  · have c_40 : p < len := Nat.not_le.mp (fun zq => c_40 ((nI_leI (a := len) (b := p) (by omega) (by omega)).mpr zq))
    refine R_seg sg_17_43 sk_17_43 (pc' := 48) (lv' := [(3, .int (nI p)), (0, .ref 40), (1, .ref 30), (2, .int ty)]) (st' := [.int (nI p), .ref 31]) (S' := stt σ τ) (kc' := 0) (ks' := 0) rfl ⟨trivial, rfl, trivial, trivial⟩ ?_
    refine R_iald ca_17_48 (j := p) rfl rfl (by omega) ?_
    show RU_17 d (0, 0) Post 49 ([(3, .int (nI p)), (0, .ref 40), (1, .ref 30), (2, .int ty)]) ([.int (σ 31 p)]) (stt σ τ) 0 0
    rw [hb]
    refine R_seg sg_17_49 sk_17_49 (pc' := 51) (lv' := [(3, .int (nI p)), (0, .ref 40), (1, .ref 30), (2, .int ty)]) (st' := [.int 32, .int (nI b)]) (S' := stt σ τ) (kc' := 0) (ks' := 0) rfl ⟨trivial, trivial⟩ ?_
    refine R_icmp ck_17_51 (fun (c_51 : ¬ (nI b) = 32) => ?_) (fun (c_51 : ¬ ¬ (nI b) = 32) => ?_)
    · have c_51 : ¬ b = 32 := fun zq => c_51 ((nI_eq (a := b) (b := 32) (by omega) (by omega)).mpr zq)
      refine R_seg sg_17_58 sk_17_58 (pc' := 64) (lv' := [(3, .int (nI p)), (0, .ref 40), (1, .ref 30), (2, .int ty)]) (st' := [.int (nI p), .ref 31, .ref 40]) (S' := stt σ τ) (kc' := 0) (ks' := 0) rfl ⟨trivial, trivial, rfl, trivial, trivial⟩ ?_
      refine R_iald ca_17_64 (j := p) rfl rfl (by omega) ?_
      show RU_17 d (0, 0) Post 65 ([(3, .int (nI p)), (0, .ref 40), (1, .ref 30), (2, .int ty)]) ([.int (σ 31 p), .ref 40]) (stt σ τ) 0 0
      rw [hb]
      refine R_seg sg_17_65 sk_17_65 (pc' := 66) (lv' := [(3, .int (nI p)), (0, .ref 40), (1, .ref 30), (2, .int ty)]) (st' := [.int (nI p), .int (nI b), .ref 40]) (S' := stt σ τ) (kc' := 0) (ks' := 0) rfl ⟨trivial, trivial⟩ ?_
      refine R_virt ck_17_66 40 [.int (nI b), .int (nI p)] 0 0 (r := []) rfl rfl rfl (Nat.le_of_ble_eq_true rfl) (Nat.le_refl _) (Nat.le_refl _) ?_
      refine Ex.mono _ _ _ _ _ _ _ _ (fun r S1 hq => ?_) hE
      rcases hq with ⟨rfl, hk⟩ | ⟨w, hw, rfl, hpo⟩
      · show RU_17 d (0, 0) Post 69 ([(3, .int (nI p)), (0, .ref 40), (1, .ref 30), (2, .int ty)]) ([.int (-1)]) S1 0 0
        refine R_seg sg_17_69 sk_17_69 (pc' := 74) (lv' := [(4, .int (-1)), (3, .int (nI p)), (0, .ref 40), (1, .ref 30), (2, .int ty)]) (st' := [.int (-1), .int (-1)]) (S' := S1) (kc' := 0) (ks' := 0) rfl ⟨(by decide), trivial, trivial, trivial⟩ ?_
        refine R_icmp ck_17_74 (fun _ => ?_) (fun c => absurd (show (-1 : Int32) = (-1) from by decide) c)
        refine R_seg sg_17_86 sk_17_86 (pc' := 89) (lv' := [(3, .int ((nI p) + 1)), (4, .int (-1)), (0, .ref 40), (1, .ref 30), (2, .int ty)]) (st' := []) (S' := S1) (kc' := 0) (ks' := 0) rfl ⟨(by decide), trivial⟩ ?_
        refine R_goto ck_17_89 ?_
        refine Runs.lv (lv := [(3, .int ((nI p) + 1)), (0, .ref 40), (1, .ref 30), (2, .int ty)]) ?_ _ (lvS_l (show ([3, 0, 1, 2] : List Nat).Nodup from by decide) (by intro q hq; simp only [List.mem_cons, List.not_mem_nil, or_false] at hq; rcases hq with rfl | rfl | rfl | rfl <;> rfl))
        rw [nI_1]
        exact hk
      · show RU_17 d (0, 0) Post 69 ([(3, .int (nI p)), (0, .ref 40), (1, .ref 30), (2, .int ty)]) ([.int (nI w)]) S1 0 0
        refine R_seg sg_17_69 sk_17_69 (pc' := 74) (lv' := [(4, .int (nI w)), (3, .int (nI p)), (0, .ref 40), (1, .ref 30), (2, .int ty)]) (st' := [.int (-1), .int (nI w)]) (S' := S1) (kc' := 0) (ks' := 0) rfl ⟨(by decide), trivial, trivial, trivial⟩ ?_
        refine R_icmp ck_17_74 (fun (c_74 : (nI w) = (-1)) => ?_) (fun (c_74 : ¬ (nI w) = (-1)) => ?_)
        · exact absurd c_74 (nI_m1 (by omega))
        · refine R_seg sg_17_77 sk_17_77 (pc' := 85) (lv' := [(4, .int (nI w)), (3, .int (nI p)), (0, .ref 40), (1, .ref 30), (2, .int ty)]) (st' := [.int ((1 + (4 * (nI p))) + (nI w))]) (S' := S1) (kc' := 0) (ks' := 0) rfl ⟨trivial, trivial, trivial, trivial, trivial, trivial, trivial, trivial⟩ ?_
          refine R_iret ck_17_85 rfl rfl ?_
          rw [show ((1 : Int32) + 4 * nI p) + nI w = nI (1 + 4 * p + w) from by simp only [nl_0, nl_1, nl_2, nl_3, nl_4, nl_5, nl_6, nl_8, nl_20, nl_31, nl_32, pk_mul, nI_add]]
          exact hpo
    · have c_51 : b = 32 := (nI_eq (a := b) (b := 32) (by omega) (by omega)).mp (Classical.not_not.mp c_51)
      exact absurd c_51 hb32
set_option maxRecDepth 20000 in
theorem s_17e {d : Nat} {σ : Nat → Nat → Int32} {τ : Nat → Nat → Int64} {len : Nat} {ty : Int32} (hlen : σ 30 1 = nI len) (hlen2 : len ≤ 200) {Post : Option Value → Sto → Prop} (h0 : σ 40 4 = 2 → Post (some (.int 0)) (stt σ τ)) (h1 : ¬ σ 40 4 = 2 → Post (some (.int (nI (1 + 4 * len)))) (stt σ τ)) : RU_17 d (0, 0) Post 35 [(3, .int (nI len)), (0, .ref 40), (1, .ref 30), (2, .int ty)] [] (stt σ τ) 0 0 := by
  refine R_seg sg_17_35 sk_17_35 (pc' := 40) (lv' := [(3, .int (nI len)), (0, .ref 40), (1, .ref 30), (2, .int ty)]) (st' := [.int (σ 30 1), .int (nI len)]) (S' := stt σ τ) (kc' := 0) (ks' := 0) rfl ⟨trivial, trivial, rfl, trivial⟩ ?_
  rw [hlen]
  refine R_icmp ck_17_40 (fun (c_40 : (nI len) ≤ (nI len)) => ?_) (fun (c_40 : ¬ (nI len) ≤ (nI len)) => ?_)
  · have c_40 : len ≤ len := (nI_leI (a := len) (b := len) (by omega) (by omega)).mp c_40
    refine R_seg sg_17_92 sk_17_92 (pc' := 97) (lv' := [(3, .int (nI len)), (0, .ref 40), (1, .ref 30), (2, .int ty)]) (st' := [.int 2, .int (σ 40 4)]) (S' := stt σ τ) (kc' := 0) (ks' := 0) rfl ⟨trivial, rfl, trivial, trivial⟩ ?_
    refine R_icmp ck_17_97 (fun (c_97 : ¬ (σ 40 4) = 2) => ?_) (fun (c_97 : ¬ ¬ (σ 40 4) = 2) => ?_)
    · refine R_seg sg_17_104 sk_17_104 (pc' := 114) (lv' := [(3, .int (nI len)), (0, .ref 40), (1, .ref 30), (2, .int ty)]) (st' := [.int ((1 + (4 * (σ 30 1))) + 0)]) (S' := stt σ τ) (kc' := 0) (ks' := 0) rfl ⟨trivial, trivial, trivial, rfl, trivial, trivial, trivial, trivial, trivial⟩ ?_
      rw [hlen]
      refine R_iret ck_17_114 rfl rfl ?_
      rw [show ((1 : Int32) + 4 * nI len) + 0 = nI (1 + 4 * len) from by rw [Int32.add_zero]; simp only [nl_0, nl_1, nl_2, nl_3, nl_4, nl_5, nl_6, nl_8, nl_20, nl_31, nl_32, pk_mul, nI_add]]
      exact h1 c_97
    · refine R_seg sg_17_100 sk_17_100 (pc' := 101) (lv' := [(3, .int (nI len)), (0, .ref 40), (1, .ref 30), (2, .int ty)]) (st' := [.int 0]) (S' := stt σ τ) (kc' := 0) (ks' := 0) rfl ⟨trivial, trivial⟩ ?_
      refine R_goto ck_17_101 ?_
      refine R_iret ck_17_114 rfl rfl ?_
      exact h0 (Classical.not_not.mp c_97)
  · have c_40 : len < len := Nat.not_le.mp (fun zq => c_40 ((nI_leI (a := len) (b := len) (by omega) (by omega)).mpr zq))
    omega
def c_rd0 (σ : Nat → Nat → Int32) (ty : Int32) : Nat → Nat → Int32 := up2 (up2 (up2 (up2 (up2 (up2 σ 32 7 0) 40 3 0) 40 4 0) 40 5 ty) 40 6 1) 40 7 (-1)
set_option maxRecDepth 20000 in
theorem x_17 {d : Nat} {σ : Nat → Nat → Int32} {τ : Nat → Nat → Int64} {ty : Int32} {Post : Option Value → Sto → Prop} (hk : RU_17 d (0, 0) Post 35 [(3, .int (nI 0)), (0, .ref 40), (1, .ref 30), (2, .int ty)] [] (stt (c_rd0 σ ty) τ) 0 0) : Ex (d + 1) 17 [.ref 40, .ref 30, .int ty] (stt σ τ) 0 0 Post := by
  refine en_17 (Nat.le_of_ble_eq_true rfl) ?_
  show RU_17 d (0, 0) Post 0 ([(0, .ref 40), (1, .ref 30), (2, .int ty)]) ([]) (stt σ τ) 0 0
  refine R_seg sg_17_0 sk_17_0 (pc' := 35) (lv' := [(3, .int 0), (0, .ref 40), (1, .ref 30), (2, .int ty)]) (st' := []) (S' := stt (up2 (up2 (up2 (up2 (up2 (up2 σ 32 7 0) 40 3 0) 40 4 0) 40 5 ty) 40 6 1) 40 7 (-1)) τ) (kc' := 0) (ks' := 0) rfl ⟨trivial, rfl, trivial, ⟨rfl, ⟨rfl, rfl⟩⟩, trivial, trivial, ⟨rfl, ⟨rfl, rfl⟩⟩, trivial, trivial, ⟨rfl, ⟨rfl, rfl⟩⟩, trivial, trivial, ⟨rfl, ⟨rfl, rfl⟩⟩, trivial, trivial, ⟨rfl, ⟨rfl, rfl⟩⟩, trivial, trivial, ⟨rfl, ⟨rfl, rfl⟩⟩, trivial, (by decide), trivial⟩ ?_
  exact hk
set_option maxRecDepth 20000 in
theorem x_99 {d : Nat} {σ : Nat → Nat → Int32} {τ : Nat → Nat → Int64} {c p : Int32} {Post : Option Value → Sto → Prop} (h0 : σ 57 34 = 0 → Post none (stt (up2 σ 57 34 ((1 + 4 * p) + c)) τ)) (h1 : ¬ σ 57 34 = 0 → Post none (stt σ τ)) : Ex (d + 1) 99 [.ref 57, .int c, .int p] (stt σ τ) 0 0 Post := by
  refine en_99 (Nat.le_of_ble_eq_true rfl) ?_
  show RU_99 d (0, 0) Post 0 ([(0, .ref 57), (1, .int c), (2, .int p)]) ([]) (stt σ τ) 0 0
  refine R_seg sg_99_0 sk_99_0 (pc' := 4) (lv' := [(0, .ref 57), (1, .int c), (2, .int p)]) (st' := [.int (σ 57 34)]) (S' := stt σ τ) (kc' := 0) (ks' := 0) rfl ⟨trivial, rfl, trivial⟩ ?_
  refine R_if ck_99_4 (fun (c_4 : ¬ (σ 57 34) = 0) => ?_) (fun (c_4 : ¬ ¬ (σ 57 34) = 0) => ?_)
  · refine R_ret ck_99_18 rfl ?_
    exact h1 (by assumption)
  · refine R_seg sg_99_7 sk_99_7 (pc' := 18) (lv' := [(0, .ref 57), (1, .int c), (2, .int p)]) (st' := []) (S' := stt (up2 σ 57 34 ((1 + (4 * p)) + c)) τ) (kc' := 0) (ks' := 0) rfl ⟨trivial, trivial, trivial, trivial, trivial, trivial, trivial, trivial, ⟨rfl, ⟨rfl, rfl⟩⟩, trivial⟩ ?_
    refine R_ret ck_99_18 rfl ?_
    exact h0 (Classical.not_not.mp (by assumption))
theorem up2_up2 {α : Type} (f : Nat → Nat → α) (k i : Nat) (v w : α) : up2 (up2 f k i v) k i w = up2 f k i w := by
  funext k2 i2
  unfold up2 va_up
  by_cases hk : k2 = k
  · simp only [hk, if_true]
    by_cases hi : i2 = i <;> simp only [hi, if_true, if_false]
  · simp only [hk, if_false]
set_option maxRecDepth 20000 in
theorem s_98b {d : Nat} {σ : Nat → Nat → Int32} {τ : Nat → Nat → Int64} {q len : Nat} (hlen : σ 57 32 = nI len) (hlen2 : len ≤ 200) (hq : q < len) (hy : σ 86 q = 32) {Post : Option Value → Sto → Prop} (hk : RU_98 d (0, 0) Post 0 [(0, .ref 57)] [] (stt (up2 σ 57 33 (nI (q + 1))) τ) 0 0) : RU_98 d (0, 0) Post 0 [(0, .ref 57)] [] (stt (up2 σ 57 33 (nI q)) τ) 0 0 := by
  refine R_seg sg_98_0 sk_98_0 (pc' := 8) (lv' := [(0, .ref 57)]) (st' := [.int (σ 57 32), .int (nI q)]) (S' := stt (up2 σ 57 33 (nI q)) τ) (kc' := 0) (ks' := 0) rfl ⟨trivial, rfl, trivial, rfl, trivial⟩ ?_
  rw [hlen]
  refine R_icmp ck_98_8 (fun (c_8 : (nI len) ≤ (nI q)) => ?_) (fun (c_8 : ¬ (nI len) ≤ (nI q)) => ?_)
  · have c_8 : len ≤ q := (nI_leI (a := len) (b := q) (by omega) (by omega)).mp c_8
    omega
  · have c_8 : q < len := Nat.not_le.mp (fun zq => c_8 ((nI_leI (a := len) (b := q) (by omega) (by omega)).mpr zq))
    refine R_seg sg_98_11 sk_98_11 (pc' := 19) (lv' := [(0, .ref 57)]) (st' := [.int (nI q), .ref 86]) (S' := stt (up2 σ 57 33 (nI q)) τ) (kc' := 0) (ks' := 0) rfl ⟨trivial, rfl, trivial, rfl, trivial⟩ ?_
    refine R_bald ca_98_19 (j := q) rfl rfl (by omega) ?_
    show RU_98 d (0, 0) Post 20 ([(0, .ref 57)]) ([.int (σ 86 q)]) (stt (up2 σ 57 33 (nI q)) τ) 0 0
    rw [hy]
    refine R_seg sg_98_20 sk_98_20 (pc' := 22) (lv' := [(0, .ref 57)]) (st' := [.int 32, .int 32]) (S' := stt (up2 σ 57 33 (nI q)) τ) (kc' := 0) (ks' := 0) rfl ⟨trivial, trivial⟩ ?_
    refine R_icmp ck_98_22 (fun c => absurd c (show ¬ ¬ (32 : Int32) = 32 from by decide)) (fun _ => ?_)
    refine R_seg sg_98_25 sk_98_25 (pc' := 35) (lv' := [(0, .ref 57)]) (st' := []) (S' := stt (up2 (up2 σ 57 33 (nI q)) 57 33 ((nI q) + 1)) τ) (kc' := 0) (ks' := 0) rfl ⟨trivial, rfl, rfl, trivial, trivial, ⟨rfl, ⟨rfl, rfl⟩⟩, trivial⟩ ?_
    refine R_goto ck_98_35 ?_
    rw [nI_1, up2_up2]
    exact hk
set_option maxRecDepth 20000 in
theorem s_98e {d : Nat} {σ : Nat → Nat → Int32} {τ : Nat → Nat → Int64} {q len : Nat} (hlen : σ 57 32 = nI len) (hlen2 : len ≤ 200) (hq : q ≤ len) (hy : q < len → ¬ σ 86 q = 32) {Post : Option Value → Sto → Prop} (h1 : q = len → Post (some (.int (-1))) (stt (up2 σ 57 33 (nI q)) τ)) (h0 : q < len → Post (some (.int (σ 86 q &&& 255))) (stt (up2 σ 57 33 (nI q)) τ)) : RU_98 d (0, 0) Post 0 [(0, .ref 57)] [] (stt (up2 σ 57 33 (nI q)) τ) 0 0 := by
  refine R_seg sg_98_0 sk_98_0 (pc' := 8) (lv' := [(0, .ref 57)]) (st' := [.int (σ 57 32), .int (nI q)]) (S' := stt (up2 σ 57 33 (nI q)) τ) (kc' := 0) (ks' := 0) rfl ⟨trivial, rfl, trivial, rfl, trivial⟩ ?_
  rw [hlen]
  refine R_icmp ck_98_8 (fun (c_8 : (nI len) ≤ (nI q)) => ?_) (fun (c_8 : ¬ (nI len) ≤ (nI q)) => ?_)
  · have c_8 : len ≤ q := (nI_leI (a := len) (b := q) (by omega) (by omega)).mp c_8
    refine R_seg sg_98_38 sk_98_38 (pc' := 46) (lv' := [(0, .ref 57)]) (st' := [.int (σ 57 32), .int (nI q)]) (S' := stt (up2 σ 57 33 (nI q)) τ) (kc' := 0) (ks' := 0) rfl ⟨trivial, rfl, trivial, rfl, trivial⟩ ?_
    rw [hlen]
    refine R_icmp ck_98_46 (fun (c_46 : ¬ (nI q) = (nI len)) => ?_) (fun (c_46 : ¬ ¬ (nI q) = (nI len)) => ?_)
    · have c_46 : ¬ q = len := fun zq => c_46 ((nI_eq (a := q) (b := len) (by omega) (by omega)).mpr zq)
      refine R_seg sg_98_53 sk_98_53 (pc' := 61) (lv' := [(0, .ref 57)]) (st' := [.int (nI q), .ref 86]) (S' := stt (up2 σ 57 33 (nI q)) τ) (kc' := 0) (ks' := 0) rfl ⟨trivial, rfl, trivial, rfl, trivial⟩ ?_
      refine R_bald ca_98_61 (j := q) rfl rfl (by omega) ?_
      refine R_seg sg_98_62 sk_98_62 (pc' := 66) (lv' := [(0, .ref 57)]) (st' := [.int ((σ 86 q) &&& 255)]) (S' := stt (up2 σ 57 33 (nI q)) τ) (kc' := 0) (ks' := 0) rfl ⟨trivial, trivial, trivial⟩ ?_
      refine R_iret ck_98_66 rfl rfl ?_
      exact h0 (by omega)
    · have c_46 : q = len := (nI_eq (a := q) (b := len) (by omega) (by omega)).mp (Classical.not_not.mp c_46)
      refine R_seg sg_98_49 sk_98_49 (pc' := 50) (lv' := [(0, .ref 57)]) (st' := [.int (-1)]) (S' := stt (up2 σ 57 33 (nI q)) τ) (kc' := 0) (ks' := 0) rfl ⟨trivial, trivial⟩ ?_
      refine R_goto ck_98_50 ?_
      refine R_iret ck_98_66 rfl rfl ?_
      exact h1 (by omega)
  · have c_8 : q < len := Nat.not_le.mp (fun zq => c_8 ((nI_leI (a := len) (b := q) (by omega) (by omega)).mpr zq))
    refine R_seg sg_98_11 sk_98_11 (pc' := 19) (lv' := [(0, .ref 57)]) (st' := [.int (nI q), .ref 86]) (S' := stt (up2 σ 57 33 (nI q)) τ) (kc' := 0) (ks' := 0) rfl ⟨trivial, rfl, trivial, rfl, trivial⟩ ?_
    refine R_bald ca_98_19 (j := q) rfl rfl (by omega) ?_
    refine R_seg sg_98_20 sk_98_20 (pc' := 22) (lv' := [(0, .ref 57)]) (st' := [.int 32, .int (σ 86 q)]) (S' := stt (up2 σ 57 33 (nI q)) τ) (kc' := 0) (ks' := 0) rfl ⟨trivial, trivial⟩ ?_
    refine R_icmp ck_98_22 (fun (c_22 : ¬ (σ 86 q) = 32) => ?_) (fun (c_22 : ¬ ¬ (σ 86 q) = 32) => ?_)
    · refine R_seg sg_98_38 sk_98_38 (pc' := 46) (lv' := [(0, .ref 57)]) (st' := [.int (σ 57 32), .int (nI q)]) (S' := stt (up2 σ 57 33 (nI q)) τ) (kc' := 0) (ks' := 0) rfl ⟨trivial, rfl, trivial, rfl, trivial⟩ ?_
      rw [hlen]
      refine R_icmp ck_98_46 (fun (c_46 : ¬ (nI q) = (nI len)) => ?_) (fun (c_46 : ¬ ¬ (nI q) = (nI len)) => ?_)
      · have c_46 : ¬ q = len := fun zq => c_46 ((nI_eq (a := q) (b := len) (by omega) (by omega)).mpr zq)
        refine R_seg sg_98_53 sk_98_53 (pc' := 61) (lv' := [(0, .ref 57)]) (st' := [.int (nI q), .ref 86]) (S' := stt (up2 σ 57 33 (nI q)) τ) (kc' := 0) (ks' := 0) rfl ⟨trivial, rfl, trivial, rfl, trivial⟩ ?_
        refine R_bald ca_98_61 (j := q) rfl rfl (by omega) ?_
        refine R_seg sg_98_62 sk_98_62 (pc' := 66) (lv' := [(0, .ref 57)]) (st' := [.int ((σ 86 q) &&& 255)]) (S' := stt (up2 σ 57 33 (nI q)) τ) (kc' := 0) (ks' := 0) rfl ⟨trivial, trivial, trivial⟩ ?_
        refine R_iret ck_98_66 rfl rfl ?_
        exact h0 (by omega)
      · have c_46 : q = len := (nI_eq (a := q) (b := len) (by omega) (by omega)).mp (Classical.not_not.mp c_46)
        refine R_seg sg_98_49 sk_98_49 (pc' := 50) (lv' := [(0, .ref 57)]) (st' := [.int (-1)]) (S' := stt (up2 σ 57 33 (nI q)) τ) (kc' := 0) (ks' := 0) rfl ⟨trivial, trivial⟩ ?_
        refine R_goto ck_98_50 ?_
        refine R_iret ck_98_66 rfl rfl ?_
        exact h1 (by omega)
    · exact absurd (Classical.not_not.mp c_22) (hy (by omega))
