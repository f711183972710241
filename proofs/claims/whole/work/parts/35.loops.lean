/-! ===== loops of the round ===== -/
/-- spell i of the class / of the model holds helper h at a tick -/
def cDn (σ : Nat → Nat → Int32) (h t : Int32) (i : Nat) : Prop := σ 8 i = h ∧ ¬ t < σ 9 i ∧ ¬ σ 10 i < t
def mDn (σ : Nat → Nat → Int32) (h t : Int32) (i : Nat) : Prop := σ 66 i = h ∧ ¬ t < σ 67 i ∧ ¬ σ 68 i < t
set_option maxRecDepth 20000 in
theorem l_15 {d : Nat} {σ : Nat → Nat → Int32} {τ : Nat → Nat → Int64} {h t : Int32} {m : Nat} (hn : σ 6 1 = nI m) (hn2 : m ≤ 20) {Post : Option Value → Sto → Prop} (hy : ∀ j, j < m → cDn σ h t j → Post (some (.int 1)) (stt σ τ)) (hx : (∀ j, j < m → ¬ cDn σ h t j) → Post (some (.int 0)) (stt σ τ)) : ∀ (n : Nat) (i : Nat), i ≤ m → m - i < n → (∀ j, j < i → ¬ cDn σ h t j) → RU_15 (d + 1) (0, 0) Post 2 [(3, .int (nI i)), (0, .ref 6), (1, .int h), (2, .int t)] [] (stt σ τ) 0 0 := by
  intro n
  induction n with
  | zero => intro i h1 h2 hno; exact absurd h2 (by omega)
  | succ n ih =>
    intro i h1 h2 hno
    refine R_seg sg_15_2 sk_15_2 (pc' := 7) (lv' := [(3, .int (nI i)), (0, .ref 6), (1, .int h), (2, .int t)]) (st' := [.int (σ 6 1), .int (nI i)]) (S' := stt σ τ) (kc' := 0) (ks' := 0) rfl ⟨trivial, trivial, rfl, trivial⟩ ?_
    rw [hn]
    refine R_icmp ck_15_7 (fun (c_7 : (nI m) ≤ (nI i)) => ?_) (fun (c_7 : ¬ (nI m) ≤ (nI i)) => ?_)
    · have c_7 : m ≤ i := (nI_leI (a := m) (b := i) (by omega) (by omega)).mp c_7
      refine R_seg sg_15_47 sk_15_47 (pc' := 48) (lv' := [(3, .int (nI i)), (0, .ref 6), (1, .int h), (2, .int t)]) (st' := [.int 0]) (S' := stt σ τ) (kc' := 0) (ks' := 0) rfl ⟨trivial, trivial⟩ ?_
      refine R_iret ck_15_48 rfl rfl ?_
      exact hx (fun j hj => hno j (by omega))
    · have c_7 : i < m := Nat.not_le.mp (fun zq => c_7 ((nI_leI (a := m) (b := i) (by omega) (by omega)).mpr zq))
      refine R_seg sg_15_10 sk_15_10 (pc' := 15) (lv' := [(3, .int (nI i)), (0, .ref 6), (1, .int h), (2, .int t)]) (st' := [.int (nI i), .ref 8]) (S' := stt σ τ) (kc' := 0) (ks' := 0) rfl ⟨trivial, rfl, trivial, trivial⟩ ?_
      refine R_iald ca_15_15 (j := i) rfl rfl (by omega) ?_
      refine R_seg sg_15_16 sk_15_16 (pc' := 17) (lv' := [(3, .int (nI i)), (0, .ref 6), (1, .int h), (2, .int t)]) (st' := [.int h, .int (σ 8 i)]) (S' := stt σ τ) (kc' := 0) (ks' := 0) rfl ⟨trivial, trivial⟩ ?_
      refine R_icmp ck_15_17 (fun (c_17 : ¬ (σ 8 i) = h) => ?_) (fun (c_17 : ¬ ¬ (σ 8 i) = h) => ?_)
      · refine R_seg sg_15_41 sk_15_41 (pc' := 44) (lv' := [(3, .int ((nI i) + 1)), (0, .ref 6), (1, .int h), (2, .int t)]) (st' := []) (S' := stt σ τ) (kc' := 0) (ks' := 0) rfl ⟨(by decide), trivial⟩ ?_
        refine R_goto ck_15_44 ?_
        rw [nI_1]
        exact ih (i + 1) (by omega) (by omega) (by intro j hj; rcases Nat.lt_or_ge j i with z | z; exact hno j z; rw [show j = i by omega]; intro zq; first | exact c_17 zq.1 | (rcases a_n with z2 | z2; exact zq.2.1 z2; exact zq.2.2 z2))
      · refine R_seg sg_15_20 sk_15_20 (pc' := 26) (lv' := [(3, .int (nI i)), (0, .ref 6), (1, .int h), (2, .int t)]) (st' := [.int (nI i), .ref 9, .int t]) (S' := stt σ τ) (kc' := 0) (ks' := 0) rfl ⟨trivial, trivial, rfl, trivial, trivial⟩ ?_
        refine R_iald ca_15_26 (j := i) rfl rfl (by omega) ?_
        refine R_seg sg_15_27 sk_15_27 (pc' := 32) (lv' := [(3, .int (nI i)), (0, .ref 6), (1, .int h), (2, .int t)]) (st' := [.int (nI i), .ref 10, .int (σ 9 i), .int t]) (S' := stt σ τ) (kc' := 0) (ks' := 0) rfl ⟨trivial, rfl, trivial, trivial⟩ ?_
        refine R_iald ca_15_32 (j := i) rfl rfl (by omega) ?_
        refine R_stat ck_15_33 (by decide) [.int t, .int (σ 9 i), .int (σ 10 i)] 0 0 (r := []) rfl rfl (Nat.le_of_ble_eq_true rfl) (Nat.le_refl _) (Nat.le_refl _) ?_
        refine x_57 (d := d) (fun a_1 a_2 => ?_) (fun a_n => ?_)
        · show RU_15 (d + 1) (0, 0) Post 36 ([(3, .int (nI i)), (0, .ref 6), (1, .int h), (2, .int t)]) ([.int 1]) (stt σ τ) 0 0
          refine R_if ck_15_36 (fun c => absurd c (show ¬ (1 : Int32) = 0 from by decide)) (fun _ => ?_)
          refine R_seg sg_15_39 sk_15_39 (pc' := 40) (lv' := [(3, .int (nI i)), (0, .ref 6), (1, .int h), (2, .int t)]) (st' := [.int 1]) (S' := stt σ τ) (kc' := 0) (ks' := 0) rfl ⟨trivial, trivial⟩ ?_
          refine R_iret ck_15_40 rfl rfl ?_
          exact hy i (by omega) ⟨Classical.not_not.mp c_17, a_1, a_2⟩
        · show RU_15 (d + 1) (0, 0) Post 36 ([(3, .int (nI i)), (0, .ref 6), (1, .int h), (2, .int t)]) ([.int 0]) (stt σ τ) 0 0
          refine R_if ck_15_36 (fun _ => ?_) (fun c => absurd (show (0 : Int32) = 0 from by decide) c)
          refine R_seg sg_15_41 sk_15_41 (pc' := 44) (lv' := [(3, .int ((nI i) + 1)), (0, .ref 6), (1, .int h), (2, .int t)]) (st' := []) (S' := stt σ τ) (kc' := 0) (ks' := 0) rfl ⟨(by decide), trivial⟩ ?_
          refine R_goto ck_15_44 ?_
          rw [nI_1]
          exact ih (i + 1) (by omega) (by omega) (by intro j hj; rcases Nat.lt_or_ge j i with z | z; exact hno j z; rw [show j = i by omega]; intro zq; first | exact c_17 zq.1 | (rcases a_n with z2 | z2; exact zq.2.1 z2; exact zq.2.2 z2))
set_option maxRecDepth 20000 in
theorem x_15 {d : Nat} {σ : Nat → Nat → Int32} {τ : Nat → Nat → Int64} {h t : Int32} {n : Nat} (hn : σ 6 1 = nI n) (hn2 : n ≤ 20) {Post : Option Value → Sto → Prop} (hy : ∀ j, j < n → cDn σ h t j → Post (some (.int 1)) (stt σ τ)) (hx : (∀ j, j < n → ¬ cDn σ h t j) → Post (some (.int 0)) (stt σ τ)) : Ex (d + 2) 15 [.ref 6, .int h, .int t] (stt σ τ) 0 0 Post := by
  refine en_15 (Nat.le_of_ble_eq_true rfl) ?_
  show RU_15 (d + 1) (0, 0) Post 0 ([(0, .ref 6), (1, .int h), (2, .int t)]) ([]) (stt σ τ) 0 0
  refine R_seg sg_15_0 sk_15_0 (pc' := 2) (lv' := [(3, .int 0), (0, .ref 6), (1, .int h), (2, .int t)]) (st' := []) (S' := stt σ τ) (kc' := 0) (ks' := 0) rfl ⟨trivial, (by decide), trivial⟩ ?_
  exact l_15 hn hn2 hy hx (n + 1) 0 (by omega) (by omega) (fun j hj => absurd hj (by omega))
theorem R_alen {d : Nat} {cc : ByteArray} {own : Nat} {ini : Bool} {nL : Nat} {rt : Option FieldType} {Z : Option (Nat × (Nat → Int32))} {cp : Nat × Nat} {Post : Option Value → Sto → Prop} {pc : Nat} {lv : List (Nat × Value)} {r : List Value} {S : Sto} {kc ks : Nat} {len b kk : Nat} {v : Int32} {k n : Nat} (h : decode cc pc = .ok (.arraylength, len) ∧ lnkB own ini pc (.arraylength, len, 0, b, kk, v) = true) (hk : S.1[k]? = some (13, n)) (kx : Runs (Ex d) cc own ini nL rt Z cp Post (pc + 1) lv (.int (Int32.ofNat n) :: r) S kc ks) : Runs (Ex d) cc own ini nL rt Z cp Post pc lv (.ref k :: r) S kc ks :=
  Runs.step (.arraylength, len, 0, b, kk, v) h.1 h.2 (Or.inl ⟨(pc + 1, lv, .int (Int32.ofNat n) :: r, S, kc, ks), 13 = 13, by simp only [sx, hk], rfl, kx⟩)
def flS (S : Sto) (k a b : Nat) (v : Int32) : Sto := (S.1, fl2 S.2.1 k a b v, S.2.2.1, S.2.2.2)
theorem flS_s (S : Sto) (k a b : Nat) (v : Int32) (h : a ≤ b) : setI (flS S k a b v) k b v = flS S k a (b + 1) v := by
  unfold flS setI
  rw [fl2_s _ _ _ _ _ h]
theorem flS_0 (S : Sto) (k a : Nat) (v : Int32) : flS S k a a v = S := by
  unfold flS
  rw [fl2_0]
theorem l_130 {d : Nat} {S : Sto} {k z : Nat} {v : Int32} (hk : S.1[k]? = some (13, z)) (hz : z < 2147483648) {Post : Option Value → Sto → Prop} (hp : Post none (flS S k 0 z v)) : ∀ (n i : Nat), i ≤ z → z - i < n → RU_130 d (0, 0) Post 5 [(2, .int (nI i)), (3, .int (nI z)), (0, .ref k), (1, .int v)] [] (flS S k 0 i v) 0 0 := by
  intro n
  induction n with
  | zero => intro i h1 h2; exact absurd h2 (by omega)
  | succ n ih =>
    intro i h1 h2
    refine R_seg sg_130_5 sk_130_5 (pc' := 7) (lv' := [(2, .int (nI i)), (3, .int (nI z)), (0, .ref k), (1, .int v)]) (st' := [.int (nI z), .int (nI i)]) (S' := flS S k 0 i v) (kc' := 0) (ks' := 0) rfl ⟨trivial, trivial, trivial⟩ ?_
    refine R_icmp ck_130_7 (fun (c : nI z ≤ nI i) => ?_) (fun (c : ¬ nI z ≤ nI i) => ?_)
    · have c : z ≤ i := (nI_leI (by omega) (by omega)).mp c
      refine R_ret ck_130_20 rfl ?_
      rw [show i = z by omega]
      exact hp
    · have c : i < z := Nat.not_le.mp (fun q => c ((nI_leI (by omega) (by omega)).mpr q))
      refine R_seg sg_130_10 sk_130_10 (pc' := 13) (lv' := [(2, .int (nI i)), (3, .int (nI z)), (0, .ref k), (1, .int v)]) (st' := [.int v, .int (nI i), .ref k]) (S' := flS S k 0 i v) (kc' := 0) (ks' := 0) rfl ⟨trivial, trivial, trivial, trivial⟩ ?_
      refine R_iast (n := z) ca_130_13 (j := i) hk rfl c ?_ hz
      rw [flS_s _ _ _ _ _ (Nat.zero_le _)]
      refine R_seg sg_130_14 sk_130_14 (pc' := 17) (lv' := [(2, .int (nI i + 1)), (3, .int (nI z)), (0, .ref k), (1, .int v)]) (st' := []) (S' := flS S k 0 (i + 1) v) (kc' := 0) (ks' := 0) rfl ⟨(by decide), trivial⟩ ?_
      refine R_goto ck_130_17 ?_
      rw [nI_1]
      exact ih (i + 1) (by omega) (by omega)
theorem x_130 {d : Nat} {S : Sto} {k z : Nat} {v : Int32} (hk : S.1[k]? = some (13, z)) (hz : z < 2147483648) {Post : Option Value → Sto → Prop} (hp : Post none (flS S k 0 z v)) : Ex (d + 1) 130 [.ref k, .int v] S 0 0 Post := by
  refine en_130 (Nat.le_of_ble_eq_true rfl) ?_
  show RU_130 d (0, 0) Post 0 [(0, .ref k), (1, .int v)] [] S 0 0
  refine R_seg [(.iconst 0, 1, 0, 0, 0, 0), (.istore_n 2, 1, 0, 0, 0, 0), (.aload_n 0, 1, 0, 0, 0, 0)] (by decide +kernel) (pc' := 3) (lv' := [(2, .int 0), (0, .ref k), (1, .int v)]) (st' := [.ref k]) (S' := S) (kc' := 0) (ks' := 0) rfl ⟨trivial, (by decide), trivial, trivial⟩ ?_
  refine R_alen (n := z) (show decode prog_15_method_103_code 3 = .ok (.arraylength, 1) ∧ lnkB 14 false 3 (.arraylength, 1, 0, 0, 0, 0) = true by decide +kernel) hk ?_
  refine R_seg [(.istore_n 3, 1, 0, 0, 0, 0)] (by decide +kernel) (pc' := 5) (lv' := [(3, .int (nI z)), (2, .int 0), (0, .ref k), (1, .int v)]) (st' := []) (S' := S) (kc' := 0) (ks' := 0) rfl ⟨(by decide), trivial⟩ ?_
  have key := l_130 (d := d) hk hz hp (z + 1) 0 (Nat.zero_le _) (by omega)
  rw [flS_0] at key
  refine Runs.lv key _ (lvS_l (show ([2, 3, 0, 1] : List Nat).Nodup from by decide) (by intro q hq; simp only [List.mem_cons, List.not_mem_nil, or_false] at hq; rcases hq with rfl | rfl | rfl | rfl <;> rfl))
def c_clear (σ : Nat → Nat → Int32) : Nat → Nat → Int32 := up2 (up2 (up2 (up2 (up2 (fl2 (fl2 (fl2 σ 51 0 192 0) 52 0 192 0) 54 0 5 0) 50 1 0) 50 9 0) 42 5 0) 42 6 0) 42 9 0
set_option maxRecDepth 20000 in
theorem x_24 {d : Nat} {σ : Nat → Nat → Int32} {τ : Nat → Nat → Int64} {Post : Option Value → Sto → Prop} (hp : Post none (stt (c_clear σ) τ)) : Ex (d + 2) 24 [.ref 50] (stt σ τ) 0 0 Post := by
  refine en_24 (Nat.le_of_ble_eq_true rfl) ?_
  show RU_24 (d + 1) (0, 0) Post 0 ([(0, .ref 50)]) ([]) (stt σ τ) 0 0
  refine R_seg sg_24_0 sk_24_0 (pc' := 5) (lv' := [(0, .ref 50)]) (st' := [.int 0, .ref 51]) (S' := stt σ τ) (kc' := 0) (ks' := 0) rfl ⟨trivial, rfl, trivial, trivial⟩ ?_
  refine R_stat ck_24_5 (by decide) [.ref 51, .int 0] 0 0 (r := []) rfl rfl (Nat.le_of_ble_eq_true rfl) (Nat.le_refl _) (Nat.le_refl _) ?_
  refine x_130 (d := d) (z := 192) rfl (by decide) ?_
  show RU_24 (d + 1) (0, 0) Post 8 ([(0, .ref 50)]) ([]) (stt (fl2 σ 51 0 192 0) τ) 0 0
  refine R_seg sg_24_8 sk_24_8 (pc' := 13) (lv' := [(0, .ref 50)]) (st' := [.int 0, .ref 52]) (S' := stt (fl2 σ 51 0 192 0) τ) (kc' := 0) (ks' := 0) rfl ⟨trivial, rfl, trivial, trivial⟩ ?_
  refine R_stat ck_24_13 (by decide) [.ref 52, .int 0] 0 0 (r := []) rfl rfl (Nat.le_of_ble_eq_true rfl) (Nat.le_refl _) (Nat.le_refl _) ?_
  refine x_130 (d := d) (z := 192) rfl (by decide) ?_
  show RU_24 (d + 1) (0, 0) Post 16 ([(0, .ref 50)]) ([]) (stt (fl2 (fl2 σ 51 0 192 0) 52 0 192 0) τ) 0 0
  refine R_seg sg_24_16 sk_24_16 (pc' := 21) (lv' := [(0, .ref 50)]) (st' := [.int 0, .ref 54]) (S' := stt (fl2 (fl2 σ 51 0 192 0) 52 0 192 0) τ) (kc' := 0) (ks' := 0) rfl ⟨trivial, rfl, trivial, trivial⟩ ?_
  refine R_stat ck_24_21 (by decide) [.ref 54, .int 0] 0 0 (r := []) rfl rfl (Nat.le_of_ble_eq_true rfl) (Nat.le_refl _) (Nat.le_refl _) ?_
  refine x_130 (d := d) (z := 5) rfl (by decide) ?_
  show RU_24 (d + 1) (0, 0) Post 24 ([(0, .ref 50)]) ([]) (stt (fl2 (fl2 (fl2 σ 51 0 192 0) 52 0 192 0) 54 0 5 0) τ) 0 0
  refine R_seg sg_24_24 sk_24_24 (pc' := 38) (lv' := [(0, .ref 50)]) (st' := [.ref 42]) (S' := stt (up2 (up2 (fl2 (fl2 (fl2 σ 51 0 192 0) 52 0 192 0) 54 0 5 0) 50 1 0) 50 9 0) τ) (kc' := 0) (ks' := 0) rfl ⟨trivial, trivial, ⟨rfl, ⟨rfl, rfl⟩⟩, trivial, trivial, ⟨rfl, ⟨rfl, rfl⟩⟩, trivial, rfl, trivial⟩ ?_
  refine R_virt ck_24_38 42 [] 0 0 (r := []) rfl rfl rfl (Nat.le_of_ble_eq_true rfl) (Nat.le_refl _) (Nat.le_refl _) ?_
  refine x_1 (d := d) ?_
  show RU_24 (d + 1) (0, 0) Post 41 ([(0, .ref 50)]) ([]) (stt (up2 (up2 (up2 (up2 (up2 (fl2 (fl2 (fl2 σ 51 0 192 0) 52 0 192 0) 54 0 5 0) 50 1 0) 50 9 0) 42 5 0) 42 6 0) 42 9 0) τ) 0 0
  refine R_ret ck_24_41 rfl ?_
  exact hp
