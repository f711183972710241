/-! ===== Model.reads: beginning and end; prices ===== -/
set_option maxRecDepth 20000 in
theorem s_97e {d : Nat} {σ : Nat → Nat → Int32} {τ : Nat → Nat → Int64} {p q bv len : Nat} {ty : Int32} (hft : σ 57 34 = 0) (hat : σ 57 33 = nI p) (hlen : σ 57 32 = nI len) (hlen2 : len ≤ 200) (hpq : p ≤ q) (hq2 : q ≤ len) (hbl : ∀ i, p ≤ i → i < q → σ 86 i = 32) (hne : q < len → ¬ σ 86 q = 32) (hbv : q < len → σ 86 q &&& 255 = nI bv) (hbv2 : bv < 256) {Post : Option Value → Sto → Prop} (h0 : q = len → Post none (stt (up2 σ 57 33 (nI q)) τ)) (h1 : q < len → Post none (stt (up2 (up2 σ 57 33 (nI q)) 57 34 (nI (1 + 4 * q + 0))) τ)) : RU_97 (d + 2) (0, 0) Post 43 [(2, .int (nI 0)), (0, .ref 57), (1, .int ty)] [] (stt σ τ) 0 0 := by
  refine R_seg sg_97_43 sk_97_43 (pc' := 47) (lv' := [(2, .int (nI 0)), (0, .ref 57), (1, .int ty)]) (st' := [.int (σ 57 34)]) (S' := stt σ τ) (kc' := 0) (ks' := 0) rfl ⟨trivial, rfl, trivial⟩ ?_
  rw [hft]
  refine R_if ck_97_47 (fun c => absurd c (show ¬ ¬ (0 : Int32) = 0 from by decide)) (fun _ => ?_)
  refine R_seg sg_97_50 sk_97_50 (pc' := 51) (lv' := [(2, .int (nI 0)), (0, .ref 57), (1, .int ty)]) (st' := [.int (nI 0)]) (S' := stt σ τ) (kc' := 0) (ks' := 0) rfl ⟨trivial, trivial⟩ ?_
  refine R_if ck_97_51 (fun (c_51 : (nI 0) ≤ 0) => ?_) (fun (c_51 : ¬ (nI 0) ≤ 0) => ?_)
  · have c_51 : 0 ≤ 0 := (nI_leI (a := 0) (b := 0) (by omega) (by omega)).mp c_51
    refine R_seg sg_97_309 sk_97_309 (pc' := 313) (lv' := [(2, .int (nI 0)), (0, .ref 57), (1, .int ty)]) (st' := [.int (σ 57 34)]) (S' := stt σ τ) (kc' := 0) (ks' := 0) rfl ⟨trivial, rfl, trivial⟩ ?_
    rw [hft]
    refine R_if ck_97_313 (fun c => absurd c (show ¬ ¬ (0 : Int32) = 0 from by decide)) (fun _ => ?_)
    refine R_seg sg_97_316 sk_97_316 (pc' := 317) (lv' := [(2, .int (nI 0)), (0, .ref 57), (1, .int ty)]) (st' := [.ref 57]) (S' := stt σ τ) (kc' := 0) (ks' := 0) rfl ⟨trivial, trivial⟩ ?_
    refine R_virt ck_97_317 57 [] 0 0 (r := []) rfl rfl rfl (Nat.le_of_ble_eq_true rfl) (Nat.le_refl _) (Nat.le_refl _) ?_
    refine x_98 (d := d + 1) (σ := σ) hat hlen hlen2 hpq hq2 hbl hne (fun o_1 => ?_) (fun o_1 => ?_)
    · show RU_97 (d + 2) (0, 0) Post 320 ([(2, .int (nI 0)), (0, .ref 57), (1, .int ty)]) ([.int (-1)]) (stt (up2 σ 57 33 (nI q)) τ) 0 0
      refine R_seg sg_97_320 sk_97_320 (pc' := 321) (lv' := [(2, .int (nI 0)), (0, .ref 57), (1, .int ty)]) (st' := [.int (-1), .int (-1)]) (S' := stt (up2 σ 57 33 (nI q)) τ) (kc' := 0) (ks' := 0) rfl ⟨trivial, trivial⟩ ?_
      refine R_icmp ck_97_321 (fun _ => ?_) (fun c => absurd (show (-1 : Int32) = (-1) from by decide) c)
      refine R_ret ck_97_333 rfl ?_
      exact h0 (by omega)
    · show RU_97 (d + 2) (0, 0) Post 320 ([(2, .int (nI 0)), (0, .ref 57), (1, .int ty)]) ([.int ((σ 86 q) &&& 255)]) (stt (up2 σ 57 33 (nI q)) τ) 0 0
      refine R_seg sg_97_320 sk_97_320 (pc' := 321) (lv' := [(2, .int (nI 0)), (0, .ref 57), (1, .int ty)]) (st' := [.int (-1), .int ((σ 86 q) &&& 255)]) (S' := stt (up2 σ 57 33 (nI q)) τ) (kc' := 0) (ks' := 0) rfl ⟨trivial, trivial⟩ ?_
      rw [hbv (by omega)]
      refine R_icmp ck_97_321 (fun (c_321 : (nI bv) = (-1)) => ?_) (fun (c_321 : ¬ (nI bv) = (-1)) => ?_)
      · exact absurd c_321 (nI_m1 (by omega))
      · refine R_seg sg_97_324 sk_97_324 (pc' := 330) (lv' := [(2, .int (nI 0)), (0, .ref 57), (1, .int ty)]) (st' := [.int (nI q), .int 0, .ref 57]) (S' := stt (up2 σ 57 33 (nI q)) τ) (kc' := 0) (ks' := 0) rfl ⟨trivial, trivial, trivial, rfl, trivial⟩ ?_
        refine R_virt ck_97_330 57 [.int 0, .int (nI q)] 0 0 (r := []) rfl rfl rfl (Nat.le_of_ble_eq_true rfl) (Nat.le_refl _) (Nat.le_refl _) ?_
        refine x_99 (d := d + 1) (fun _ => ?_) (fun zq => absurd hft zq)
        rw [show ((1 : Int32) + 4 * (nI q)) + 0 = nI (1 + 4 * q + 0) from by simp only [nl_0, nl_1, nl_2, nl_3, nl_4, nl_5, nl_6, nl_8, nl_20, nl_31, nl_32, pk_mul, nI_add]]
        show RU_97 (d + 2) (0, 0) Post 333 ([(2, .int (nI 0)), (0, .ref 57), (1, .int ty)]) ([]) (stt (up2 (up2 σ 57 33 (nI q)) 57 34 (nI (1 + 4 * q + 0))) τ) 0 0
        refine R_ret ck_97_333 rfl ?_
        exact h1 (by omega)
  · have c_51 : 0 < 0 := Nat.not_le.mp (fun zq => c_51 ((nI_leI (a := 0) (b := 0) (by omega) (by omega)).mpr zq))
    omega
def m_rd0 (σ : Nat → Nat → Int32) : Nat → Nat → Int32 := up2 (up2 (up2 σ 57 33 0) 57 34 0) 57 35 0
set_option maxRecDepth 20000 in
theorem x_97 {d : Nat} {σ : Nat → Nat → Int32} {τ : Nat → Nat → Int64} {q bv len : Nat} {ty : Int32} (p : Nat) (hp0 : p = 0) (hlen : σ 57 32 = nI len) (hlen2 : len ≤ 200) (hpq : p ≤ q) (hq2 : q ≤ len) (hbl : ∀ i, p ≤ i → i < q → σ 86 i = 32) (hne : q < len → ¬ σ 86 q = 32) (hbv : q < len → σ 86 q &&& 255 = nI bv) (hbv2 : bv < 256) {Post : Option Value → Sto → Prop} (hf : (q = len ∨ ¬ bv = 123) → Post none (stt (up2 (up2 (m_rd0 σ) 57 33 (nI q)) 57 34 (nI (1 + 4 * q + 0))) τ)) (hs : (q < len ∧ bv = 123) → RU_97 (d + 2) (0, 0) Post 43 [(2, .int 1), (0, .ref 57), (1, .int ty)] [] (stt (m_beg (up2 (m_rd0 σ) 57 33 (nI q)) 0 0 q ty) (up2 τ 92 0 ((1 : Int32).toInt64))) 0 0) : Ex (d + 3) 97 [.ref 57, .int ty] (stt σ τ) 0 0 Post := by
  subst hp0
  refine en_97 (Nat.le_of_ble_eq_true rfl) ?_
  show RU_97 (d + 2) (0, 0) Post 0 ([(0, .ref 57), (1, .int ty)]) ([]) (stt σ τ) 0 0
  refine R_seg sg_97_0 sk_97_0 (pc' := 16) (lv' := [(0, .ref 57), (1, .int ty)]) (st' := [.ref 57]) (S' := stt (up2 (up2 (up2 σ 57 33 0) 57 34 0) 57 35 0) τ) (kc' := 0) (ks' := 0) rfl ⟨trivial, trivial, ⟨rfl, ⟨rfl, rfl⟩⟩, trivial, trivial, ⟨rfl, ⟨rfl, rfl⟩⟩, trivial, trivial, ⟨rfl, ⟨rfl, rfl⟩⟩, trivial, trivial⟩ ?_
  refine R_virt ck_97_16 57 [] 0 0 (r := []) rfl rfl rfl (Nat.le_of_ble_eq_true rfl) (Nat.le_refl _) (Nat.le_refl _) ?_
  refine x_98 (d := d + 1) (σ := up2 (up2 (up2 σ 57 33 0) 57 34 0) 57 35 0) (p := 0) rfl hlen hlen2 hpq hq2 hbl hne (fun o_1 => ?_) (fun o_1 => ?_)
  · show RU_97 (d + 2) (0, 0) Post 19 ([(0, .ref 57), (1, .int ty)]) ([.int (-1)]) (stt (up2 (up2 (up2 (up2 σ 57 33 0) 57 34 0) 57 35 0) 57 33 (nI q)) τ) 0 0
    refine R_seg sg_97_19 sk_97_19 (pc' := 21) (lv' := [(0, .ref 57), (1, .int ty)]) (st' := [.int 123, .int (-1)]) (S' := stt (up2 (up2 (up2 (up2 σ 57 33 0) 57 34 0) 57 35 0) 57 33 (nI q)) τ) (kc' := 0) (ks' := 0) rfl ⟨trivial, trivial⟩ ?_
    refine R_icmp ck_97_21 (fun c => absurd c (show ¬ (-1 : Int32) = 123 from by decide)) (fun _ => ?_)
    refine R_seg sg_97_24 sk_97_24 (pc' := 30) (lv' := [(0, .ref 57), (1, .int ty)]) (st' := [.int (nI q), .int 0, .ref 57]) (S' := stt (up2 (up2 (up2 (up2 σ 57 33 0) 57 34 0) 57 35 0) 57 33 (nI q)) τ) (kc' := 0) (ks' := 0) rfl ⟨trivial, trivial, trivial, rfl, trivial⟩ ?_
    refine R_virt ck_97_30 57 [.int 0, .int (nI q)] 0 0 (r := []) rfl rfl rfl (Nat.le_of_ble_eq_true rfl) (Nat.le_refl _) (Nat.le_refl _) ?_
    refine x_99 (d := d + 1) (fun _ => ?_) (fun zq => absurd rfl zq)
    rw [show ((1 : Int32) + 4 * (nI q)) + 0 = nI (1 + 4 * q + 0) from by simp only [nl_0, nl_1, nl_2, nl_3, nl_4, nl_5, nl_6, nl_8, nl_20, nl_31, nl_32, pk_mul, nI_add]]
    show RU_97 (d + 2) (0, 0) Post 33 ([(0, .ref 57), (1, .int ty)]) ([]) (stt (up2 (up2 (up2 (up2 (up2 σ 57 33 0) 57 34 0) 57 35 0) 57 33 (nI q)) 57 34 (nI (1 + 4 * q + 0))) τ) 0 0
    refine R_ret ck_97_33 rfl ?_
    exact hf (by omega)
  · show RU_97 (d + 2) (0, 0) Post 19 ([(0, .ref 57), (1, .int ty)]) ([.int ((σ 86 q) &&& 255)]) (stt (up2 (up2 (up2 (up2 σ 57 33 0) 57 34 0) 57 35 0) 57 33 (nI q)) τ) 0 0
    refine R_seg sg_97_19 sk_97_19 (pc' := 21) (lv' := [(0, .ref 57), (1, .int ty)]) (st' := [.int 123, .int ((σ 86 q) &&& 255)]) (S' := stt (up2 (up2 (up2 (up2 σ 57 33 0) 57 34 0) 57 35 0) 57 33 (nI q)) τ) (kc' := 0) (ks' := 0) rfl ⟨trivial, trivial⟩ ?_
    rw [hbv (by omega)]
    refine R_icmp ck_97_21 (fun (c_21 : (nI bv) = 123) => ?_) (fun (c_21 : ¬ (nI bv) = 123) => ?_)
    · have c_21 : bv = 123 := (nI_eq (a := bv) (b := 123) (by omega) (by omega)).mp c_21
      refine R_seg sg_97_34 sk_97_34 (pc' := 38) (lv' := [(0, .ref 57), (1, .int ty)]) (st' := [.int 0, .long ((1 : Int32).toInt64), .int ty, .ref 57]) (S' := stt (up2 (up2 (up2 (up2 σ 57 33 0) 57 34 0) 57 35 0) 57 33 (nI q)) τ) (kc' := 0) (ks' := 0) rfl ⟨trivial, trivial, trivial, trivial, trivial⟩ ?_
      refine R_virt ck_97_38 57 [.int ty, .long ((1 : Int32).toInt64), .int 0] 0 0 (r := []) rfl rfl rfl (Nat.le_of_ble_eq_true rfl) (Nat.le_refl _) (Nat.le_refl _) ?_
      refine x_100 (d := d) (σ := up2 (up2 (up2 (up2 σ 57 33 0) 57 34 0) 57 35 0) 57 33 (nI q)) (nd := 0) (dp := 0) (p := q) rfl (by omega) (by omega) rfl (by omega) rfl (fun r_f => absurd r_f (by omega)) (fun _ _ => ?_)
      show RU_97 (d + 2) (0, 0) Post 41 ([(0, .ref 57), (1, .int ty)]) ([]) (stt (m_beg (up2 (up2 (up2 (up2 σ 57 33 0) 57 34 0) 57 35 0) 57 33 (nI q)) 0 0 q ty) (up2 τ 92 0 ((1 : Int32).toInt64))) 0 0
      refine R_seg sg_97_41 sk_97_41 (pc' := 43) (lv' := [(2, .int 1), (0, .ref 57), (1, .int ty)]) (st' := []) (S' := stt (m_beg (up2 (up2 (up2 (up2 σ 57 33 0) 57 34 0) 57 35 0) 57 33 (nI q)) 0 0 q ty) (up2 τ 92 0 ((1 : Int32).toInt64))) (kc' := 0) (ks' := 0) rfl ⟨trivial, (by decide), trivial⟩ ?_
      exact hs (by omega)
    · have c_21 : ¬ bv = 123 := fun zq => c_21 ((nI_eq (a := bv) (b := 123) (by omega) (by omega)).mpr zq)
      refine R_seg sg_97_24 sk_97_24 (pc' := 30) (lv' := [(0, .ref 57), (1, .int ty)]) (st' := [.int (nI q), .int 0, .ref 57]) (S' := stt (up2 (up2 (up2 (up2 σ 57 33 0) 57 34 0) 57 35 0) 57 33 (nI q)) τ) (kc' := 0) (ks' := 0) rfl ⟨trivial, trivial, trivial, rfl, trivial⟩ ?_
      refine R_virt ck_97_30 57 [.int 0, .int (nI q)] 0 0 (r := []) rfl rfl rfl (Nat.le_of_ble_eq_true rfl) (Nat.le_refl _) (Nat.le_refl _) ?_
      refine x_99 (d := d + 1) (fun _ => ?_) (fun zq => absurd rfl zq)
      rw [show ((1 : Int32) + 4 * (nI q)) + 0 = nI (1 + 4 * q + 0) from by simp only [nl_0, nl_1, nl_2, nl_3, nl_4, nl_5, nl_6, nl_8, nl_20, nl_31, nl_32, pk_mul, nI_add]]
      show RU_97 (d + 2) (0, 0) Post 33 ([(0, .ref 57), (1, .int ty)]) ([]) (stt (up2 (up2 (up2 (up2 (up2 σ 57 33 0) 57 34 0) 57 35 0) 57 33 (nI q)) 57 34 (nI (1 + 4 * q + 0))) τ) 0 0
      refine R_ret ck_97_33 rfl ?_
      exact hf (by omega)
