/-! ===== the world as numbers; need and follow of the class ===== -/
def nw (w : WW) : Nat → Nat → Int32 := fun k i => nI (w k i)
theorem nw_up {w : WW} {k i n : Nat} {v : Int32} (hv : v = nI n) : up2 (nw w) k i v = nw (up2 w k i n) := by
  subst hv
  funext a b
  unfold up2 nw va_up
  by_cases h : a = k
  · subst h
    simp only [if_true]
    by_cases h2 : b = i <;> simp [h2]
  · simp only [if_neg h]
theorem nI_N1 {a : Nat} (h : a < 2147483648 ∨ a = N1) : nI a = -1 ↔ a = N1 := by
  constructor
  · intro e
    rcases h with h | h
    · exact absurd e (nI_m1 h)
    · exact h
  · intro e
    rw [e]
    rfl
/-- what is kept, and now, are small -/
def KO (w : WW) : Prop := w 1 4 ≤ 100000 ∧ ∀ x, x < 192 → w 25 x ≤ 100999
theorem KO.fr {w v : WW} (h : KO w) (e : ∀ k, k < 50 → v k = w k) : KO v := by
  unfold KO
  rw [e 1 (by decide), e 25 (by decide)]
  exact h
theorem lcw_fr {w v : WW} (e : ∀ k, k < 50 → v k = w k) (x f : Nat) : lcw v x f = lcw w x f := by
  unfold lcw
  rw [e 20 (by decide), e 22 (by decide), e 27 (by decide), e 28 (by decide)]
theorem lkw_fr {w v : WW} (e : ∀ k, k < 50 → v k = w k) (x f j : Nat) : lkw v x f j = lkw w x f j := by
  unfold lkw
  rw [e 20 (by decide), e 21 (by decide), e 27 (by decide), e 29 (by decide)]
theorem fol_fr {w v : WW} (e : ∀ k, k < 50 → v k = w k) (k n x : Nat) (u : WW) : fol k n x v u = fol k n x w u := by
  unfold fol folS
  simp only [lcw_fr e, lkw_fr e]
  rw [e 37 (by decide), e 38 (by decide), e 39 (by decide)]
theorem c_39 {d : Nat} {w : WW} {τ : Nat → Nat → Int64} {x f : Nat} (hS : SO w) (hx : x < 192) (hf : f < 4) {Post : Option Value → Sto → Prop} (hp : Post (some (.int (nI (lcw w x f)))) (stt (nw w) τ)) : Ex (d + 2) 39 [.ref 16, .int (nI x), .int (nI f)] (stt (nw w) τ) 0 0 Post := by
  have h1 := hS.2.1 (x / 32 * 4 + f) (by omega)
  have h2 := hS.2.2 (x * 4 + f) (by omega)
  unfold lcw at hp
  rcases (show w 20 (x / 32 * 4 + f) = 0 ∨ w 20 (x / 32 * 4 + f) = 1 ∨ w 20 (x / 32 * 4 + f) = 2 by omega) with e | e | e
  · refine x_39n hx hf (show nI (w 20 (x / 32 * 4 + f)) = 0 by rw [e]; rfl) ?_
    rw [if_neg (by omega), if_neg (by omega)] at hp
    exact hp
  · rw [if_pos e] at hp
    refine x_39r hx hf (show nI (w 20 (x / 32 * 4 + f)) = 1 by rw [e]; rfl) (fun q => ?_) (fun q => ?_)
    · rw [if_pos ((nI_N1 (by omega)).mp q)] at hp
      exact hp
    · rw [if_neg (fun z => q ((nI_N1 (by omega)).mpr z))] at hp
      exact hp
  · rw [if_neg (by omega), if_pos e] at hp
    exact x_39l hx hf (show nI (w 20 (x / 32 * 4 + f)) = 2 by rw [e]; rfl) (n := w 28 (x * 4 + f)) (m := w 22 (x / 32 * 4 + f)) rfl (by omega) rfl (by omega) hp
theorem c_41 {d : Nat} {w : WW} {τ : Nat → Nat → Int64} {x f j : Nat} (hS : SO w) (hx : x < 192) (hf : f < 4) (hj : j < lcw w x f) {Post : Option Value → Sto → Prop} (hp : Post (some (.int (nI (lkw w x f j)))) (stt (nw w) τ)) : Ex (d + 2) 41 [.ref 16, .int (nI x), .int (nI f), .int (nI j)] (stt (nw w) τ) 0 0 Post := by
  have h1 := hS.2.1 (x / 32 * 4 + f) (by omega)
  have h2 := hS.2.2 (x * 4 + f) (by omega)
  have h3 := lcw_le hS hx hf
  have hj4 : j ≤ 4 := by omega
  unfold lcw at hj
  unfold lkw at hp
  rcases (show w 20 (x / 32 * 4 + f) = 0 ∨ w 20 (x / 32 * 4 + f) = 1 ∨ w 20 (x / 32 * 4 + f) = 2 by omega) with e | e | e
  · rw [if_neg (by omega), if_neg (by omega)] at hj
    omega
  · rw [if_pos e] at hp hj
    refine x_41r hx hf (show nI (w 20 (x / 32 * 4 + f)) = 1 by rw [e]; rfl) (o := w 21 (x / 32 * 4 + f)) (k := w 27 (x * 4 + f)) rfl (by omega) rfl ?_ hp
    by_cases z : w 27 (x * 4 + f) = N1
    · rw [if_pos z] at hj; omega
    · omega
  · rw [if_neg (by omega)] at hp
    exact x_41l hx hf (show nI (w 20 (x / 32 * 4 + f)) = 2 by rw [e]; rfl) hj4 (o := w 21 (x / 32 * 4 + f)) rfl (by omega) hp
theorem c_26 {d : Nat} {w : WW} {τ : Nat → Nat → Int64} {x : Nat} (hS : SO w) (hK : KO w) (hx : x < 192) (ha : w 50 1 < 192) {Post : Option Value → Sto → Prop} (hp : Post none (stt (nw (aMeet w x)) τ)) : Ex (d + 1) 26 [.ref 50, .int (nI x)] (stt (nw w) τ) 0 0 Post := by
  have h1 := hS.1 (x / 32) (by omega)
  have h2 := hK.2 x hx
  have h3 := hK.1
  unfold aMeet at hp
  refine x_26 (σ := nw w) (a := w 50 1) (h := w 17 (x / 32)) hx rfl ha rfl h1.1 (fun c => ?_) (fun c c2 => ?_) (fun c c2 => ?_)
  · have c : (nI (w 50 11) >>> (nI (x / 32) &&& 31)) &&& 1 = 0 := c
    rw [if_pos c] at hp
    rw [nw_up (v := 1) (n := 1) rfl]
    exact hp
  · have c2 : ¬ w 25 x ≤ w 1 4 := fun z => c2 ((nI_leI (by omega) (by omega)).mpr z)
    have c : ¬ (nI (w 50 11) >>> (nI (x / 32) &&& 31)) &&& 1 = 0 := c
    rw [if_neg c, if_neg c2] at hp
    rw [nw_up (v := 10) (n := 10) rfl]
    exact hp
  · have c2 : w 25 x ≤ w 1 4 := (nI_leI (by omega) (by omega)).mp c2
    have c : ¬ (nI (w 50 11) >>> (nI (x / 32) &&& 31)) &&& 1 = 0 := c
    rw [if_neg c, if_pos c2] at hp
    rw [nw_up (v := 11) (n := 11) rfl, nw_up (n := x) rfl, nw_up (n := w 50 1 + 1) (nI_1 _), show nw w 54 (w 17 (x / 32)) = nI (w 54 (w 17 (x / 32))) from rfl, nw_up (n := w 54 (w 17 (x / 32)) + 1) (nI_1 _)]
    exact hp
def NeedS (d k : Nat) : Prop := ∀ (n x dp : Nat) (w : WW) (τ : Nat → Nat → Int64) (Post : Option Value → Sto → Prop), SO w → TO w → KO w → NI w → OKn w k n x → dp + k = 6 → Post none (stt (nw (need k n x w)) τ) → Ex (d + 2 * k + 2) 25 [.ref 50, .int (nI n), .int (nI x), .int (nI dp)] (stt (nw w) τ) 0 0 Post
def FolS (d k : Nat) : Prop := ∀ (n x dp : Nat) (w : WW) (τ : Nat → Nat → Int64) (Post : Option Value → Sto → Prop), SO w → TO w → KO w → NI w → OKn w (k + 1) n x → dp + k = 5 → Post none (stt (nw (fol k n x w w)) τ) → Ex (d + 2 * k + 3) 27 [.ref 50, .int (nI n), .int (nI x), .int (nI dp)] (stt (nw w) τ) 0 0 Post
set_option maxRecDepth 20000 in
theorem c_25 {d k : Nat} (hF : FolS d k) : NeedS d (k + 1) := by
  intro n x dp w τ Post hS hT hK hN ho hdp hp
  rw [need_s] at hp
  have hn : n < 20 := Nat.lt_of_lt_of_le ho.1 hT.1
  have hx := ho.2.1
  have hb := hN.2.2.2.2.2.1 x hx
  have hNm := hN.mark (x := x) hn
  have hNa := hN.mk2 hn hx
  have e50 : ∀ k, k < 50 → (up2 w 52 x (w 52 x ||| 2 ^ n)) k = w k := ((FRN.rf w).up (k := 52) (i := x) (n := w 52 x ||| 2 ^ n) (Or.inl (by decide))).1
  have e51 := ((FRN.rf w).mark n x).1
  have b1 : w 51 x ≤ 12 := hN.1 x hx
  have b2 : amk w n x 51 x ≤ 12 := hNa.1 x hx
  refine en_25 (Nat.le_of_ble_eq_true rfl) ?_
  show RU_25 (d + 2 * k + 3) (0, 0) Post 0 ([(0, .ref 50), (1, .int (nI n)), (2, .int (nI x)), (3, .int (nI dp))]) ([]) (stt (nw w) τ) 0 0
  refine R_seg sg_25_0 sk_25_0 (pc' := 2) (lv' := [(0, .ref 50), (1, .int (nI n)), (2, .int (nI x)), (3, .int (nI dp))]) (st' := [.int 5, .int (nI dp)]) (S' := stt (nw w) τ) (kc' := 0) (ks' := 0) rfl ⟨trivial, trivial, trivial⟩ ?_
  refine R_icmp ck_25_2 (fun (c_2 : 5 < (nI dp)) => ?_) (fun (c_2 : ¬ 5 < (nI dp)) => ?_)
  · have c_2 : 5 < dp := (nI_ltI (a := 5) (b := dp) (by omega) (by omega)).mp c_2
    omega
  · have c_2 : dp ≤ 5 := Nat.not_lt.mp (fun zq => c_2 ((nI_ltI (a := 5) (b := dp) (by omega) (by omega)).mpr zq))
    refine R_seg sg_25_5 sk_25_5 (pc' := 7) (lv' := [(0, .ref 50), (1, .int (nI n)), (2, .int (nI x)), (3, .int (nI dp))]) (st' := [.int (-1), .int (nI n)]) (S' := stt (nw w) τ) (kc' := 0) (ks' := 0) rfl ⟨trivial, trivial, trivial⟩ ?_
    refine R_icmp ck_25_7 (fun (c_7 : ¬ (nI n) = (-1)) => ?_) (fun (c_7 : ¬ ¬ (nI n) = (-1)) => ?_)
    · refine R_seg sg_25_11 sk_25_11 (pc' := 21) (lv' := [(4, .int (1 <<< ((nI n) &&& 31))), (0, .ref 50), (1, .int (nI n)), (2, .int (nI x)), (3, .int (nI dp))]) (st' := [.int (nI x), .ref 52]) (S' := stt (nw w) τ) (kc' := 0) (ks' := 0) rfl ⟨trivial, trivial, trivial, (by decide), trivial, rfl, trivial, trivial⟩ ?_
      refine R_iald ca_25_21 (j := x) rfl rfl (by omega) ?_
      refine R_seg sg_25_22 sk_25_22 (pc' := 25) (lv' := [(4, .int (1 <<< ((nI n) &&& 31))), (0, .ref 50), (1, .int (nI n)), (2, .int (nI x)), (3, .int (nI dp))]) (st' := [.int ((nI (w 52 x)) &&& (1 <<< ((nI n) &&& 31)))]) (S' := stt (nw w) τ) (kc' := 0) (ks' := 0) rfl ⟨trivial, trivial, trivial⟩ ?_
      refine R_if ck_25_25 (fun (c_25 : ((nI (w 52 x)) &&& (1 <<< ((nI n) &&& 31))) = 0) => ?_) (fun (c_25 : ¬ ((nI (w 52 x)) &&& (1 <<< ((nI n) &&& 31))) = 0) => ?_)
      · have hbit : ¬ (w 52 x).testBit n = true := by rw [(bit_and hb hn).mp c_25]; exact Bool.false_ne_true
        refine R_seg sg_25_29 sk_25_29 (pc' := 35) (lv' := [(4, .int (1 <<< ((nI n) &&& 31))), (0, .ref 50), (1, .int (nI n)), (2, .int (nI x)), (3, .int (nI dp))]) (st' := [.int (nI x), .ref 52, .int (nI x), .ref 52]) (S' := stt (nw w) τ) (kc' := 0) (ks' := 0) rfl ⟨trivial, rfl, trivial, ⟨rfl, rfl⟩, trivial⟩ ?_
        refine R_iald ca_25_35 (j := x) rfl rfl (by omega) ?_
        refine R_seg sg_25_36 sk_25_36 (pc' := 39) (lv' := [(4, .int (1 <<< ((nI n) &&& 31))), (0, .ref 50), (1, .int (nI n)), (2, .int (nI x)), (3, .int (nI dp))]) (st' := [.int ((nI (w 52 x)) ||| (1 <<< ((nI n) &&& 31))), .int (nI x), .ref 52]) (S' := stt (nw w) τ) (kc' := 0) (ks' := 0) rfl ⟨trivial, trivial, trivial⟩ ?_
        refine R_iast ca_25_39 (j := x) rfl rfl (by omega) ?_
        show RU_25 (d + 2 * k + 3) (0, 0) Post 40 ([(4, .int (1 <<< ((nI n) &&& 31))), (0, .ref 50), (1, .int (nI n)), (2, .int (nI x)), (3, .int (nI dp))]) ([]) (stt (up2 (nw w) 52 x ((nI (w 52 x)) ||| (1 <<< ((nI n) &&& 31)))) τ) 0 0
        rw [nw_up (w := w) (k := 52) (i := x) (v := (nI (w 52 x)) ||| (1 <<< ((nI n) &&& 31))) (n := w 52 x ||| 2 ^ n) (bit_or hn)]
        refine R_seg sg_25_40 sk_25_40 (pc' := 45) (lv' := [(4, .int (1 <<< ((nI n) &&& 31))), (0, .ref 50), (1, .int (nI n)), (2, .int (nI x)), (3, .int (nI dp))]) (st' := [.int (nI x), .ref 51]) (S' := stt (nw (up2 w 52 x (w 52 x ||| 2 ^ n))) τ) (kc' := 0) (ks' := 0) rfl ⟨trivial, rfl, trivial, trivial⟩ ?_
        refine R_iald ca_25_45 (j := x) rfl rfl (by omega) ?_
        refine R_if ck_25_46 (fun (c_46 : ¬ (nI (w 51 x)) = 0) => ?_) (fun (c_46 : ¬ ¬ (nI (w 51 x)) = 0) => ?_)
        · have c_46 : ¬ (w 51 x) = 0 := fun zq => c_46 ((nI_eq (a := (w 51 x)) (b := 0) (by omega) (by omega)).mpr zq)
          have c_46 : ¬ w 51 x = 0 := c_46
          have e2 : up2 w 52 x (w 52 x ||| 2 ^ n) = amk w n x := by unfold amk; rw [if_neg c_46]
          rw [e2]
          skip
          refine R_seg sg_25_54 sk_25_54 (pc' := 59) (lv' := [(4, .int (1 <<< ((nI n) &&& 31))), (0, .ref 50), (1, .int (nI n)), (2, .int (nI x)), (3, .int (nI dp))]) (st' := [.int (nI x), .ref 51]) (S' := stt (nw (amk w n x)) τ) (kc' := 0) (ks' := 0) rfl ⟨trivial, rfl, trivial, trivial⟩ ?_
          refine R_iald ca_25_59 (j := x) rfl rfl (by omega) ?_
          refine R_seg sg_25_60 sk_25_60 (pc' := 62) (lv' := [(4, .int (1 <<< ((nI n) &&& 31))), (0, .ref 50), (1, .int (nI n)), (2, .int (nI x)), (3, .int (nI dp))]) (st' := [.int 10, .int (nI ((amk w n x) 51 x))]) (S' := stt (nw (amk w n x)) τ) (kc' := 0) (ks' := 0) rfl ⟨trivial, trivial⟩ ?_
          refine R_icmp ck_25_62 (fun (c_62 : ¬ (nI ((amk w n x) 51 x)) = 10) => ?_) (fun (c_62 : ¬ ¬ (nI ((amk w n x) 51 x)) = 10) => ?_)
          · have c_62 : ¬ ((amk w n x) 51 x) = 10 := fun zq => c_62 ((nI_eq (a := ((amk w n x) 51 x)) (b := 10) (by omega) (by omega)).mpr zq)
            refine R_ret ck_25_72 rfl ?_
            rw [if_neg hbit, if_neg c_62] at hp
            exact hp
          · have c_62 : ((amk w n x) 51 x) = 10 := (nI_eq (a := ((amk w n x) 51 x)) (b := 10) (by omega) (by omega)).mp (Classical.not_not.mp c_62)
            refine R_seg sg_25_65 sk_25_65 (pc' := 69) (lv' := [(4, .int (1 <<< ((nI n) &&& 31))), (0, .ref 50), (1, .int (nI n)), (2, .int (nI x)), (3, .int (nI dp))]) (st' := [.int (nI dp), .int (nI x), .int (nI n), .ref 50]) (S' := stt (nw (amk w n x)) τ) (kc' := 0) (ks' := 0) rfl ⟨trivial, trivial, trivial, trivial, trivial⟩ ?_
            refine R_virt ck_25_69 50 [.int (nI n), .int (nI x), .int (nI dp)] 0 0 (r := []) rfl rfl rfl (Nat.le_of_ble_eq_true rfl) (Nat.le_refl _) (Nat.le_refl _) ?_
            refine hF n x dp (amk w n x) τ _ (hS.fr e51) (hT.fr e51) (hK.fr e51) hNa (ho.fr e51) (by omega) ?_
            rw [if_neg hbit, if_pos c_62] at hp
            rw [fol_fr e51]
            show RU_25 (d + 2 * k + 3) (0, 0) Post 72 ([(4, .int (1 <<< ((nI n) &&& 31))), (0, .ref 50), (1, .int (nI n)), (2, .int (nI x)), (3, .int (nI dp))]) ([]) (stt (nw (fol k n x w (amk w n x))) τ) 0 0
            refine R_ret ck_25_72 rfl ?_
            exact hp
        · have c_46 : (w 51 x) = 0 := (nI_eq (a := (w 51 x)) (b := 0) (by omega) (by omega)).mp (Classical.not_not.mp c_46)
          have c_46 : w 51 x = 0 := c_46
          refine R_seg sg_25_49 sk_25_49 (pc' := 51) (lv' := [(4, .int (1 <<< ((nI n) &&& 31))), (0, .ref 50), (1, .int (nI n)), (2, .int (nI x)), (3, .int (nI dp))]) (st' := [.int (nI x), .ref 50]) (S' := stt (nw (up2 w 52 x (w 52 x ||| 2 ^ n))) τ) (kc' := 0) (ks' := 0) rfl ⟨trivial, trivial, trivial⟩ ?_
          refine R_virt ck_25_51 50 [.int (nI x)] 0 0 (r := []) rfl rfl rfl (Nat.le_of_ble_eq_true rfl) (Nat.le_refl _) (Nat.le_refl _) ?_
          refine c_26 (d := d + 2 * k + 2) (hS.fr e50) (hK.fr e50) hx (NIb.lt hNm.2.1 hx c_46) ?_
          rw [show aMeet (up2 w 52 x (w 52 x ||| 2 ^ n)) x = amk w n x from by unfold amk; rw [if_pos (show w 51 x = 0 from c_46)]]
          show RU_25 (d + 2 * k + 3) (0, 0) Post 54 ([(4, .int (1 <<< ((nI n) &&& 31))), (0, .ref 50), (1, .int (nI n)), (2, .int (nI x)), (3, .int (nI dp))]) ([]) (stt (nw (amk w n x)) τ) 0 0
          skip
          refine R_seg sg_25_54 sk_25_54 (pc' := 59) (lv' := [(4, .int (1 <<< ((nI n) &&& 31))), (0, .ref 50), (1, .int (nI n)), (2, .int (nI x)), (3, .int (nI dp))]) (st' := [.int (nI x), .ref 51]) (S' := stt (nw (amk w n x)) τ) (kc' := 0) (ks' := 0) rfl ⟨trivial, rfl, trivial, trivial⟩ ?_
          refine R_iald ca_25_59 (j := x) rfl rfl (by omega) ?_
          refine R_seg sg_25_60 sk_25_60 (pc' := 62) (lv' := [(4, .int (1 <<< ((nI n) &&& 31))), (0, .ref 50), (1, .int (nI n)), (2, .int (nI x)), (3, .int (nI dp))]) (st' := [.int 10, .int (nI ((amk w n x) 51 x))]) (S' := stt (nw (amk w n x)) τ) (kc' := 0) (ks' := 0) rfl ⟨trivial, trivial⟩ ?_
          refine R_icmp ck_25_62 (fun (c_62 : ¬ (nI ((amk w n x) 51 x)) = 10) => ?_) (fun (c_62 : ¬ ¬ (nI ((amk w n x) 51 x)) = 10) => ?_)
          · have c_62 : ¬ ((amk w n x) 51 x) = 10 := fun zq => c_62 ((nI_eq (a := ((amk w n x) 51 x)) (b := 10) (by omega) (by omega)).mpr zq)
            refine R_ret ck_25_72 rfl ?_
            rw [if_neg hbit, if_neg c_62] at hp
            exact hp
          · have c_62 : ((amk w n x) 51 x) = 10 := (nI_eq (a := ((amk w n x) 51 x)) (b := 10) (by omega) (by omega)).mp (Classical.not_not.mp c_62)
            refine R_seg sg_25_65 sk_25_65 (pc' := 69) (lv' := [(4, .int (1 <<< ((nI n) &&& 31))), (0, .ref 50), (1, .int (nI n)), (2, .int (nI x)), (3, .int (nI dp))]) (st' := [.int (nI dp), .int (nI x), .int (nI n), .ref 50]) (S' := stt (nw (amk w n x)) τ) (kc' := 0) (ks' := 0) rfl ⟨trivial, trivial, trivial, trivial, trivial⟩ ?_
            refine R_virt ck_25_69 50 [.int (nI n), .int (nI x), .int (nI dp)] 0 0 (r := []) rfl rfl rfl (Nat.le_of_ble_eq_true rfl) (Nat.le_refl _) (Nat.le_refl _) ?_
            refine hF n x dp (amk w n x) τ _ (hS.fr e51) (hT.fr e51) (hK.fr e51) hNa (ho.fr e51) (by omega) ?_
            rw [if_neg hbit, if_pos c_62] at hp
            rw [fol_fr e51]
            show RU_25 (d + 2 * k + 3) (0, 0) Post 72 ([(4, .int (1 <<< ((nI n) &&& 31))), (0, .ref 50), (1, .int (nI n)), (2, .int (nI x)), (3, .int (nI dp))]) ([]) (stt (nw (fol k n x w (amk w n x))) τ) 0 0
            refine R_ret ck_25_72 rfl ?_
            exact hp
      · refine R_ret ck_25_28 rfl ?_
        rw [if_pos (by rcases Bool.eq_false_or_eq_true ((w 52 x).testBit n) with z | z; exact z; exact absurd ((bit_and hb hn).mpr z) c_25)] at hp
        exact hp
    · exact absurd (Classical.not_not.mp c_7) (nI_m1 (by omega))
set_option maxRecDepth 20000 in
theorem l_27i {d k n x dp i : Nat} {w u0 : WW} {τ : Nat → Nat → Int64} {Post : Option Value → Sto → Prop} (hN : NeedS d k) (hS : SO w) (hT : TO w) (hK : KO w) (ho : OKn w (k + 1) n x) (hdp : dp + k = 5) (hi : i < w 37 n) (hn0 : NI u0) (hf0 : FRN w u0) (hk : RU_27 (d + 2 * k + 2) (0, 0) Post 99 [(7, .int (nI (lcw w x (w 38 (n * 6 + i))))), (6, .int (nI (lcw w x (w 38 (n * 6 + i))))), (5, .int (nI (n * 6 + i))), (4, .int (nI i)), (0, .ref 50), (1, .int (nI n)), (2, .int (nI x)), (3, .int (nI dp))] [] (stt (nw (folS k n x w i u0)) τ) 0 0) : ∀ (nn : Nat) (j : Nat) (u : WW), j ≤ lcw w x (w 38 (n * 6 + i)) → u = itr (fun j v => need k (w 39 (n * 6 + i)) (lkw w x (w 38 (n * 6 + i)) j) v) j u0 → lcw w x (w 38 (n * 6 + i)) - j < nn → RU_27 (d + 2 * k + 2) (0, 0) Post 49 [(7, .int (nI j)), (6, .int (nI (lcw w x (w 38 (n * 6 + i))))), (5, .int (nI (n * 6 + i))), (4, .int (nI i)), (0, .ref 50), (1, .int (nI n)), (2, .int (nI x)), (3, .int (nI dp))] [] (stt (nw u) τ) 0 0 := by
  intro nn
  induction nn with
  | zero => intro j u hj hu hms; exact absurd hms (by omega)
  | succ nn ih =>
    intro j u hj hu hms
    have hx := ho.2.1
    have ht := hT.2 n ho.1
    have h38 : w 38 (n * 6 + i) < 4 := (ht.2 i hi).1
    have hl := lcw_le hS hx h38
    have hq : NI u ∧ FRN w u := by
      rw [hu]
      exact itr_ind (fun _ v => NI v ∧ FRN w v) ⟨hn0, hf0⟩ j (fun j2 b hj2 hb => ⟨need_ni k _ _ b (hS.fr hb.2.1) (hT.fr hb.2.1) hb.1 ((ho.child hS hT hi (by omega)).fr hb.2.1), hb.2.tr (need_fr k _ _ b)⟩)
    obtain ⟨hni, hfr⟩ := hq
    have e39 : u 39 = w 39 := hfr.1 39 (by decide)
    have e38 : u 38 = w 38 := hfr.1 38 (by decide)
    have hT1 := hT.1
    have ht1 := ht.1
    have hn1 := ho.1
    refine R_seg sg_27_49 sk_27_49 (pc' := 53) (lv' := [(7, .int (nI j)), (6, .int (nI (lcw w x (w 38 (n * 6 + i))))), (5, .int (nI (n * 6 + i))), (4, .int (nI i)), (0, .ref 50), (1, .int (nI n)), (2, .int (nI x)), (3, .int (nI dp))]) (st' := [.int (nI (lcw w x (w 38 (n * 6 + i)))), .int (nI j)]) (S' := stt (nw u) τ) (kc' := 0) (ks' := 0) rfl ⟨trivial, trivial, trivial⟩ ?_
    refine R_icmp ck_27_53 (fun (c_53 : (nI (lcw w x (w 38 (n * 6 + i)))) ≤ (nI j)) => ?_) (fun (c_53 : ¬ (nI (lcw w x (w 38 (n * 6 + i)))) ≤ (nI j)) => ?_)
    · have c_53 : (lcw w x (w 38 (n * 6 + i))) ≤ j := (nI_leI (a := (lcw w x (w 38 (n * 6 + i)))) (b := j) (by omega) (by omega)).mp c_53
      have ej : j = lcw w x (w 38 (n * 6 + i)) := by omega
      subst ej
      subst hu
      exact hk
    · have c_53 : j < (lcw w x (w 38 (n * 6 + i))) := Nat.not_le.mp (fun zq => c_53 ((nI_leI (a := (lcw w x (w 38 (n * 6 + i)))) (b := j) (by omega) (by omega)).mpr zq))
      refine R_seg sg_27_56 sk_27_56 (pc' := 66) (lv' := [(7, .int (nI j)), (6, .int (nI (lcw w x (w 38 (n * 6 + i))))), (5, .int (nI (n * 6 + i))), (4, .int (nI i)), (0, .ref 50), (1, .int (nI n)), (2, .int (nI x)), (3, .int (nI dp))]) (st' := [.int (nI (n * 6 + i)), .ref 39, .ref 50]) (S' := stt (nw u) τ) (kc' := 0) (ks' := 0) rfl ⟨trivial, trivial, rfl, rfl, trivial, trivial⟩ ?_
      refine R_iald ca_27_66 (j := n * 6 + i) rfl rfl (by omega) ?_
      show RU_27 (d + 2 * k + 2) (0, 0) Post 67 ([(7, .int (nI j)), (6, .int (nI (lcw w x (w 38 (n * 6 + i))))), (5, .int (nI (n * 6 + i))), (4, .int (nI i)), (0, .ref 50), (1, .int (nI n)), (2, .int (nI x)), (3, .int (nI dp))]) ([.int (nI (u 39 (n * 6 + i))), .ref 50]) (stt (nw u) τ) 0 0
      rw [e39]
      refine R_seg sg_27_67 sk_27_67 (pc' := 81) (lv' := [(7, .int (nI j)), (6, .int (nI (lcw w x (w 38 (n * 6 + i))))), (5, .int (nI (n * 6 + i))), (4, .int (nI i)), (0, .ref 50), (1, .int (nI n)), (2, .int (nI x)), (3, .int (nI dp))]) (st' := [.int (nI (n * 6 + i)), .ref 38, .int (nI x), .ref 16, .int (nI (w 39 (n * 6 + i))), .ref 50]) (S' := stt (nw u) τ) (kc' := 0) (ks' := 0) rfl ⟨trivial, rfl, trivial, trivial, rfl, rfl, trivial, trivial⟩ ?_
      refine R_iald ca_27_81 (j := n * 6 + i) rfl rfl (by omega) ?_
      show RU_27 (d + 2 * k + 2) (0, 0) Post 82 ([(7, .int (nI j)), (6, .int (nI (lcw w x (w 38 (n * 6 + i))))), (5, .int (nI (n * 6 + i))), (4, .int (nI i)), (0, .ref 50), (1, .int (nI n)), (2, .int (nI x)), (3, .int (nI dp))]) ([.int (nI (u 38 (n * 6 + i))), .int (nI x), .ref 16, .int (nI (w 39 (n * 6 + i))), .ref 50]) (stt (nw u) τ) 0 0
      rw [e38]
      refine R_seg sg_27_82 sk_27_82 (pc' := 84) (lv' := [(7, .int (nI j)), (6, .int (nI (lcw w x (w 38 (n * 6 + i))))), (5, .int (nI (n * 6 + i))), (4, .int (nI i)), (0, .ref 50), (1, .int (nI n)), (2, .int (nI x)), (3, .int (nI dp))]) (st' := [.int (nI j), .int (nI (w 38 (n * 6 + i))), .int (nI x), .ref 16, .int (nI (w 39 (n * 6 + i))), .ref 50]) (S' := stt (nw u) τ) (kc' := 0) (ks' := 0) rfl ⟨trivial, trivial⟩ ?_
      refine R_virt ck_27_84 16 [.int (nI x), .int (nI (w 38 (n * 6 + i))), .int (nI j)] 0 0 (r := [.int (nI (w 39 (n * 6 + i))), .ref 50]) rfl rfl rfl (Nat.le_of_ble_eq_true rfl) (Nat.le_refl _) (Nat.le_refl _) ?_
      refine c_41 (d := d + 2 * k) (hS.fr hfr.1) hx h38 (by rw [lcw_fr hfr.1]; exact c_53) ?_
      rw [lkw_fr hfr.1]
      show RU_27 (d + 2 * k + 2) (0, 0) Post 87 ([(7, .int (nI j)), (6, .int (nI (lcw w x (w 38 (n * 6 + i))))), (5, .int (nI (n * 6 + i))), (4, .int (nI i)), (0, .ref 50), (1, .int (nI n)), (2, .int (nI x)), (3, .int (nI dp))]) ([.int (nI (lkw w x (w 38 (n * 6 + i)) j)), .int (nI (w 39 (n * 6 + i))), .ref 50]) (stt (nw u) τ) 0 0
      refine R_seg sg_27_87 sk_27_87 (pc' := 90) (lv' := [(7, .int (nI j)), (6, .int (nI (lcw w x (w 38 (n * 6 + i))))), (5, .int (nI (n * 6 + i))), (4, .int (nI i)), (0, .ref 50), (1, .int (nI n)), (2, .int (nI x)), (3, .int (nI dp))]) (st' := [.int ((nI dp) + 1), .int (nI (lkw w x (w 38 (n * 6 + i)) j)), .int (nI (w 39 (n * 6 + i))), .ref 50]) (S' := stt (nw u) τ) (kc' := 0) (ks' := 0) rfl ⟨trivial, trivial, trivial, trivial⟩ ?_
      rw [nI_1 dp]
      refine R_virt ck_27_90 50 [.int (nI (w 39 (n * 6 + i))), .int (nI (lkw w x (w 38 (n * 6 + i)) j)), .int (nI (dp + 1))] 0 0 (r := []) rfl rfl rfl (Nat.le_of_ble_eq_true rfl) (Nat.le_refl _) (Nat.le_refl _) ?_
      refine hN _ _ (dp + 1) u τ _ (hS.fr hfr.1) (hT.fr hfr.1) (hK.fr hfr.1) hni ((ho.child hS hT hi c_53).fr hfr.1) (by omega) ?_
      show RU_27 (d + 2 * k + 2) (0, 0) Post 93 ([(7, .int (nI j)), (6, .int (nI (lcw w x (w 38 (n * 6 + i))))), (5, .int (nI (n * 6 + i))), (4, .int (nI i)), (0, .ref 50), (1, .int (nI n)), (2, .int (nI x)), (3, .int (nI dp))]) ([]) (stt (nw (need k (w 39 (n * 6 + i)) (lkw w x (w 38 (n * 6 + i)) j) u)) τ) 0 0
      refine R_seg sg_27_93 sk_27_93 (pc' := 96) (lv' := [(7, .int ((nI j) + 1)), (6, .int (nI (lcw w x (w 38 (n * 6 + i))))), (5, .int (nI (n * 6 + i))), (4, .int (nI i)), (0, .ref 50), (1, .int (nI n)), (2, .int (nI x)), (3, .int (nI dp))]) (st' := []) (S' := stt (nw (need k (w 39 (n * 6 + i)) (lkw w x (w 38 (n * 6 + i)) j) u)) τ) (kc' := 0) (ks' := 0) rfl ⟨(by decide), trivial⟩ ?_
      refine R_goto ck_27_96 ?_
      refine Runs.lv (lv := [(7, .int ((nI j) + 1)), (6, .int (nI (lcw w x (w 38 (n * 6 + i))))), (5, .int (nI (n * 6 + i))), (4, .int (nI i)), (0, .ref 50), (1, .int (nI n)), (2, .int (nI x)), (3, .int (nI dp))]) ?_ _ (lvS_l (show ([7, 6, 5, 4, 0, 1, 2, 3] : List Nat).Nodup from by decide) (by intro q hq; simp only [List.mem_cons, List.not_mem_nil, or_false] at hq; rcases hq with rfl | rfl | rfl | rfl | rfl | rfl | rfl | rfl <;> rfl))
      rw [nI_1 j]
      exact ih (j + 1) _ (by omega) (by rw [itr_s, ← hu]) (by omega)
set_option maxRecDepth 20000 in
theorem l_27 {d k n x dp : Nat} {w : WW} {τ : Nat → Nat → Int64} {Post : Option Value → Sto → Prop} (hN : NeedS d k) (hS : SO w) (hT : TO w) (hK : KO w) (ho : OKn w (k + 1) n x) (hdp : dp + k = 5) (hn0 : NI w) (hp : Post none (stt (nw (fol k n x w w)) τ)) : ∀ (nn : Nat) (i : Nat) (u : WW), i ≤ w 37 n → u = itr (folS k n x w) i w → w 37 n - i < nn → RU_27 (d + 2 * k + 2) (0, 0) Post 3 [(4, .int (nI i)), (0, .ref 50), (1, .int (nI n)), (2, .int (nI x)), (3, .int (nI dp))] [] (stt (nw u) τ) 0 0 := by
  intro nn
  induction nn with
  | zero => intro i u hi hu hms; exact absurd hms (by omega)
  | succ nn ih =>
    intro i u hi hu hms
    have hx := ho.2.1
    have ht := hT.2 n ho.1
    have hT1 := hT.1
    have ht1 := ht.1
    have hn1 := ho.1
    have hq : NI u ∧ FRN w u := by
      rw [hu]
      refine itr_ind (fun _ v => NI v ∧ FRN w v) ⟨hn0, FRN.rf w⟩ i (fun i2 b hi2 hb => ?_)
      exact itr_ind (fun _ v => NI v ∧ FRN w v) hb _ (fun j2 b hj2 hb => ⟨need_ni k _ _ b (hS.fr hb.2.1) (hT.fr hb.2.1) hb.1 ((ho.child hS hT (by omega) hj2).fr hb.2.1), hb.2.tr (need_fr k _ _ b)⟩)
    obtain ⟨hni, hfr⟩ := hq
    have e37 : u 37 = w 37 := hfr.1 37 (by decide)
    have e38 : u 38 = w 38 := hfr.1 38 (by decide)
    refine R_seg sg_27_3 sk_27_3 (pc' := 13) (lv' := [(4, .int (nI i)), (0, .ref 50), (1, .int (nI n)), (2, .int (nI x)), (3, .int (nI dp))]) (st' := [.int (nI n), .ref 37, .int (nI i)]) (S' := stt (nw u) τ) (kc' := 0) (ks' := 0) rfl ⟨trivial, trivial, rfl, rfl, trivial, trivial⟩ ?_
    refine R_iald ca_27_13 (j := n) rfl rfl (by omega) ?_
    show RU_27 (d + 2 * k + 2) (0, 0) Post 14 ([(4, .int (nI i)), (0, .ref 50), (1, .int (nI n)), (2, .int (nI x)), (3, .int (nI dp))]) ([.int (nI (u 37 n)), .int (nI i)]) (stt (nw u) τ) 0 0
    rw [e37]
    refine R_icmp ck_27_14 (fun (c_14 : (nI (w 37 n)) ≤ (nI i)) => ?_) (fun (c_14 : ¬ (nI (w 37 n)) ≤ (nI i)) => ?_)
    · have c_14 : (w 37 n) ≤ i := (nI_leI (a := (w 37 n)) (b := i) (by omega) (by omega)).mp c_14
      refine R_ret ck_27_105 rfl ?_
      have ej : i = w 37 n := by omega
      subst ej
      subst hu
      exact hp
    · have c_14 : i < (w 37 n) := Nat.not_le.mp (fun zq => c_14 ((nI_leI (a := (w 37 n)) (b := i) (by omega) (by omega)).mpr zq))
      refine R_seg [(.iload_n 1, 1, 0, 0, 0, 0), (.bipush 6, 2, 0, 0, 0, 6), (.imul, 1, 0, 0, 0, 0), (.iload 4, 2, 0, 0, 0, 0), (.iadd, 1, 0, 0, 0, 0)] (by decide +kernel) (pc' := 24) (lv' := [(4, .int (nI i)), (0, .ref 50), (1, .int (nI n)), (2, .int (nI x)), (3, .int (nI dp))]) (st' := [.int (((nI n) * 6) + (nI i))]) (S' := stt (nw u) τ) (kc' := 0) (ks' := 0) rfl ⟨trivial, trivial, trivial, trivial, trivial, trivial⟩ ?_
      rw [show nI n * 6 + nI i = nI (n * 6 + i) from by simp only [nl_0, nl_1, nl_2, nl_3, nl_4, nl_5, nl_6, nl_8, nl_20, nl_31, nl_32, pk_mul, nI_add]]
      skip
      refine R_seg [(.istore 5, 2, 0, 0, 0, 0), (.aload_n 0, 1, 0, 0, 0, 0), (.getfield 32, 3, 5, 4, 2, 0), (.iload_n 2, 1, 0, 0, 0, 0), (.aload_n 0, 1, 0, 0, 0, 0), (.getfield 36, 3, 5, 5, 2, 0), (.getfield 110, 3, 9, 5, 2, 0), (.iload 5, 2, 0, 0, 0, 0)] (by decide +kernel) (pc' := 40) (lv' := [(5, .int (nI (n * 6 + i))), (4, .int (nI i)), (0, .ref 50), (1, .int (nI n)), (2, .int (nI x)), (3, .int (nI dp))]) (st' := [.int (nI (n * 6 + i)), .ref 38, .int (nI x), .ref 16]) (S' := stt (nw u) τ) (kc' := 0) (ks' := 0) rfl ⟨(by decide), trivial, rfl, trivial, trivial, rfl, rfl, trivial, trivial⟩ ?_
      refine R_iald ca_27_40 (j := n * 6 + i) rfl rfl (by omega) ?_
      show RU_27 (d + 2 * k + 2) (0, 0) Post 41 ([(5, .int (nI (n * 6 + i))), (4, .int (nI i)), (0, .ref 50), (1, .int (nI n)), (2, .int (nI x)), (3, .int (nI dp))]) ([.int (nI (u 38 (n * 6 + i))), .int (nI x), .ref 16]) (stt (nw u) τ) 0 0
      rw [e38]
      refine R_virt ck_27_41 16 [.int (nI x), .int (nI (w 38 (n * 6 + i)))] 0 0 (r := []) rfl rfl rfl (Nat.le_of_ble_eq_true rfl) (Nat.le_refl _) (Nat.le_refl _) ?_
      refine c_39 (d := d + 2 * k) (hS.fr hfr.1) hx (hT.2 n ho.1 |>.2 i c_14).1 ?_
      rw [lcw_fr hfr.1]
      show RU_27 (d + 2 * k + 2) (0, 0) Post 44 ([(5, .int (nI (n * 6 + i))), (4, .int (nI i)), (0, .ref 50), (1, .int (nI n)), (2, .int (nI x)), (3, .int (nI dp))]) ([.int (nI (lcw w x (w 38 (n * 6 + i))))]) (stt (nw u) τ) 0 0
      refine R_seg sg_27_44 sk_27_44 (pc' := 49) (lv' := [(7, .int 0), (6, .int (nI (lcw w x (w 38 (n * 6 + i))))), (5, .int (nI (n * 6 + i))), (4, .int (nI i)), (0, .ref 50), (1, .int (nI n)), (2, .int (nI x)), (3, .int (nI dp))]) (st' := []) (S' := stt (nw u) τ) (kc' := 0) (ks' := 0) rfl ⟨(by decide), trivial, (by decide), trivial⟩ ?_
      refine Runs.lv (lv := [(7, .int 0), (6, .int (nI (lcw w x (w 38 (n * 6 + i))))), (5, .int (nI (n * 6 + i))), (4, .int (nI i)), (0, .ref 50), (1, .int (nI n)), (2, .int (nI x)), (3, .int (nI dp))]) ?_ _ (lvS_l (show ([7, 6, 5, 4, 0, 1, 2, 3] : List Nat).Nodup from by decide) (by intro q hq; simp only [List.mem_cons, List.not_mem_nil, or_false] at hq; rcases hq with rfl | rfl | rfl | rfl | rfl | rfl | rfl | rfl <;> rfl))
      rw [← nI_0]
      refine l_27i hN hS hT hK ho hdp c_14 hni hfr ?_ (lcw w x (w 38 (n * 6 + i)) + 1) 0 u (Nat.zero_le _) rfl (by omega)
      refine R_seg sg_27_99 sk_27_99 (pc' := 102) (lv' := [(4, .int ((nI i) + 1)), (7, .int (nI (lcw w x (w 38 (n * 6 + i))))), (6, .int (nI (lcw w x (w 38 (n * 6 + i))))), (5, .int (nI (n * 6 + i))), (0, .ref 50), (1, .int (nI n)), (2, .int (nI x)), (3, .int (nI dp))]) (st' := []) (S' := stt (nw (folS k n x w i u)) τ) (kc' := 0) (ks' := 0) rfl ⟨(by decide), trivial⟩ ?_
      refine R_goto ck_27_102 ?_
      refine Runs.lv (lv := [(4, .int ((nI i) + 1)), (0, .ref 50), (1, .int (nI n)), (2, .int (nI x)), (3, .int (nI dp))]) ?_ _ (lvS_l (show ([4, 0, 1, 2, 3] : List Nat).Nodup from by decide) (by intro q hq; simp only [List.mem_cons, List.not_mem_nil, or_false] at hq; rcases hq with rfl | rfl | rfl | rfl | rfl <;> rfl))
      rw [nI_1 i]
      exact ih (i + 1) _ (by omega) (by rw [itr_s, ← hu]) (by omega)
set_option maxRecDepth 20000 in
theorem c_27 {d k : Nat} (hN : NeedS d k) : FolS d k := by
  intro n x dp w τ Post hS hT hK hn0 ho hdp hp
  refine en_27 (Nat.le_of_ble_eq_true rfl) ?_
  show RU_27 (d + 2 * k + 2) (0, 0) Post 0 ([(0, .ref 50), (1, .int (nI n)), (2, .int (nI x)), (3, .int (nI dp))]) ([]) (stt (nw w) τ) 0 0
  refine R_seg sg_27_0 sk_27_0 (pc' := 3) (lv' := [(4, .int 0), (0, .ref 50), (1, .int (nI n)), (2, .int (nI x)), (3, .int (nI dp))]) (st' := []) (S' := stt (nw w) τ) (kc' := 0) (ks' := 0) rfl ⟨trivial, (by decide), trivial⟩ ?_
  rw [← nI_0]
  exact l_27 hN hS hT hK ho hdp hn0 hp (w 37 n + 1) 0 w (Nat.zero_le _) rfl (by omega)
theorem c_need (d : Nat) : ∀ k, NeedS d k
  | 0 => by
    intro n x dp w τ Post hS hT hK hN ho hdp hp
    have h1 := (hT.2 n ho.1).1
    have h2 := ho.2.2.2
    omega
  | k + 1 => c_25 (c_27 (c_need d k))
theorem c_fol (d k : Nat) : FolS d k := c_27 (c_need d k)
