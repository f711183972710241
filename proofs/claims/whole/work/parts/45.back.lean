/-! ===== what comes back ===== -/
theorem fol_q {w : WW} (M : MI w) {k n x : Nat} (ho : OKn w (k + 1) n x) : (NI (fol k n x w w) ∧ NB (fol k n x w w)) ∧ FRN w (fol k n x w w) := by
  obtain ⟨h1, h2, h3, h4, h5, h6, h7, h8, h9⟩ := M
  unfold fol
  refine itr_ind (fun _ v => (NI v ∧ NB v) ∧ FRN w v) ⟨⟨h4, h9⟩, FRN.rf w⟩ _ (fun i b hi hb => ?_)
  unfold folS
  refine itr_ind (fun _ v => (NI v ∧ NB v) ∧ FRN w v) hb _ (fun j b hj hb => ⟨⟨?_, ?_⟩, hb.2.tr (need_fr k _ _ b)⟩)
  · exact need_ni k _ _ b (h1.fr hb.2.1) (h2.fr hb.2.1) hb.1.1 ((ho.child h1 h2 hi hj).fr hb.2.1)
  · exact need_nb k _ _ b (h1.fr hb.2.1) (h2.fr hb.2.1) hb.1.2 ((ho.child h1 h2 hi hj).fr hb.2.1)
theorem fol_mi {w : WW} (M : MI w) {k n x : Nat} (ho : OKn w (k + 1) n x) : MI (fol k n x w w) ∧ FRN w (fol k n x w w) := by
  have q := fol_q M ho
  exact ⟨M.need q.1.1 q.1.2 q.2.1, q.2⟩
theorem need_mi {w : WW} (M : MI w) {k n x : Nat} (ho : OKn w k n x) : MI (need k n x w) ∧ FRN w (need k n x w) := by
  obtain ⟨h1, h2, h3, h4, h5, h6, h7, h8, h9⟩ := id M
  exact ⟨M.need (need_ni k n x w h1 h2 h4 ho) (need_nb k n x w h1 h2 h9 ho) (need_fr k n x w).1, need_fr k n x w⟩
def kpw (x : Nat) (u : WW) : WW := if 0 < u 19 (x / 32) then up2 u 25 x (u 1 4 + u 19 (x / 32)) else u
def aKeep (x : Nat) (w : WW) : WW := kpw x (up2 w 51 x 10)
theorem kpw_k (x : Nat) (u : WW) {k : Nat} (hk : k ≠ 25) : kpw x u k = u k := by
  unfold kpw
  split
  · exact up2_k _ _ _ _ hk
  · rfl
theorem c_42 {d : Nat} {w : WW} {τ : Nat → Nat → Int64} {x : Nat} (hS : SO w) (hx : x < 192) {Post : Option Value → Sto → Prop} (hp : Post none (stt (nw (kpw x w)) τ)) : Ex (d + 1) 42 [.ref 16, .int (nI x), .int (nI (w 1 4))] (stt (nw w) τ) 0 0 Post := by
  unfold kpw at hp
  refine x_42 (σ := nw w) (lf := w 19 (x / 32)) hx rfl (hS.1 (x / 32) (by omega)).2 (fun c => ?_) (fun c => ?_)
  · rw [if_neg (by omega)] at hp
    exact hp
  · rw [if_pos c] at hp
    rw [nw_up (n := w 1 4 + w 19 (x / 32)) (nI_add _ _)]
    exact hp
theorem aKeep_mi {w : WW} (M : MI w) {x : Nat} (hx : x < 192) (h0 : w 51 x ≠ 0) (h11 : w 51 x ≠ 11) : MI (aKeep x w) := by
  obtain ⟨h1, h2, h3, h4, h5, h6, h7, h8, h9⟩ := M
  have n1 := h4.fate (v := 10) hx h11 (by decide) (by decide) (by decide)
  unfold aKeep kpw
  split
  · rename_i hl
    have hl : 0 < w 19 (x / 32) := hl
    obtain ⟨a1, a2, a3, a4, a5, a6, a7, a8, a9⟩ := n1
    refine ⟨h1, h2, ⟨h3.1, ?_⟩, ⟨a1, a2, a3, a4, ?_, a6, a7, a8, a9.1, ?_⟩, h5.fr (fun k hk => by rw [up2_k _ _ _ _ (by omega), up2_k _ _ _ _ (by omega)]), h6, h7.fr (fun k hk => by rw [up2_k _ _ _ _ (by omega), up2_k _ _ _ _ (by omega)]), h8, h9⟩
    · intro y hy
      show va_up (w 25) x (w 1 4 + w 19 (x / 32)) y ≤ 100999
      have := (h1.1 (x / 32) (by omega)).2
      have := h3.1
      unfold va_up
      split
      · omega
      · exact h3.2 y hy
    · intro y hy hf
      refine ⟨(a5 y hy hf).1, ?_⟩
      show va_up (w 25) x (w 1 4 + w 19 (x / 32)) y ≤ w 1 4
      rw [va_up_ne]
      · exact (a5 y hy hf).2
      · intro e
        subst e
        have hf : va_up (w 51) y 10 y = 11 := hf
        rw [va_up_self] at hf
        omega
    · intro c hc
      refine ⟨(a9.2 c hc).1, fun i hi => ?_⟩
      obtain ⟨b1, b2, b3, b4⟩ := (a9.2 c hc).2 i hi
      refine ⟨b1, b2, b3, fun hz => ?_⟩
      have hz : w 19 (w 44 c) = 0 := hz
      show va_up (w 25) x (w 1 4 + w 19 (x / 32)) (w 44 c * 32 + w 49 (w 48 c + i)) ≤ w 1 4
      rw [va_up_ne]
      · exact b4 hz
      · intro e
        have b1 : w 49 (w 48 c + i) < 32 := b1
        have : x / 32 = w 44 c := by omega
        rw [this] at hl
        omega
  · exact ⟨h1, h2, h3, n1, h5.fr (fun k hk => up2_k _ _ _ _ (by omega)), h6, h7.fr (fun k hk => up2_k _ _ _ _ (by omega)), h8, h9⟩
def lrnS (x : Nat) (w : WW) (n : Nat) (u : WW) : WW := if (w 52 x).testBit n = true then fol (5 - w 36 n) n x u u else u
def aLearn (x : Nat) (w : WW) : WW := itr (lrnS x w) (w 32 7) (aKeep x w)
/-- all below 50 but what is kept -/
def FRG (w v : WW) : Prop := (∀ k, k < 50 → k ≠ 25 → v k = w k) ∧ (∀ k, 54 < k → v k = w k) ∧ ∀ i, i ≠ 1 → v 50 i = w 50 i
theorem FRG.rf (w : WW) : FRG w w := ⟨fun _ _ _ => rfl, fun _ _ => rfl, fun _ _ => rfl⟩
theorem FRG.tr {u v w : WW} (h : FRG u v) (h2 : FRG v w) : FRG u w := ⟨fun k hk hk2 => (h2.1 k hk hk2).trans (h.1 k hk hk2), fun k hk => (h2.2.1 k hk).trans (h.2.1 k hk), fun i hi => (h2.2.2 i hi).trans (h.2.2 i hi)⟩
theorem FRN.g {w v : WW} (h : FRN w v) : FRG w v := ⟨fun k hk _ => h.1 k hk, h.2.1, h.2.2⟩
theorem aKeep_fr (x : Nat) (w : WW) : FRG w (aKeep x w) := by
  unfold aKeep
  refine ⟨fun k hk h2 => ?_, fun k hk => ?_, fun i hi => ?_⟩
  · rw [kpw_k _ _ h2, up2_k _ _ _ _ (by omega)]
  · rw [kpw_k _ _ (by omega), up2_k _ _ _ _ (by omega)]
  · rw [kpw_k _ _ (by decide), up2_k _ _ _ _ (by decide)]
theorem lrn_ok {w : WW} {x n : Nat} (M : MI w) (hx : x < 192) (hb : (w 52 x).testBit n = true) : n < w 32 7 ∧ x / 32 = w 33 n ∧ 1 ≤ w 36 n ∧ w 36 n ≤ 5 := by
  have h := M.2.2.2.2.2.2.2.2 x hx n hb
  have t := (M.2.1.2 n h.1).1
  exact ⟨h.1, h.2, t.1, t.2.1⟩
theorem lrn_itr {w : WW} (M : MI w) {x : Nat} (hx : x < 192) (h0 : w 51 x ≠ 0) (h11 : w 51 x ≠ 11) (n : Nat) : MI (itr (lrnS x w) n (aKeep x w)) ∧ FRG w (itr (lrnS x w) n (aKeep x w)) := by
  refine itr_ind (fun _ v => MI v ∧ FRG w v) ⟨aKeep_mi M hx h0 h11, aKeep_fr x w⟩ n (fun i b hi hb => ?_)
  unfold lrnS
  split
  · rename_i hbit
    have o := lrn_ok M hx hbit
    have e := hb.2.1
    have ho : OKn b (5 - w 36 i + 1) i x := by
      unfold OKn
      rw [e 32 (by decide) (by decide), e 33 (by decide) (by decide), e 36 (by decide) (by decide)]
      exact ⟨o.1, hx, o.2.1, by omega⟩
    have q := fol_mi hb.1 ho
    exact ⟨q.1, hb.2.tr q.2.g⟩
  · exact hb
theorem aLearn_mi {w : WW} (M : MI w) {x : Nat} (hx : x < 192) (h0 : w 51 x ≠ 0) (h11 : w 51 x ≠ 11) : MI (aLearn x w) ∧ FRG w (aLearn x w) := lrn_itr M hx h0 h11 _
set_option maxRecDepth 20000 in
theorem l_35 {d x : Nat} {w : WW} {τ : Nat → Nat → Int64} {Post : Option Value → Sto → Prop} (M : MI w) (hx : x < 192) (h0 : w 51 x ≠ 0) (h11 : w 51 x ≠ 11) (hp : Post none (stt (nw (aLearn x w)) τ)) : ∀ (nn : Nat) (n : Nat) (u : WW), n ≤ w 32 7 → u = itr (lrnS x w) n (aKeep x w) → w 32 7 - n < nn → RU_35 (d + 11) (0, 0) Post 32 [(3, .int (nI n)), (2, .int (nI (w 52 x))), (0, .ref 50), (1, .int (nI x))] [] (stt (nw u) τ) 0 0 := by
  intro nn
  induction nn with
  | zero => intro n u hn hu hms; exact absurd hms (by omega)
  | succ nn ih =>
    intro n u hn hu hms
    have q := lrn_itr M hx h0 h11 n
    rw [← hu] at q
    obtain ⟨Mu, hfr⟩ := q
    have e32 := hfr.1 32 (by decide) (by decide)
    have e33 := hfr.1 33 (by decide) (by decide)
    have e36 := hfr.1 36 (by decide) (by decide)
    have hT1 := M.2.1.1
    have hb20 := M.2.2.2.1.2.2.2.2.2.1 x hx
    refine R_seg sg_35_32 sk_35_32 (pc' := 40) (lv' := [(3, .int (nI n)), (2, .int (nI (w 52 x))), (0, .ref 50), (1, .int (nI x))]) (st' := [.int (nI (u 32 7)), .int (nI n)]) (S' := stt (nw u) τ) (kc' := 0) (ks' := 0) rfl ⟨trivial, trivial, rfl, rfl, trivial⟩ ?_
    rw [e32]
    refine R_icmp ck_35_40 (fun (c_40 : (nI (w 32 7)) ≤ (nI n)) => ?_) (fun (c_40 : ¬ (nI (w 32 7)) ≤ (nI n)) => ?_)
    · have c_40 : (w 32 7) ≤ n := (nI_leI (a := (w 32 7)) (b := n) (by omega) (by omega)).mp c_40
      refine R_ret ck_35_72 rfl ?_
      have en : n = w 32 7 := by omega
      subst en
      subst hu
      exact hp
    · have c_40 : n < (w 32 7) := Nat.not_le.mp (fun zq => c_40 ((nI_leI (a := (w 32 7)) (b := n) (by omega) (by omega)).mpr zq))
      refine R_seg sg_35_43 sk_35_43 (pc' := 48) (lv' := [(3, .int (nI n)), (2, .int (nI (w 52 x))), (0, .ref 50), (1, .int (nI x))]) (st' := [.int (((nI (w 52 x)) >>> ((nI n) &&& 31)) &&& 1)]) (S' := stt (nw u) τ) (kc' := 0) (ks' := 0) rfl ⟨trivial, trivial, trivial, trivial, trivial, trivial⟩ ?_
      refine R_if ck_35_48 (fun (c_48 : (((nI (w 52 x)) >>> ((nI n) &&& 31)) &&& 1) = 0) => ?_) (fun (c_48 : ¬ (((nI (w 52 x)) >>> ((nI n) &&& 31)) &&& 1) = 0) => ?_)
      · have hbit : ¬ (w 52 x).testBit n = true := by rw [(bit_shr hb20 (by omega)).mp c_48]; exact Bool.false_ne_true
        refine R_seg sg_35_66 sk_35_66 (pc' := 69) (lv' := [(3, .int ((nI n) + 1)), (2, .int (nI (w 52 x))), (0, .ref 50), (1, .int (nI x))]) (st' := []) (S' := stt (nw u) τ) (kc' := 0) (ks' := 0) rfl ⟨(by decide), trivial⟩ ?_
        refine R_goto ck_35_69 ?_
        refine Runs.lv (lv := [(3, .int ((nI n) + 1)), (2, .int (nI (w 52 x))), (0, .ref 50), (1, .int (nI x))]) ?_ _ (lvS_l (show ([3, 2, 0, 1] : List Nat).Nodup from by decide) (by intro q hq; simp only [List.mem_cons, List.not_mem_nil, or_false] at hq; rcases hq with rfl | rfl | rfl | rfl <;> rfl))
        rw [nI_1 n]
        exact ih (n + 1) u (by omega) (by rw [itr_s, ← hu]; unfold lrnS; rw [if_neg hbit]) (by omega)
      · have hbit : (w 52 x).testBit n = true := by rcases Bool.eq_false_or_eq_true ((w 52 x).testBit n) with z | z; exact z; exact absurd ((bit_shr hb20 (by omega)).mpr z) c_48
        have o := lrn_ok M hx hbit
        have ho : OKn u (5 - w 36 n + 1) n x := by unfold OKn; rw [e32, e33, e36]; exact ⟨o.1, hx, o.2.1, by omega⟩
        refine R_seg sg_35_51 sk_35_51 (pc' := 62) (lv' := [(3, .int (nI n)), (2, .int (nI (w 52 x))), (0, .ref 50), (1, .int (nI x))]) (st' := [.int (nI n), .ref 36, .int (nI x), .int (nI n), .ref 50]) (S' := stt (nw u) τ) (kc' := 0) (ks' := 0) rfl ⟨trivial, trivial, trivial, trivial, rfl, rfl, trivial, trivial⟩ ?_
        refine R_iald ca_35_62 (j := n) rfl rfl (by omega) ?_
        show RU_35 (d + 11) (0, 0) Post 63 ([(3, .int (nI n)), (2, .int (nI (w 52 x))), (0, .ref 50), (1, .int (nI x))]) ([.int (nI (u 36 n)), .int (nI x), .int (nI n), .ref 50]) (stt (nw u) τ) 0 0
        rw [e36]
        refine R_virt ck_35_63 50 [.int (nI n), .int (nI x), .int (nI (w 36 n))] 0 0 (r := []) rfl rfl rfl (Nat.le_of_ble_eq_true rfl) (Nat.le_refl _) (Nat.le_refl _) ?_
        have hF := c_fol (d + 2 * (4 - (5 - w 36 n))) (5 - w 36 n) n x (w 36 n) u τ
        rw [show d + 2 * (4 - (5 - w 36 n)) + 2 * (5 - w 36 n) + 3 = d + 11 by omega] at hF
        refine hF _ Mu.1 Mu.2.1 Mu.2.2.1 Mu.2.2.2.1 ho (by omega) ?_
        show RU_35 (d + 11) (0, 0) Post 66 ([(3, .int (nI n)), (2, .int (nI (w 52 x))), (0, .ref 50), (1, .int (nI x))]) ([]) (stt (nw (fol (5 - w 36 n) n x u u)) τ) 0 0
        refine R_seg sg_35_66 sk_35_66 (pc' := 69) (lv' := [(3, .int ((nI n) + 1)), (2, .int (nI (w 52 x))), (0, .ref 50), (1, .int (nI x))]) (st' := []) (S' := stt (nw (fol (5 - w 36 n) n x u u)) τ) (kc' := 0) (ks' := 0) rfl ⟨(by decide), trivial⟩ ?_
        refine R_goto ck_35_69 ?_
        refine Runs.lv (lv := [(3, .int ((nI n) + 1)), (2, .int (nI (w 52 x))), (0, .ref 50), (1, .int (nI x))]) ?_ _ (lvS_l (show ([3, 2, 0, 1] : List Nat).Nodup from by decide) (by intro q hq; simp only [List.mem_cons, List.not_mem_nil, or_false] at hq; rcases hq with rfl | rfl | rfl | rfl <;> rfl))
        rw [nI_1 n]
        exact ih (n + 1) _ (by omega) (by rw [itr_s, ← hu]; unfold lrnS; rw [if_pos hbit]) (by omega)
set_option maxRecDepth 20000 in
theorem c_35 {d : Nat} {w : WW} {τ : Nat → Nat → Int64} {x : Nat} {Post : Option Value → Sto → Prop} (M : MI w) (hx : x < 192) (h0 : w 51 x ≠ 0) (h11 : w 51 x ≠ 11) (hp : Post none (stt (nw (aLearn x w)) τ)) : Ex (d + 12) 35 [.ref 50, .int (nI x)] (stt (nw w) τ) 0 0 Post := by
  refine en_35 (Nat.le_of_ble_eq_true rfl) ?_
  show RU_35 (d + 11) (0, 0) Post 0 ([(0, .ref 50), (1, .int (nI x))]) ([]) (stt (nw w) τ) 0 0
  refine R_seg sg_35_0 sk_35_0 (pc' := 7) (lv' := [(0, .ref 50), (1, .int (nI x))]) (st' := [.int 10, .int (nI x), .ref 51]) (S' := stt (nw w) τ) (kc' := 0) (ks' := 0) rfl ⟨trivial, rfl, trivial, trivial, trivial⟩ ?_
  refine R_iast ca_35_7 (j := x) rfl rfl (by omega) ?_
  show RU_35 (d + 11) (0, 0) Post 8 ([(0, .ref 50), (1, .int (nI x))]) ([]) (stt (up2 (nw w) 51 x 10) τ) 0 0
  rw [nw_up (w := w) (k := 51) (i := x) (v := 10) (n := 10) rfl]
  refine R_seg sg_35_8 sk_35_8 (pc' := 20) (lv' := [(0, .ref 50), (1, .int (nI x))]) (st' := [.int (nI (w 1 4)), .int (nI x), .ref 16]) (S' := stt (nw (up2 w 51 x 10)) τ) (kc' := 0) (ks' := 0) rfl ⟨trivial, rfl, trivial, trivial, rfl, rfl, trivial⟩ ?_
  refine R_virt ck_35_20 16 [.int (nI x), .int (nI (w 1 4))] 0 0 (r := []) rfl rfl rfl (Nat.le_of_ble_eq_true rfl) (Nat.le_refl _) (Nat.le_refl _) ?_
  refine c_42 (d := d + 10) (w := up2 w 51 x 10) M.1 hx ?_
  show RU_35 (d + 11) (0, 0) Post 23 ([(0, .ref 50), (1, .int (nI x))]) ([]) (stt (nw (aKeep x w)) τ) 0 0
  refine R_seg sg_35_23 sk_35_23 (pc' := 28) (lv' := [(0, .ref 50), (1, .int (nI x))]) (st' := [.int (nI x), .ref 52]) (S' := stt (nw (aKeep x w)) τ) (kc' := 0) (ks' := 0) rfl ⟨trivial, rfl, trivial, trivial⟩ ?_
  refine R_iald ca_35_28 (j := x) rfl rfl (by omega) ?_
  show RU_35 (d + 11) (0, 0) Post 29 ([(0, .ref 50), (1, .int (nI x))]) ([.int (nI ((aKeep x w) 52 x))]) (stt (nw (aKeep x w)) τ) 0 0
  rw [show aKeep x w 52 x = w 52 x from by unfold aKeep; rw [kpw_k _ _ (by decide)]; rfl]
  refine R_seg sg_35_29 sk_35_29 (pc' := 32) (lv' := [(3, .int 0), (2, .int (nI (w 52 x))), (0, .ref 50), (1, .int (nI x))]) (st' := []) (S' := stt (nw (aKeep x w)) τ) (kc' := 0) (ks' := 0) rfl ⟨(by decide), trivial, (by decide), trivial⟩ ?_
  rw [← nI_0]
  exact l_35 M hx h0 h11 hp (w 32 7 + 1) 0 _ (Nat.zero_le _) rfl (by omega)
/-! ===== takeBack ===== -/
def dn (w : WW) (h t : Nat) : Prop := ∃ j, j < w 6 1 ∧ w 8 j = h ∧ w 9 j ≤ t ∧ t ≤ w 10 j
noncomputable def bdn (w : WW) (h t : Nat) : Nat := @ite Nat (dn w h t) (Classical.propDecidable _) 1 0
theorem bdn_1 {w : WW} {h t : Nat} (e : dn w h t) : bdn w h t = 1 := if_pos e
theorem bdn_0 {w : WW} {h t : Nat} (e : ¬ dn w h t) : bdn w h t = 0 := if_neg e
theorem cDn_iff {w : WW} (hP : SP w) {h t j : Nat} (hh : h < 5) (ht : t ≤ 100000) (hj : j < w 6 1) : cDn (nw w) (nI h) (nI t) j ↔ (w 8 j = h ∧ w 9 j ≤ t ∧ t ≤ w 10 j) := by
  have := hP.2 j hj
  unfold cDn nw
  rw [nI_eq (by omega) (by omega), nI_ltI (by omega) (by omega), nI_ltI (by omega) (by omega), Nat.not_lt, Nat.not_lt]
theorem c_15 {d : Nat} {w : WW} {τ : Nat → Nat → Int64} {h t : Nat} (hP : SP w) (hh : h < 5) (ht : t ≤ 100000) {Post : Option Value → Sto → Prop} (h1 : bdn w h t = 1 → Post (some (.int 1)) (stt (nw w) τ)) (h0 : bdn w h t = 0 → Post (some (.int 0)) (stt (nw w) τ)) : Ex (d + 2) 15 [.ref 6, .int (nI h), .int (nI t)] (stt (nw w) τ) 0 0 Post := by
  refine x_15 (σ := nw w) (n := w 6 1) rfl hP.1 (fun j hj e => ?_) (fun e => ?_)
  · exact h1 (bdn_1 ⟨j, hj, (cDn_iff hP hh ht hj).mp e⟩)
  · exact h0 (bdn_0 (fun ⟨j, hj, z⟩ => e j hj ((cDn_iff hP hh ht hj).mpr z)))
def adv : Nat → Nat → WW → Nat
  | 0, f, _ => f
  | m + 1, f, u => if u 47 f = 3 then f else adv m (f + 1) u
theorem adv_ok : ∀ (m f : Nat) (u : WW), f ≤ adv m f u ∧ adv m f u ≤ f + m ∧ (∀ i, f ≤ i → i < adv m f u → u 47 i ≠ 3) ∧ (adv m f u < f + m → u 47 (adv m f u) = 3)
  | 0, f, u => ⟨Nat.le_refl _, Nat.le_refl _, fun i h1 h2 => absurd h1 (by show ¬ f ≤ i; have h2 : i < f := h2; omega), fun h => absurd (show f < f + 0 from h) (by omega)⟩
  | m + 1, f, u => by
    unfold adv
    split
    · exact ⟨Nat.le_refl _, by omega, fun i h1 h2 => absurd h1 (by omega), fun _ => by assumption⟩
    · obtain ⟨h1, h2, h3, h4⟩ := adv_ok m (f + 1) u
      refine ⟨by omega, by omega, fun i q1 q2 => ?_, fun q => h4 (by omega)⟩
      rcases Nat.lt_or_ge f i with z | z
      · exact h3 i z q2
      · rw [show i = f by omega]; assumption
def aFin (k v : Nat) (w : WW) : WW := up2 (up2 w 47 k v) 42 6 (adv (w 42 5 - w 42 6) (w 42 6) (up2 w 47 k v))
theorem c_4 {d : Nat} {w : WW} {τ : Nat → Nat → Int64} {k v : Nat} (hC : CO w) (hn : w 42 5 ≤ 192) (hk : k < w 42 5) (hv : v < 3) {Post : Option Value → Sto → Prop} (hp : Post none (stt (nw (aFin k v w)) τ)) : Ex (d + 1) 4 [.ref 42, .int (nI k), .int (nI v)] (stt (nw w) τ) 0 0 Post := by
  have a := adv_ok (w 42 5 - w 42 6) (w 42 6) (up2 w 47 k v)
  have h1 := hC.1
  have key : ∀ i, i < w 42 5 → ((up2 (nw w) 47 k (nI v)) 47 i = 3 ↔ (up2 w 47 k v) 47 i = 3) := by
    intro i hi
    have hb : (up2 w 47 k v) 47 i ≤ 3 := by
      show va_up (w 47) k v i ≤ 3
      unfold va_up
      split
      · omega
      · exact (hC.2.1 i hi).2.2
    rw [nw_up (n := v) rfl]
    show nI ((up2 w 47 k v) 47 i) = nI 3 ↔ _
    rw [nI_eq (by omega) (by omega)]
  refine x_4 (σ := nw w) (n := w 42 5) (f := w 42 6) (e := adv (w 42 5 - w 42 6) (w 42 6) (up2 w 47 k v)) (by omega) rfl hn rfl a.1 (by omega) (fun i i1 i2 => ?_) (fun h => ?_) ?_
  · rw [key i (by omega)]
    exact a.2.2.1 i i1 i2
  · rw [key _ h]
    exact a.2.2.2 (by omega)
  · rw [nw_up (n := v) rfl, nw_up (n := adv (w 42 5 - w 42 6) (w 42 6) (up2 w 47 k v)) rfl]
    exact hp
def aClose (h : Nat) (w : WW) : WW := up2 (up2 (up2 w (11 + h) 5 1) (11 + h) 6 0) (11 + h) 8 N1
def aOpen (h : Nat) (w : WW) : WW := up2 (up2 (up2 (up2 w (11 + h) 5 0) (11 + h) 6 0) (11 + h) 7 (w 1 4 + w (11 + h) 4)) (11 + h) 8 N1
def cwC (h k : Nat) (w : WW) : Prop := 0 < w (11 + h) 3 ∧ (w (11 + h) 5 ≠ 0 ∨ k = w (11 + h) 8)
noncomputable def aCame (h k b : Nat) (w : WW) : WW := @ite WW (cwC h k w) (Classical.propDecidable _) (if b = 0 then aClose h w else if w (11 + h) 5 = 0 ∨ ¬ w (11 + h) 6 + 1 < w (11 + h) 3 then aOpen h (up2 w (11 + h) 6 (w (11 + h) 6 + 1)) else up2 w (11 + h) 6 (w (11 + h) 6 + 1)) w
theorem nw_close (h : Nat) (w : WW) : h_close (nw w) (11 + h) = nw (aClose h w) := by
  unfold h_close aClose
  rw [nw_up (v := 1) (n := 1) rfl, nw_up (v := 0) (n := 0) rfl, nw_up (v := -1) (n := N1) rfl]
theorem nw_open {h : Nat} (hh : h < 5) (w : WW) : h_opn (nw w) (11 + h) (nI (w 1 4)) = nw (aOpen h w) := by
  unfold h_opn aOpen
  rw [up2_d _ _ _ _ (show 4 ≠ 6 by decide), up2_d _ _ _ _ (show 4 ≠ 5 by decide), nw_up (v := 0) (n := 0) rfl, nw_up (v := 0) (n := 0) rfl, show nw w (11 + h) 4 = nI (w (11 + h) 4) from rfl, nw_up (n := w 1 4 + w (11 + h) 4) (nI_add _ _), nw_up (v := -1) (n := N1) rfl]
theorem c_11 {d : Nat} {w : WW} {τ : Nat → Nat → Int64} {h k b : Nat} (hH : HO w) (hh : h < 5) (hk : k < 192) (h8 : w (11 + h) 8 < 2147483648 ∨ w (11 + h) 8 = N1) (hb : b < 2) {Post : Option Value → Sto → Prop} (hp : Post none (stt (nw (aCame h k b w)) τ)) : Ex (d + 2) 11 [.ref (11 + h), .int (nI k), .int (nI b), .int (nI (w 1 4))] (stt (nw w) τ) 0 0 Post := by
  obtain ⟨g0, g1, g2, g3, g4, g5, g6, g7, g8, g9⟩ := hH h hh
  have hC : (¬ nw w (11 + h) 3 ≤ 0 ∧ (¬ nw w (11 + h) 5 = 0 ∨ nI k = nw w (11 + h) 8)) ↔ cwC h k w := by
    unfold cwC
    have e1 : nw w (11 + h) 3 ≤ 0 ↔ w (11 + h) 3 ≤ 0 := nI_leI (b := 0) (by omega) (by omega)
    have e2 : nw w (11 + h) 5 = 0 ↔ w (11 + h) 5 = 0 := nI_eq (b := 0) (by omega) (by omega)
    have e3 : nI k = nw w (11 + h) 8 ↔ k = w (11 + h) 8 := by
      rcases h8 with z | z
      · exact nI_eq (by omega) z
      · show nI k = nI (w (11 + h) 8) ↔ _
        rw [z]
        exact ⟨fun q => absurd q (nI_m1 (by omega)), fun q => absurd (show k = 4294967295 from q) (by omega)⟩
    rw [e1, e2, e3, Nat.not_le]
  have hb0 : nI b = 0 ↔ b = 0 := nI_eq (b := 0) (by omega) (by omega)
  have h5 : nw w (11 + h) 5 = 0 ↔ w (11 + h) 5 = 0 := nI_eq (b := 0) (by omega) (by omega)
  have h6 : nw w (11 + h) 6 + 1 < nw w (11 + h) 3 ↔ w (11 + h) 6 + 1 < w (11 + h) 3 := by
    show nI (w (11 + h) 6) + 1 < nI (w (11 + h) 3) ↔ _
    rw [nI_1, nI_ltI (by omega) (by omega)]
  have hu : up2 (nw w) (11 + h) 6 (nw w (11 + h) 6 + 1) = nw (up2 w (11 + h) 6 (w (11 + h) 6 + 1)) := by
    show up2 (nw w) (11 + h) 6 (nI (w (11 + h) 6) + 1) = _
    rw [nw_up (n := w (11 + h) 6 + 1) (nI_1 _)]
  unfold aCame at hp
  refine x_11 (σ := nw w) (k := 11 + h) (kd_help hh) (fun q => ?_) (fun q q2 => ?_) (fun q q2 q3 => ?_) (fun q q2 q3 q4 => ?_)
  · rw [if_neg (fun z => q (hC.mpr z))] at hp
    exact hp
  · rw [if_pos (hC.mp q), if_pos (hb0.mp q2)] at hp
    rw [nw_close]
    exact hp
  · rw [if_pos (hC.mp q), if_neg (fun z => q2 (hb0.mpr z)), if_pos (by rw [h5, h6] at q3; exact q3)] at hp
    rw [hu, show nI (w 1 4) = nI ((up2 w (11 + h) 6 (w (11 + h) 6 + 1)) 1 4) from by rw [up2_n _ _ _ _ (by omega)], nw_open hh]
    exact hp
  · rw [if_pos (hC.mp q), if_neg (fun z => q2 (hb0.mpr z)), if_neg (by rw [h5] at q3; rw [h6] at q4; exact fun z => by rcases z with z | z; exact q3 z; exact z q4)] at hp
    rw [hu]
    exact hp
noncomputable def aTB0 (k b : Nat) (w : WW) : WW := aCame (w 43 k) k b (aFin k b w)
def aGot (b x : Nat) (u : WW) : WW := if b ≠ 0 then up2 u 51 x 3 else if u 24 x = 0 then up2 u 51 x 2 else aLearn x u
noncomputable def tbS (k : Nat) (w : WW) (i : Nat) (u : WW) : WW := aGot (bdn w (w 43 k) (w 45 k)) (w 44 k * 32 + w 49 (w 48 k + i)) u
noncomputable def aTB (k : Nat) (w : WW) : WW := itr (tbS k w) (w 46 k) (aTB0 k (bdn w (w 43 k) (w 45 k)) w)
theorem aFin_k (k v : Nat) (w : WW) {j : Nat} (hj : j ≠ 42 ∧ j ≠ 47) : aFin k v w j = w j := by
  unfold aFin
  rw [up2_k _ _ _ _ hj.1, up2_k _ _ _ _ hj.2]
theorem aCame_k (h k b : Nat) (w : WW) {j : Nat} (hj : j ≠ 11 + h) : aCame h k b w j = w j := by
  unfold aCame aClose aOpen
  split
  · split
    · rw [up2_k _ _ _ _ hj, up2_k _ _ _ _ hj, up2_k _ _ _ _ hj]
    · split
      · rw [up2_k _ _ _ _ hj, up2_k _ _ _ _ hj, up2_k _ _ _ _ hj, up2_k _ _ _ _ hj, up2_k _ _ _ _ hj]
      · rw [up2_k _ _ _ _ hj]
  · rfl
theorem CO.fin {w : WW} (h : CO w) {k v : Nat} (hk : k < w 42 5) (hv : v < 3) : CO (aFin k v w) := by
  obtain ⟨h1, h2, h3, h4⟩ := h
  have a := adv_ok (w 42 5 - w 42 6) (w 42 6) (up2 w 47 k v)
  refine ⟨show adv _ _ _ ≤ w 42 5 by omega, fun c hc => ?_, fun c hc => ?_, fun hc => ?_⟩
  · have x := h2 c hc
    refine ⟨x.1, x.2.1, ?_⟩
    show va_up (w 47) k v c ≤ 3
    unfold va_up
    split
    · omega
    · exact x.2.2
  · have hc : c < adv (w 42 5 - w 42 6) (w 42 6) (up2 w 47 k v) := hc
    rcases Nat.lt_or_ge c (w 42 6) with z | z
    · show va_up (w 47) k v c ≠ 3
      unfold va_up
      split
      · omega
      · exact h3 c z
    · exact a.2.2.1 c z hc
  · have hc : adv (w 42 5 - w 42 6) (w 42 6) (up2 w 47 k v) < w 42 5 := hc
    exact a.2.2.2 (by omega)
theorem up5 (w : WW) (h a b c e : Nat) : True := trivial
theorem HO.came {w : WW} (H : HO w) (hK : w 1 4 ≤ 100000) {h k b : Nat} (hh : h < 5) : HO (aCame h k b w) := by
  intro g hg
  by_cases z : g = h
  · subst z
    have q := H g hg
    unfold aCame
    split
    · rename_i hc
      unfold cwC at hc
      split
      · unfold aClose
        simp only [up2, va_up, if_true, if_false, reduceIte, reduceCtorEq, Nat.reduceEqDiff]
        omega
      · split
        · unfold aOpen
          simp only [up2, va_up, if_true, if_false, reduceIte, reduceCtorEq, Nat.reduceEqDiff]
          have e1 : ¬ (1 = 11 + g) := by omega
          simp only [e1, if_false]
          omega
        · simp only [up2, va_up, if_true, if_false, reduceIte, reduceCtorEq, Nat.reduceEqDiff]
          omega
    · exact q
  · rw [aCame_k _ _ _ _ (show 11 + g ≠ 11 + h by omega)]
    exact H g hg
theorem aTB0_mi {w : WW} (M : MI w) {k b : Nat} (hk : k < w 42 5) (hb : b < 2) (h3 : w 47 k = 3) : MI (aTB0 k b w) := by
  obtain ⟨h1, h2, h3', h4, h5, h6, h7, h8, h9⟩ := M
  have hh := (h6.2.1 k hk).1
  have ea : ∀ j, j ≠ 11 + w 43 k → j ≠ 42 → j ≠ 47 → aTB0 k b w j = w j := fun j j1 j2 j3 => by
    unfold aTB0
    rw [aCame_k _ _ _ _ j1, aFin_k _ _ _ ⟨j2, j3⟩]
  have e42 : aTB0 k b w 42 = aFin k b w 42 := aCame_k _ _ _ _ (by omega)
  have e47 : aTB0 k b w 47 = aFin k b w 47 := aCame_k _ _ _ _ (by omega)
  have c0 := h6.fin (v := b) hk (by omega)
  refine ⟨h1.fr2 (fun j hj => ea j (by omega) (by omega) (by omega)), h2.fr2 (fun j hj => ea j (by omega) (by omega) (by omega)), h3'.fr2 (ea 1 (by omega) (by decide) (by decide)) (ea 25 (by omega) (by decide) (by decide)), ?_, ?_, ?_, ?_, h8.fr (fun j hj => ea j (by omega) (by omega) (by omega)), h9.fr (fun j hj => ea j (by omega) (by omega) (by omega)) (ea 52 (by omega) (by decide) (by decide))⟩
  · unfold NI
    rw [ea 1 (by omega) (by decide) (by decide), ea 17 (by omega) (by decide) (by decide), ea 19 (by omega) (by decide) (by decide), ea 25 (by omega) (by decide) (by decide), ea 44 (by omega) (by decide) (by decide), ea 46 (by omega) (by decide) (by decide), ea 48 (by omega) (by decide) (by decide), ea 49 (by omega) (by decide) (by decide), ea 50 (by omega) (by decide) (by decide), ea 51 (by omega) (by decide) (by decide), ea 52 (by omega) (by decide) (by decide), ea 53 (by omega) (by decide) (by decide), ea 54 (by omega) (by decide) (by decide), e42]
    exact h4
  · exact (h5.fr (v := aFin k b w) (fun j hj => aFin_k _ _ _ (by omega))).came h3'.1 hh
  · refine c0.fr (fun j hj => aCame_k _ _ _ _ (by omega))
  · intro g hg
    rw [e42, e47, ea 43 (by omega) (by decide) (by decide)]
    have e5 : (aFin k b w) 42 5 = w 42 5 := rfl
    have e11 : ∀ g, g < 5 → aFin k b w (11 + g) = w (11 + g) := fun g hg => aFin_k _ _ _ (by omega)
    have ne : ∀ c, c ≠ k → (aFin k b w) 47 c = w 47 c := fun c hc => va_up_ne _ _ hc
    rw [e5]
    by_cases z : g = w 43 k
    · have q := h5 g hg
      have t := h7 g hg
      have hcw : cwC g k (aFin k b w) ↔ cwC g k w := by unfold cwC; rw [e11 g hg]
      unfold aTB0
      rw [← z]
      unfold aCame
      by_cases c : cwC g k w
      · rw [if_pos (hcw.mpr c)]
        split
        · left; unfold aClose; exact up2_c _ _ _ _
        · split
          · left; unfold aOpen; exact up2_c _ _ _ _
          · rename_i h6b
            rw [up2_d _ _ _ _ (show 8 ≠ 6 by decide), up2_d _ _ _ _ (show 5 ≠ 6 by decide), e11 g hg] at *
            rcases t with t | ⟨t1, t2, t3, t4⟩
            · exact Or.inl t
            · exact absurd (Or.inl t4) h6b
      · rw [if_neg (fun y => c (hcw.mp y)), e11 g hg]
        rcases t with t | ⟨t1, t2, t3, t4⟩
        · exact Or.inl t
        · right
          refine ⟨t1, ?_, t3, t4⟩
          rw [ne]
          · exact t2
          · intro e
            exact c ⟨q.2.2.2.2.2.2.2.2.2 t4, Or.inr e.symm⟩
    · rw [ea (11 + g) (by omega) (by omega) (by omega)]
      rcases h7 g hg with t | ⟨t1, t2, t3, t4⟩
      · exact Or.inl t
      · right
        refine ⟨t1, ?_, t3, t4⟩
        rw [ne]
        · exact t2
        · intro e
          rw [e] at t3
          exact z t3.symm
theorem aGot_mi {u : WW} (M : MI u) {b x : Nat} (hx : x < 192) (h0 : u 51 x ≠ 0) (h11 : u 51 x ≠ 11) : MI (aGot b x u) ∧ FRG u (aGot b x u) := by
  obtain ⟨h1, h2, h3, h4, h5, h6, h7, h8, h9⟩ := id M
  have key : ∀ v, v ≤ 5 → v ≠ 0 → MI (up2 u 51 x v) ∧ FRG u (up2 u 51 x v) := fun v hv hv0 => ⟨⟨h1, h2, h3, h4.fate hx h11 (by omega) hv0 (by omega), h5.fr (fun k hk => up2_k _ _ _ _ (by omega)), h6, h7.fr (fun k hk => up2_k _ _ _ _ (by omega)), h8, h9⟩, fun k hk _ => up2_k _ _ _ _ (by omega), fun k hk => up2_k _ _ _ _ (by omega), fun i hi => up2_n _ _ _ _ (by decide) _⟩
  unfold aGot
  split
  · exact key 3 (by decide) (by decide)
  · split
    · exact key 2 (by decide) (by decide)
    · exact aLearn_mi M hx h0 h11
theorem tb_call {u : WW} (M : MI u) {k i : Nat} (hk : k < u 42 5) (hi : i < u 46 k) : (u 44 k < 6 ∧ u 46 k ≤ 8 ∧ u 48 k + u 46 k ≤ 192 ∧ u 49 (u 48 k + i) < 32) ∧ u 51 (u 44 k * 32 + u 49 (u 48 k + i)) ≠ 0 ∧ u 51 (u 44 k * 32 + u 49 (u 48 k + i)) ≠ 11 := by
  have h := M.2.2.2.1
  have hkk := h.2.2.2.2.2.2.2.1
  have c := h.2.2.2.2.2.2.2.2.2 k hk
  have c2 := c.2 i hi
  have c1 := c.1
  refine ⟨⟨c1.1, c1.2.1, ?_, c2.1⟩, c2.2.1, c2.2.2.1⟩
  unfold NIk at hkk
  omega
theorem tb_itr {w : WW} (M : MI w) {k : Nat} (hk : k < w 42 5) (h3 : w 47 k = 3) : ∀ i, i ≤ w 46 k → MI (itr (tbS k w) i (aTB0 k (bdn w (w 43 k) (w 45 k)) w)) ∧ FRG (aTB0 k (bdn w (w 43 k) (w 45 k)) w) (itr (tbS k w) i (aTB0 k (bdn w (w 43 k) (w 45 k)) w)) := by
  have hb : bdn w (w 43 k) (w 45 k) < 2 := by unfold bdn; split <;> omega
  have hh := (M.2.2.2.2.2.1.2.1 k hk).1
  intro n hn
  refine itr_ind (fun _ v => MI v ∧ FRG (aTB0 k (bdn w (w 43 k) (w 45 k)) w) v) ⟨aTB0_mi M hk hb h3, FRG.rf _⟩ n (fun i v hi hv => ?_)
  have e : ∀ j, j < 50 → j ≠ 25 → j ≠ 42 → j ≠ 47 → 16 ≤ j → v j = w j := fun j j1 j2 j3 j4 j5 => by
    rw [hv.2.1 j j1 j2]
    unfold aTB0
    rw [aCame_k _ _ _ _ (by omega), aFin_k _ _ _ ⟨j3, j4⟩]
  have e42 : v 42 5 = w 42 5 := by
    rw [hv.2.1 42 (by decide) (by decide)]
    unfold aTB0
    rw [aCame_k _ _ _ _ (by omega)]
    rfl
  have c := tb_call hv.1 (k := k) (i := i) (by rw [e42]; exact hk) (by rw [e 46 (by decide) (by decide) (by decide) (by decide) (by decide)]; omega)
  rw [e 44 (by decide) (by decide) (by decide) (by decide) (by decide), e 46 (by decide) (by decide) (by decide) (by decide) (by decide), e 48 (by decide) (by decide) (by decide) (by decide) (by decide), e 49 (by decide) (by decide) (by decide) (by decide) (by decide)] at c
  unfold tbS
  have q := aGot_mi hv.1 (b := bdn w (w 43 k) (w 45 k)) (x := w 44 k * 32 + w 49 (w 48 k + i)) (by omega) c.2.1 c.2.2
  exact ⟨q.1, hv.2.tr q.2⟩
theorem aTB_mi {w : WW} (M : MI w) {k : Nat} (hk : k < w 42 5) (h3 : w 47 k = 3) : MI (aTB k w) := (tb_itr M hk h3 _ (Nat.le_refl _)).1
set_option maxRecDepth 20000 in
theorem l_34 {d k b : Nat} {w : WW} {τ : Nat → Nat → Int64} {Post : Option Value → Sto → Prop} (M : MI w) (h24 : ∀ x, x < 192 → w 24 x ≤ 1) (hk : k < w 42 5) (h3 : w 47 k = 3) (hb : b = bdn w (w 43 k) (w 45 k)) (hp : Post none (stt (nw (aTB k w)) τ)) : ∀ (nn : Nat) (i : Nat) (u : WW), i ≤ w 46 k → u = itr (tbS k w) i (aTB0 k (bdn w (w 43 k) (w 45 k)) w) → w 46 k - i < nn → RU_34 (d + 12) (0, 0) Post 69 [(4, .int (nI i)), (3, .int (nI b)), (2, .int (nI (w 43 k))), (0, .ref 50), (1, .int (nI k))] [] (stt (nw u) τ) 0 0 := by
  intro nn
  induction nn with
  | zero => intro i u hi hu hms; exact absurd hms (by omega)
  | succ nn ih =>
    intro i u hi hu hms
    have q := tb_itr M hk h3 i hi
    rw [← hu] at q
    obtain ⟨Mu, hfr⟩ := q
    have hb2 : b < 2 := by rw [hb]; unfold bdn; split <;> omega
    have hh := (M.2.2.2.2.2.1.2.1 k hk).1
    have e : ∀ j, j < 50 → j ≠ 25 → j ≠ 42 → j ≠ 47 → 16 ≤ j → u j = w j := fun j j1 j2 j3 j4 j5 => by rw [hfr.1 j j1 j2]; unfold aTB0; rw [aCame_k _ _ _ _ (by omega), aFin_k _ _ _ ⟨j3, j4⟩]
    have e44 := e 44 (by decide) (by decide) (by decide) (by decide) (by decide)
    have e46 := e 46 (by decide) (by decide) (by decide) (by decide) (by decide)
    have e48 := e 48 (by decide) (by decide) (by decide) (by decide) (by decide)
    have e49 := e 49 (by decide) (by decide) (by decide) (by decide) (by decide)
    have e24 := e 24 (by decide) (by decide) (by decide) (by decide) (by decide)
    have e42 : u 42 5 = w 42 5 := by rw [hfr.1 42 (by decide) (by decide)]; unfold aTB0; rw [aCame_k _ _ _ _ (by omega)]; rfl
    have hn := M.2.2.2.1.2.2.2.2.2.2.2.2.1
    have hkk := M.2.2.2.1.2.2.2.2.2.2.2.1
    have hk3 : w 42 9 ≤ 192 := by unfold NIk at hkk; omega
    have c46 := (M.2.2.2.1.2.2.2.2.2.2.2.2.2 k hk).1
    refine R_seg sg_34_69 sk_34_69 (pc' := 79) (lv' := [(4, .int (nI i)), (3, .int (nI b)), (2, .int (nI (w 43 k))), (0, .ref 50), (1, .int (nI k))]) (st' := [.int (nI k), .ref 46, .int (nI i)]) (S' := stt (nw u) τ) (kc' := 0) (ks' := 0) rfl ⟨trivial, trivial, rfl, rfl, trivial, trivial⟩ ?_
    refine R_iald ca_34_79 (j := k) rfl rfl (by omega) ?_
    show RU_34 (d + 12) (0, 0) Post 80 ([(4, .int (nI i)), (3, .int (nI b)), (2, .int (nI (w 43 k))), (0, .ref 50), (1, .int (nI k))]) ([.int (nI (u 46 k)), .int (nI i)]) (stt (nw u) τ) 0 0
    rw [e46]
    refine R_icmp ck_34_80 (fun (c_80 : (nI (w 46 k)) ≤ (nI i)) => ?_) (fun (c_80 : ¬ (nI (w 46 k)) ≤ (nI i)) => ?_)
    · have c_80 : (w 46 k) ≤ i := (nI_leI (a := (w 46 k)) (b := i) (by omega) (by omega)).mp c_80
      refine R_ret ck_34_159 rfl ?_
      have ei : i = w 46 k := by omega
      subst ei
      subst hu
      exact hp
    · have c_80 : i < (w 46 k) := Nat.not_le.mp (fun zq => c_80 ((nI_leI (a := (w 46 k)) (b := i) (by omega) (by omega)).mpr zq))
      have c := tb_call Mu (k := k) (i := i) (by rw [e42]; exact hk) (by rw [e46]; exact c_80)
      rw [e44, e46, e48, e49] at c
      refine R_seg sg_34_83 sk_34_83 (pc' := 91) (lv' := [(4, .int (nI i)), (3, .int (nI b)), (2, .int (nI (w 43 k))), (0, .ref 50), (1, .int (nI k))]) (st' := [.int (nI k), .ref 44]) (S' := stt (nw u) τ) (kc' := 0) (ks' := 0) rfl ⟨trivial, rfl, rfl, trivial, trivial⟩ ?_
      refine R_iald ca_34_91 (j := k) rfl rfl (by omega) ?_
      show RU_34 (d + 12) (0, 0) Post 92 ([(4, .int (nI i)), (3, .int (nI b)), (2, .int (nI (w 43 k))), (0, .ref 50), (1, .int (nI k))]) ([.int (nI (u 44 k))]) (stt (nw u) τ) 0 0
      rw [e44]
      refine R_seg sg_34_92 sk_34_92 (pc' := 102) (lv' := [(4, .int (nI i)), (3, .int (nI b)), (2, .int (nI (w 43 k))), (0, .ref 50), (1, .int (nI k))]) (st' := [.int (nI i), .int (nI k), .ref 42, .int ((nI (w 44 k)) * 32)]) (S' := stt (nw u) τ) (kc' := 0) (ks' := 0) rfl ⟨trivial, trivial, trivial, rfl, trivial, trivial, trivial⟩ ?_
      refine R_virt ck_34_102 42 [.int (nI k), .int (nI i)] 0 0 (r := [.int ((nI (w 44 k)) * 32)]) rfl rfl rfl (Nat.le_of_ble_eq_true rfl) (Nat.le_refl _) (Nat.le_refl _) ?_
      refine x_5 (d := d + 10) (σ := nw u) (k := k) (z := w 46 k) (s := w 48 k) (by omega) (by rw [← e46]; rfl) (by rw [← e48]; rfl) c.1.2.2.1 (fun j hj ej => ?_) (fun hno => absurd ⟨i, c_80, rfl⟩ hno)
      have ej : i = j := (nI_eq (by omega) (by omega)).mp ej
      subst ej
      rw [show nw u 49 (w 48 k + i) = nI (w 49 (w 48 k + i)) from by rw [← e49]; rfl]
      show RU_34 (d + 12) (0, 0) Post 105 ([(4, .int (nI i)), (3, .int (nI b)), (2, .int (nI (w 43 k))), (0, .ref 50), (1, .int (nI k))]) ([.int (nI (w 49 (w 48 k + i))), .int ((nI (w 44 k)) * 32)]) (stt (nw u) τ) 0 0
      skip
      refine R_seg [(.iadd, 1, 0, 0, 0, 0)] (by decide +kernel) (pc' := 106) (lv' := [(4, .int (nI i)), (3, .int (nI b)), (2, .int (nI (w 43 k))), (0, .ref 50), (1, .int (nI k))]) (st' := [.int (((nI (w 44 k)) * 32) + (nI (w 49 (w 48 k + i))))]) (S' := stt (nw u) τ) (kc' := 0) (ks' := 0) rfl ⟨trivial, trivial⟩ ?_
      rw [show nI (w 44 k) * 32 + nI (w 49 (w 48 k + i)) = nI (w 44 k * 32 + w 49 (w 48 k + i)) from by simp only [nl_0, nl_1, nl_2, nl_3, nl_4, nl_5, nl_6, nl_8, nl_20, nl_31, nl_32, pk_mul, nI_add]]
      skip
      refine R_seg [(.istore 5, 2, 0, 0, 0, 0), (.iload_n 3, 1, 0, 0, 0, 0)] (by decide +kernel) (pc' := 109) (lv' := [(5, .int (nI (w 44 k * 32 + w 49 (w 48 k + i)))), (4, .int (nI i)), (3, .int (nI b)), (2, .int (nI (w 43 k))), (0, .ref 50), (1, .int (nI k))]) (st' := [.int (nI b)]) (S' := stt (nw u) τ) (kc' := 0) (ks' := 0) rfl ⟨(by decide), trivial, trivial⟩ ?_
      refine R_if ck_34_109 (fun (c_109 : (nI b) = 0) => ?_) (fun (c_109 : ¬ (nI b) = 0) => ?_)
      · have c_109 : b = 0 := (nI_eq (a := b) (b := 0) (by omega) (by omega)).mp c_109
        have b24 := h24 (w 44 k * 32 + w 49 (w 48 k + i)) (by omega)
        have e24x : u 24 (w 44 k * 32 + w 49 (w 48 k + i)) = w 24 (w 44 k * 32 + w 49 (w 48 k + i)) := by rw [e24]
        refine R_seg sg_34_123 sk_34_123 (pc' := 132) (lv' := [(5, .int (nI (w 44 k * 32 + w 49 (w 48 k + i)))), (4, .int (nI i)), (3, .int (nI b)), (2, .int (nI (w 43 k))), (0, .ref 50), (1, .int (nI k))]) (st' := [.int (nI (w 44 k * 32 + w 49 (w 48 k + i))), .ref 24]) (S' := stt (nw u) τ) (kc' := 0) (ks' := 0) rfl ⟨trivial, rfl, rfl, trivial, trivial⟩ ?_
        refine R_bald ca_34_132 (j := w 44 k * 32 + w 49 (w 48 k + i)) rfl rfl (by omega) ?_
        refine R_if ck_34_133 (fun (c_133 : ¬ (nI (u 24 (w 44 k * 32 + w 49 (w 48 k + i)))) = 0) => ?_) (fun (c_133 : ¬ ¬ (nI (u 24 (w 44 k * 32 + w 49 (w 48 k + i)))) = 0) => ?_)
        · have c_133 : ¬ (u 24 (w 44 k * 32 + w 49 (w 48 k + i))) = 0 := fun zq => c_133 ((nI_eq (a := (u 24 (w 44 k * 32 + w 49 (w 48 k + i)))) (b := 0) (by omega) (by omega)).mpr zq)
          refine R_seg sg_34_147 sk_34_147 (pc' := 150) (lv' := [(5, .int (nI (w 44 k * 32 + w 49 (w 48 k + i)))), (4, .int (nI i)), (3, .int (nI b)), (2, .int (nI (w 43 k))), (0, .ref 50), (1, .int (nI k))]) (st' := [.int (nI (w 44 k * 32 + w 49 (w 48 k + i))), .ref 50]) (S' := stt (nw u) τ) (kc' := 0) (ks' := 0) rfl ⟨trivial, trivial, trivial⟩ ?_
          refine R_virt ck_34_150 50 [.int (nI (w 44 k * 32 + w 49 (w 48 k + i)))] 0 0 (r := []) rfl rfl rfl (Nat.le_of_ble_eq_true rfl) (Nat.le_refl _) (Nat.le_refl _) ?_
          refine c_35 (d := d) Mu (by omega) c.2.1 c.2.2 ?_
          show RU_34 (d + 12) (0, 0) Post 153 ([(5, .int (nI (w 44 k * 32 + w 49 (w 48 k + i)))), (4, .int (nI i)), (3, .int (nI b)), (2, .int (nI (w 43 k))), (0, .ref 50), (1, .int (nI k))]) ([]) (stt (nw (aLearn (w 44 k * 32 + w 49 (w 48 k + i)) u)) τ) 0 0
          refine R_seg sg_34_153 sk_34_153 (pc' := 156) (lv' := [(4, .int ((nI i) + 1)), (5, .int (nI (w 44 k * 32 + w 49 (w 48 k + i)))), (3, .int (nI b)), (2, .int (nI (w 43 k))), (0, .ref 50), (1, .int (nI k))]) (st' := []) (S' := stt (nw (aLearn (w 44 k * 32 + w 49 (w 48 k + i)) u)) τ) (kc' := 0) (ks' := 0) rfl ⟨(by decide), trivial⟩ ?_
          refine R_goto ck_34_156 ?_
          refine Runs.lv (lv := [(4, .int ((nI i) + 1)), (3, .int (nI b)), (2, .int (nI (w 43 k))), (0, .ref 50), (1, .int (nI k))]) ?_ _ (lvS_l (show ([4, 3, 2, 0, 1] : List Nat).Nodup from by decide) (by intro q hq; simp only [List.mem_cons, List.not_mem_nil, or_false] at hq; rcases hq with rfl | rfl | rfl | rfl | rfl <;> rfl))
          rw [nI_1 i]
          exact ih (i + 1) _ (by omega) (by rw [itr_s, ← hu]; unfold tbS aGot; rw [← hb]; rw [if_neg (by omega), if_neg c_133]) (by omega)
        · have c_133 : (u 24 (w 44 k * 32 + w 49 (w 48 k + i))) = 0 := (nI_eq (a := (u 24 (w 44 k * 32 + w 49 (w 48 k + i)))) (b := 0) (by omega) (by omega)).mp (Classical.not_not.mp c_133)
          refine R_seg sg_34_136 sk_34_136 (pc' := 143) (lv' := [(5, .int (nI (w 44 k * 32 + w 49 (w 48 k + i)))), (4, .int (nI i)), (3, .int (nI b)), (2, .int (nI (w 43 k))), (0, .ref 50), (1, .int (nI k))]) (st' := [.int 2, .int (nI (w 44 k * 32 + w 49 (w 48 k + i))), .ref 51]) (S' := stt (nw u) τ) (kc' := 0) (ks' := 0) rfl ⟨trivial, rfl, trivial, trivial, trivial⟩ ?_
          refine R_iast ca_34_143 (j := w 44 k * 32 + w 49 (w 48 k + i)) rfl rfl (by omega) ?_
          show RU_34 (d + 12) (0, 0) Post 144 ([(5, .int (nI (w 44 k * 32 + w 49 (w 48 k + i)))), (4, .int (nI i)), (3, .int (nI b)), (2, .int (nI (w 43 k))), (0, .ref 50), (1, .int (nI k))]) ([]) (stt (up2 (nw u) 51 (w 44 k * 32 + w 49 (w 48 k + i)) 2) τ) 0 0
          rw [nw_up (w := u) (k := 51) (i := (w 44 k * 32 + w 49 (w 48 k + i))) (v := 2) (n := 2) rfl]
          refine R_goto ck_34_144 ?_
          refine R_seg sg_34_153 sk_34_153 (pc' := 156) (lv' := [(4, .int ((nI i) + 1)), (5, .int (nI (w 44 k * 32 + w 49 (w 48 k + i)))), (3, .int (nI b)), (2, .int (nI (w 43 k))), (0, .ref 50), (1, .int (nI k))]) (st' := []) (S' := stt (nw (up2 u 51 (w 44 k * 32 + w 49 (w 48 k + i)) 2)) τ) (kc' := 0) (ks' := 0) rfl ⟨(by decide), trivial⟩ ?_
          refine R_goto ck_34_156 ?_
          refine Runs.lv (lv := [(4, .int ((nI i) + 1)), (3, .int (nI b)), (2, .int (nI (w 43 k))), (0, .ref 50), (1, .int (nI k))]) ?_ _ (lvS_l (show ([4, 3, 2, 0, 1] : List Nat).Nodup from by decide) (by intro q hq; simp only [List.mem_cons, List.not_mem_nil, or_false] at hq; rcases hq with rfl | rfl | rfl | rfl | rfl <;> rfl))
          rw [nI_1 i]
          exact ih (i + 1) _ (by omega) (by rw [itr_s, ← hu]; unfold tbS aGot; rw [← hb]; rw [if_neg (by omega), if_pos c_133]) (by omega)
      · have c_109 : ¬ b = 0 := fun zq => c_109 ((nI_eq (a := b) (b := 0) (by omega) (by omega)).mpr zq)
        refine R_seg sg_34_112 sk_34_112 (pc' := 119) (lv' := [(5, .int (nI (w 44 k * 32 + w 49 (w 48 k + i)))), (4, .int (nI i)), (3, .int (nI b)), (2, .int (nI (w 43 k))), (0, .ref 50), (1, .int (nI k))]) (st' := [.int 3, .int (nI (w 44 k * 32 + w 49 (w 48 k + i))), .ref 51]) (S' := stt (nw u) τ) (kc' := 0) (ks' := 0) rfl ⟨trivial, rfl, trivial, trivial, trivial⟩ ?_
        refine R_iast ca_34_119 (j := w 44 k * 32 + w 49 (w 48 k + i)) rfl rfl (by omega) ?_
        show RU_34 (d + 12) (0, 0) Post 120 ([(5, .int (nI (w 44 k * 32 + w 49 (w 48 k + i)))), (4, .int (nI i)), (3, .int (nI b)), (2, .int (nI (w 43 k))), (0, .ref 50), (1, .int (nI k))]) ([]) (stt (up2 (nw u) 51 (w 44 k * 32 + w 49 (w 48 k + i)) 3) τ) 0 0
        rw [nw_up (w := u) (k := 51) (i := (w 44 k * 32 + w 49 (w 48 k + i))) (v := 3) (n := 3) rfl]
        refine R_goto ck_34_120 ?_
        refine R_seg sg_34_153 sk_34_153 (pc' := 156) (lv' := [(4, .int ((nI i) + 1)), (5, .int (nI (w 44 k * 32 + w 49 (w 48 k + i)))), (3, .int (nI b)), (2, .int (nI (w 43 k))), (0, .ref 50), (1, .int (nI k))]) (st' := []) (S' := stt (nw (up2 u 51 (w 44 k * 32 + w 49 (w 48 k + i)) 3)) τ) (kc' := 0) (ks' := 0) rfl ⟨(by decide), trivial⟩ ?_
        refine R_goto ck_34_156 ?_
        refine Runs.lv (lv := [(4, .int ((nI i) + 1)), (3, .int (nI b)), (2, .int (nI (w 43 k))), (0, .ref 50), (1, .int (nI k))]) ?_ _ (lvS_l (show ([4, 3, 2, 0, 1] : List Nat).Nodup from by decide) (by intro q hq; simp only [List.mem_cons, List.not_mem_nil, or_false] at hq; rcases hq with rfl | rfl | rfl | rfl | rfl <;> rfl))
        rw [nI_1 i]
        exact ih (i + 1) _ (by omega) (by rw [itr_s, ← hu]; unfold tbS aGot; rw [← hb]; rw [if_pos c_109]) (by omega)
set_option maxRecDepth 20000 in
theorem c_34 {d : Nat} {w : WW} {τ : Nat → Nat → Int64} {k : Nat} {Post : Option Value → Sto → Prop} (M : MI w) (h24 : ∀ x, x < 192 → w 24 x ≤ 1) (hk : k < w 42 5) (h3 : w 47 k = 3) (hp : Post none (stt (nw (aTB k w)) τ)) : Ex (d + 13) 34 [.ref 50, .int (nI k)] (stt (nw w) τ) 0 0 Post := by
  have hC := M.2.2.2.2.2.1
  have hP := M.2.2.2.2.2.2.2.1
  have hc := hC.2.1 k hk
  have hh := hc.1
  have hK := M.2.2.1.1
  have hn := M.2.2.2.1.2.2.2.2.2.2.2.2.1
  have hkk := M.2.2.2.1.2.2.2.2.2.2.2.1
  have hk3 : w 42 9 ≤ 192 := by unfold NIk at hkk; omega
  have h8b : w (11 + w 43 k) 8 < 2147483648 ∨ w (11 + w 43 k) 8 = N1 := by rcases M.2.2.2.2.2.2.1 (w 43 k) hh with z | z; exact Or.inr z; exact Or.inl (by omega)
  refine en_34 (Nat.le_of_ble_eq_true rfl) ?_
  show RU_34 (d + 12) (0, 0) Post 0 ([(0, .ref 50), (1, .int (nI k))]) ([]) (stt (nw w) τ) 0 0
  refine R_seg sg_34_0 sk_34_0 (pc' := 8) (lv' := [(0, .ref 50), (1, .int (nI k))]) (st' := [.int (nI k), .ref 43]) (S' := stt (nw w) τ) (kc' := 0) (ks' := 0) rfl ⟨trivial, rfl, rfl, trivial, trivial⟩ ?_
  refine R_iald ca_34_8 (j := k) rfl rfl (by omega) ?_
  refine R_seg sg_34_9 sk_34_9 (pc' := 23) (lv' := [(2, .int (nI (w 43 k))), (0, .ref 50), (1, .int (nI k))]) (st' := [.int (nI k), .ref 45, .int (nI (w 43 k)), .ref 6]) (S' := stt (nw w) τ) (kc' := 0) (ks' := 0) rfl ⟨(by decide), trivial, rfl, trivial, trivial, rfl, rfl, trivial, trivial⟩ ?_
  refine R_iald ca_34_23 (j := k) rfl rfl (by omega) ?_
  refine R_virt ck_34_24 6 [.int (nI (w 43 k)), .int (nI (w 45 k))] 0 0 (r := []) rfl rfl rfl (Nat.le_of_ble_eq_true rfl) (Nat.le_refl _) (Nat.le_refl _) ?_
  refine c_15 (d := d + 10) hP (by omega) (by omega) (fun hb => ?_) (fun hb => ?_)
  · show RU_34 (d + 12) (0, 0) Post 27 ([(2, .int (nI (w 43 k))), (0, .ref 50), (1, .int (nI k))]) ([.int 1]) (stt (nw w) τ) 0 0
    refine R_seg sg_34_27 sk_34_27 (pc' := 34) (lv' := [(3, .int 1), (2, .int (nI (w 43 k))), (0, .ref 50), (1, .int (nI k))]) (st' := [.int 1, .int (nI k), .ref 42]) (S' := stt (nw w) τ) (kc' := 0) (ks' := 0) rfl ⟨(by decide), trivial, rfl, trivial, trivial, trivial⟩ ?_
    refine R_if ck_34_34 (fun c => absurd c (show ¬ (1 : Int32) = 0 from by decide)) (fun _ => ?_)
    refine R_seg sg_34_37 sk_34_37 (pc' := 38) (lv' := [(3, .int 1), (2, .int (nI (w 43 k))), (0, .ref 50), (1, .int (nI k))]) (st' := [.int 1, .int (nI k), .ref 42]) (S' := stt (nw w) τ) (kc' := 0) (ks' := 0) rfl ⟨trivial, trivial⟩ ?_
    refine R_goto ck_34_38 ?_
    refine R_virt ck_34_42 42 [.int (nI k), .int 1] 0 0 (r := []) rfl rfl rfl (Nat.le_of_ble_eq_true rfl) (Nat.le_refl _) (Nat.le_refl _) ?_
    refine c_4 (d := d + 11) (v := 1) hC (by omega) hk (by omega) ?_
    show RU_34 (d + 12) (0, 0) Post 45 ([(3, .int 1), (2, .int (nI (w 43 k))), (0, .ref 50), (1, .int (nI k))]) ([]) (stt (nw (aFin k 1 w)) τ) 0 0
    refine R_seg sg_34_45 sk_34_45 (pc' := 53) (lv' := [(3, .int 1), (2, .int (nI (w 43 k))), (0, .ref 50), (1, .int (nI k))]) (st' := [.int (nI (w 43 k)), .ref 7]) (S' := stt (nw (aFin k 1 w)) τ) (kc' := 0) (ks' := 0) rfl ⟨trivial, rfl, rfl, trivial, trivial⟩ ?_
    refine R_aald ca_34_53 (j := w 43 k) (k' := 11 + (w 43 k)) rfl rfl (by omega) (rh_each (by omega)) ?_
    refine R_seg sg_34_54 sk_34_54 (pc' := 63) (lv' := [(3, .int 1), (2, .int (nI (w 43 k))), (0, .ref 50), (1, .int (nI k))]) (st' := [.int (nI ((aFin k 1 w) 1 4)), .int 1, .int (nI k), .ref (11 + (w 43 k))]) (S' := stt (nw (aFin k 1 w)) τ) (kc' := 0) (ks' := 0) rfl ⟨trivial, trivial, trivial, rfl, rfl, trivial⟩ ?_
    refine R_virt ck_34_63 (11 + (w 43 k)) [.int (nI k), .int 1, .int (nI ((aFin k 1 w) 1 4))] 0 0 (r := []) rfl rfl (kd_help hh) (Nat.le_of_ble_eq_true rfl) (Nat.le_refl _) (Nat.le_refl _) ?_
    refine c_11 (d := d + 10) (w := aFin k 1 w) (b := 1) (M.2.2.2.2.1.fr (fun j hj => aFin_k _ _ _ (by omega))) hh (by omega) (by rw [aFin_k _ _ _ (by omega)]; exact h8b) (by omega) ?_
    show RU_34 (d + 12) (0, 0) Post 66 ([(3, .int 1), (2, .int (nI (w 43 k))), (0, .ref 50), (1, .int (nI k))]) ([]) (stt (nw (aTB0 k 1 w)) τ) 0 0
    refine R_seg sg_34_66 sk_34_66 (pc' := 69) (lv' := [(4, .int 0), (3, .int 1), (2, .int (nI (w 43 k))), (0, .ref 50), (1, .int (nI k))]) (st' := []) (S' := stt (nw (aTB0 k 1 w)) τ) (kc' := 0) (ks' := 0) rfl ⟨trivial, (by decide), trivial⟩ ?_
    refine Runs.lv (lv := [(4, .int 0), (3, .int 1), (2, .int (nI (w 43 k))), (0, .ref 50), (1, .int (nI k))]) ?_ _ (lvS_l (show ([4, 3, 2, 0, 1] : List Nat).Nodup from by decide) (by intro q hq; simp only [List.mem_cons, List.not_mem_nil, or_false] at hq; rcases hq with rfl | rfl | rfl | rfl | rfl <;> rfl))
    rw [← nI_0]
    exact l_34 (b := 1) M h24 hk h3 hb.symm hp (w 46 k + 1) 0 _ (Nat.zero_le _) (by rw [hb]; rfl) (by omega)
  · show RU_34 (d + 12) (0, 0) Post 27 ([(2, .int (nI (w 43 k))), (0, .ref 50), (1, .int (nI k))]) ([.int 0]) (stt (nw w) τ) 0 0
    refine R_seg sg_34_27 sk_34_27 (pc' := 34) (lv' := [(3, .int 0), (2, .int (nI (w 43 k))), (0, .ref 50), (1, .int (nI k))]) (st' := [.int 0, .int (nI k), .ref 42]) (S' := stt (nw w) τ) (kc' := 0) (ks' := 0) rfl ⟨(by decide), trivial, rfl, trivial, trivial, trivial⟩ ?_
    refine R_if ck_34_34 (fun _ => ?_) (fun c => absurd (show (0 : Int32) = 0 from by decide) c)
    refine R_seg sg_34_41 sk_34_41 (pc' := 42) (lv' := [(3, .int 0), (2, .int (nI (w 43 k))), (0, .ref 50), (1, .int (nI k))]) (st' := [.int 0, .int (nI k), .ref 42]) (S' := stt (nw w) τ) (kc' := 0) (ks' := 0) rfl ⟨trivial, trivial⟩ ?_
    refine R_virt ck_34_42 42 [.int (nI k), .int 0] 0 0 (r := []) rfl rfl rfl (Nat.le_of_ble_eq_true rfl) (Nat.le_refl _) (Nat.le_refl _) ?_
    refine c_4 (d := d + 11) (v := 0) hC (by omega) hk (by omega) ?_
    show RU_34 (d + 12) (0, 0) Post 45 ([(3, .int 0), (2, .int (nI (w 43 k))), (0, .ref 50), (1, .int (nI k))]) ([]) (stt (nw (aFin k 0 w)) τ) 0 0
    refine R_seg sg_34_45 sk_34_45 (pc' := 53) (lv' := [(3, .int 0), (2, .int (nI (w 43 k))), (0, .ref 50), (1, .int (nI k))]) (st' := [.int (nI (w 43 k)), .ref 7]) (S' := stt (nw (aFin k 0 w)) τ) (kc' := 0) (ks' := 0) rfl ⟨trivial, rfl, rfl, trivial, trivial⟩ ?_
    refine R_aald ca_34_53 (j := w 43 k) (k' := 11 + (w 43 k)) rfl rfl (by omega) (rh_each (by omega)) ?_
    refine R_seg sg_34_54 sk_34_54 (pc' := 63) (lv' := [(3, .int 0), (2, .int (nI (w 43 k))), (0, .ref 50), (1, .int (nI k))]) (st' := [.int (nI ((aFin k 0 w) 1 4)), .int 0, .int (nI k), .ref (11 + (w 43 k))]) (S' := stt (nw (aFin k 0 w)) τ) (kc' := 0) (ks' := 0) rfl ⟨trivial, trivial, trivial, rfl, rfl, trivial⟩ ?_
    refine R_virt ck_34_63 (11 + (w 43 k)) [.int (nI k), .int 0, .int (nI ((aFin k 0 w) 1 4))] 0 0 (r := []) rfl rfl (kd_help hh) (Nat.le_of_ble_eq_true rfl) (Nat.le_refl _) (Nat.le_refl _) ?_
    refine c_11 (d := d + 10) (w := aFin k 0 w) (b := 0) (M.2.2.2.2.1.fr (fun j hj => aFin_k _ _ _ (by omega))) hh (by omega) (by rw [aFin_k _ _ _ (by omega)]; exact h8b) (by omega) ?_
    show RU_34 (d + 12) (0, 0) Post 66 ([(3, .int 0), (2, .int (nI (w 43 k))), (0, .ref 50), (1, .int (nI k))]) ([]) (stt (nw (aTB0 k 0 w)) τ) 0 0
    refine R_seg sg_34_66 sk_34_66 (pc' := 69) (lv' := [(4, .int 0), (3, .int 0), (2, .int (nI (w 43 k))), (0, .ref 50), (1, .int (nI k))]) (st' := []) (S' := stt (nw (aTB0 k 0 w)) τ) (kc' := 0) (ks' := 0) rfl ⟨trivial, (by decide), trivial⟩ ?_
    refine Runs.lv (lv := [(4, .int 0), (3, .int 0), (2, .int (nI (w 43 k))), (0, .ref 50), (1, .int (nI k))]) ?_ _ (lvS_l (show ([4, 3, 2, 0, 1] : List Nat).Nodup from by decide) (by intro q hq; simp only [List.mem_cons, List.not_mem_nil, or_false] at hq; rcases hq with rfl | rfl | rfl | rfl | rfl <;> rfl))
    rw [← nI_0]
    exact l_34 (b := 0) M h24 hk h3 hb.symm hp (w 46 k + 1) 0 _ (Nat.zero_le _) (by rw [hb]; rfl) (by omega)
