/-! ===== reading: the class's run ===== -/
def TPc (w : WW) : Prop := w 30 1 ≤ 200 ∧ ∀ i, i < 200 → w 31 i < 256
theorem TPc.fr {w u : WW} (h : TPc w) (f : FRD w u) : TPc u := by
  unfold TPc
  rw [f.1 30 (by decide), f.1 31 (by decide)]
  exact h
theorem nw_opn (w : WW) (p : Nat) : c_opn (nw w) (w 32 7) (w 40 3) (nI p) = nw (rOpen w p) := by
  unfold c_opn rOpen
  rw [nw_up (n := w 32 7 + 1) (nI_1 _), show nw w 40 5 = nI (w 40 5) from rfl, show nw w 40 6 = nI (w 40 6) from rfl, nw_up (n := w 40 5) rfl, nw_up (n := w 40 6) rfl, nw_up (n := p) rfl, nw_up (v := 0) (n := 0) rfl, nw_up (n := w 32 7) rfl, nw_up (n := w 40 3 + 1) (nI_1 _), nw_up (n := w 40 3 + 1) (nI_1 _)]
theorem nw_add (w : WW) (n f : Nat) : c_add (nw w) n (w 37 n) f = nw (rAdd w n f) := by
  unfold c_add rAdd
  rw [nw_up (n := w 37 n + 1) (nI_1 _), nw_up (n := f) rfl, nw_up (v := -1) (n := N1) rfl]
/-- one byte, by the class -/
theorem c_18 {d : Nat} {w : WW} {τ : Nat → Nat → Int64} {ty b p : Nat} (h : RIn w ty) (hb : b < 256) {Post : Option Value → Sto → Prop} (h1 : ∀ u, rtk w p b = .inl u → Post (some (.int (-1))) (stt (nw u) τ)) (h2 : ∀ c, c < 3 → rtk w p b = .inr c → Post (some (.int (nI c))) (stt (nw w) τ)) : Ex (d + 2) 18 [.ref 40, .int (nI b), .int (nI p)] (stt (nw w) τ) 0 0 Post := by
  obtain ⟨hS, hO, h⟩ := h
  have hO1 := hO.1
  rcases h with ⟨h4, hl, hN, h0, hn0⟩ | ⟨h4, hl, hN, h0, hn0⟩ | ⟨h4, h⟩
  · have hop := hO.2 (w 40 3 - 1) (by omega)
    obtain ⟨a1, a2, a3, a4, a5, a6⟩ := hN
    have nn := (a2 _ hop.1).1
    have er : rtk w p b = (if b = 125 then (if w 37 (w 41 (w 40 3 - 1)) = 0 then .inr 0 else .inl (rClose w)) else if 48 ≤ b ∧ b ≤ 51 then (if 6 ≤ w 37 (w 41 (w 40 3 - 1)) then .inr 2 else .inl (rField w (w 41 (w 40 3 - 1)) (b - 48))) else .inr 0) := by
      unfold rtk
      rw [if_neg (by omega), if_neg (by omega)]
    refine x_18f (σ := nw w) (n := w 41 (w 40 3 - 1)) (w := w 37 (w 41 (w 40 3 - 1))) (t := w 33 (w 41 (w 40 3 - 1))) (lv := w 40 3) (kd := fun f => w 20 (w 33 (w 41 (w 40 3 - 1)) * 4 + f)) hb (by show nI (w 40 4) = 1; rw [h4]; rfl) rfl hl hO1 rfl (by omega) rfl nn.2.2.2 rfl nn.1 (fun f hf => rfl) (fun f hf => (hS.2.1 _ (by omega)).1) (fun c1 c2 => ?_) (fun c1 c2 => ?_) (fun c1 c2 c3 => ?_) (fun c1 c2 c3 => ?_) (fun c1 c2 c3 => ?_) (fun c1 c2 c3 c4 => ?_) (fun c1 c2 c3 c4 c5 => ?_) (fun c1 c2 c3 c4 => ?_)
    · exact h2 0 (by decide) (by rw [er, if_neg c1, if_neg c2])
    · exact h2 0 (by decide) (by rw [er, if_pos c1, if_pos c2])
    · have := h1 (rClose w) (by rw [er, if_pos c1, if_neg (by omega)])
      unfold rClose at this
      rw [if_neg (by omega)] at this
      rw [nw_up (n := w 40 3 - 1) rfl, nw_up (v := 1) (n := 1) rfl]
      exact this
    · have := h1 (rClose w) (by rw [er, if_pos c1, if_neg (by omega)])
      unfold rClose at this
      rw [if_pos c3] at this
      rw [nw_up (n := w 40 3 - 1) rfl, nw_up (v := 2) (n := 2) rfl]
      exact this
    · exact h2 2 (by decide) (by rw [er, if_neg (by omega), if_pos ⟨c1, c2⟩, if_pos c3])
    · have := h1 (rField w (w 41 (w 40 3 - 1)) (b - 48)) (by rw [er, if_neg (by omega), if_pos ⟨c1, c2⟩, if_neg (by omega)])
      unfold rField at this
      rw [if_pos c4] at this
      rw [nw_add]
      exact this
    · have := h1 (rField w (w 41 (w 40 3 - 1)) (b - 48)) (by rw [er, if_neg (by omega), if_pos ⟨c1, c2⟩, if_neg (by omega)])
      unfold rField fac at this
      rw [if_neg c4, if_neg c5] at this
      rw [nw_add, show nw w 21 (w 33 (w 41 (w 40 3 - 1)) * 4 + (b - 48)) = nI (w 21 (w 33 (w 41 (w 40 3 - 1)) * 4 + (b - 48))) from rfl, show nw w 35 (w 41 (w 40 3 - 1)) = nI (w 35 (w 41 (w 40 3 - 1))) from rfl, nw_up (n := w 21 (w 33 (w 41 (w 40 3 - 1)) * 4 + (b - 48))) rfl, nw_up (n := w 35 (w 41 (w 40 3 - 1)) * 1) (by rw [show (1 : Int32) = nI 1 from rfl, pk_mul]), nw_up (n := w 41 (w 40 3 - 1) * 6 + w 37 (w 41 (w 40 3 - 1))) rfl, nw_up (v := 0) (n := 0) rfl]
      exact this
    · have := h1 (rField w (w 41 (w 40 3 - 1)) (b - 48)) (by rw [er, if_neg (by omega), if_pos ⟨c1, c2⟩, if_neg (by omega)])
      have c4' : w 20 (w 33 (w 41 (w 40 3 - 1)) * 4 + (b - 48)) = 2 := c4
      unfold rField fac at this
      rw [if_neg (by omega), if_pos c4'] at this
      rw [nw_add, show nw w 21 (w 33 (w 41 (w 40 3 - 1)) * 4 + (b - 48)) = nI (w 21 (w 33 (w 41 (w 40 3 - 1)) * 4 + (b - 48))) from rfl, show nw w 35 (w 41 (w 40 3 - 1)) = nI (w 35 (w 41 (w 40 3 - 1))) from rfl, show nw w 22 (w 33 (w 41 (w 40 3 - 1)) * 4 + (b - 48)) = nI (w 22 (w 33 (w 41 (w 40 3 - 1)) * 4 + (b - 48))) from rfl, nw_up (n := w 21 (w 33 (w 41 (w 40 3 - 1)) * 4 + (b - 48))) rfl, nw_up (n := w 35 (w 41 (w 40 3 - 1)) * w 22 (w 33 (w 41 (w 40 3 - 1)) * 4 + (b - 48))) (pk_mul _ _), nw_up (n := w 41 (w 40 3 - 1) * 6 + w 37 (w 41 (w 40 3 - 1))) rfl, nw_up (v := 0) (n := 0) rfl]
      exact this
  · refine x_18e (by show nI (w 40 4) = 2; rw [h4]; rfl) (h2 0 (by decide) ?_)
    unfold rtk
    rw [if_neg (by omega), if_pos h4]
  · have er : rtk w p b = (if b = 123 then (if 20 ≤ w 32 7 ∨ 5 ≤ w 40 3 then .inr 1 else .inl (rNode w p)) else .inr 0) := by
      unfold rtk
      rw [if_pos h4]
    rcases h with ⟨c1, c2, c3, c4, c5, c6⟩ | ⟨c1, c2, c3, c4, c5, c6⟩
    · refine x_18n (σ := nw w) (nd := w 32 7) (lv := w 40 3) hb (by show nI (w 40 4) = 0; rw [h4]; rfl) rfl rfl (by omega) hO1 (by show nI (w 40 7) = -1; rw [c3]; rfl) (fun q => ?_) (fun q1 q2 q3 => ?_) (fun q1 q2 => ?_)
      · exact h2 0 (by decide) (by rw [er, if_neg q])
      · have := h1 (rNode w p) (by rw [er, if_pos q1, if_neg (by omega)])
        unfold rNode at this
        rw [if_pos c3] at this
        rw [nw_opn, nw_up (v := 1) (n := 1) rfl]
        exact this
      · exact h2 1 (by decide) (by rw [er, if_pos q1, if_pos q2])
    · refine x_18s (σ := nw w) (nd := w 32 7) (lv := w 40 3) (s := w 40 7) hb (by show nI (w 40 4) = 0; rw [h4]; rfl) rfl rfl c2.1 hO1 rfl c3 (fun q => ?_) (fun q1 q2 q3 => ?_) (fun q1 q2 => ?_)
      · exact h2 0 (by decide) (by rw [er, if_neg q])
      · have := h1 (rNode w p) (by rw [er, if_pos q1, if_neg (by omega)])
        unfold rNode at this
        rw [if_neg (fun z => by rw [z] at c3; exact absurd c3 (by decide))] at this
        rw [nw_opn, nw_up (n := w 32 7) rfl, nw_up (v := 1) (n := 1) rfl]
        exact this
      · exact h2 1 (by decide) (by rw [er, if_pos q1, if_pos q2])
theorem RIn.w2 {w : WW} {ty : Nat} (h : RIn w ty) : w 40 4 ≤ 2 := by
  rcases h.2.2 with q | q | q <;> omega
theorem l_17 {d ty : Nat} {τ : Nat → Nat → Int64} {t : Int32} {Post : Option Value → Sto → Prop} : ∀ (m p : Nat) (w : WW), RIn w ty → TPc w → p + m = w 30 1 → Post (some (.int (nI (rd m p w).2))) (stt (nw (rd m p w).1) τ) → RU_17 (d + 2) (0, 0) Post 35 [(3, .int (nI p)), (0, .ref 40), (1, .ref 30), (2, .int t)] [] (stt (nw w) τ) 0 0
  | 0, p, w, h, hT, e, hp => by
    have e : p = w 30 1 := e
    subst e
    have w2 := h.w2
    refine s_17e (σ := nw w) (len := w 30 1) rfl hT.1 (fun q => ?_) (fun q => ?_)
    · have q : w 40 4 = 2 := (nI_eq (b := 2) (by omega) (by omega)).mp q
      have hp : Post (some (.int (nI (if w 40 4 = 2 then 0 else 1 + 4 * w 30 1)))) (stt (nw w) τ) := hp
      rw [if_pos q] at hp
      exact hp
    · have q : ¬ w 40 4 = 2 := fun z => q ((nI_eq (b := 2) (by omega) (by omega)).mpr z)
      have hp : Post (some (.int (nI (if w 40 4 = 2 then 0 else 1 + 4 * w 30 1)))) (stt (nw w) τ) := hp
      rw [if_neg q] at hp
      exact hp
  | m + 1, p, w, h, hT, e, hp => by
    have hb := hT.2 p (by have := hT.1; omega)
    rw [rd_s] at hp
    by_cases z : w 31 p = 32
    · rw [if_pos z] at hp
      exact s_17b (σ := nw w) (len := w 30 1) (b := w 31 p) (cp := (0, 0)) rfl hT.1 (by omega) rfl z (l_17 m (p + 1) w h hT (by omega) hp)
    · rw [if_neg z] at hp
      refine s_17t (σ := nw w) (len := w 30 1) (b := w 31 p) rfl hT.1 (by omega) rfl hb z ?_
      refine c_18 h hb (fun u hu => Or.inl ⟨rfl, ?_⟩) (fun c hc hu => Or.inr ⟨c, hc, rfl, ?_⟩)
      · rw [hu] at hp
        have q := rtk_ok h hu
        exact l_17 m (p + 1) u q.1 (hT.fr q.2) (by rw [q.2.1 30 (by decide)]; omega) hp
      · rw [hu] at hp
        exact hp
def rd0 (w : WW) (ty : Nat) : WW := up2 (up2 (up2 (up2 (up2 (up2 w 32 7 0) 40 3 0) 40 4 0) 40 5 ty) 40 6 1) 40 7 N1
theorem rd0_in {w : WW} {ty : Nat} (hS : SO w) (hty : ty < 6) : RIn (rd0 w ty) ty := ⟨hS, ⟨Nat.zero_le _, fun l hl => absurd (show l < 0 from hl) (Nat.not_lt_zero l)⟩, Or.inr (Or.inr ⟨rfl, Or.inl ⟨rfl, rfl, rfl, rfl, rfl, hty⟩⟩)⟩
theorem rd0_fr (w : WW) (ty : Nat) : FRD w (rd0 w ty) := ((((((FRD.rf w).up (Or.inr ⟨rfl, rfl⟩)).up (Or.inl (by decide))).up (Or.inl (by decide))).up (Or.inl (by decide))).up (Or.inl (by decide))).up (Or.inl (by decide))
def aRead (w : WW) (ty : Nat) : WW × Nat := rd (w 30 1) 0 (rd0 w ty)
theorem c_17 {d : Nat} {w : WW} {τ : Nat → Nat → Int64} {ty : Nat} (hS : SO w) (hT : TPc w) (hty : ty < 6) {Post : Option Value → Sto → Prop} (hp : Post (some (.int (nI (aRead w ty).2))) (stt (nw (aRead w ty).1) τ)) : Ex (d + 3) 17 [.ref 40, .ref 30, .int (nI ty)] (stt (nw w) τ) 0 0 Post := by
  refine x_17 (d := d + 2) (σ := nw w) ?_
  unfold c_rd0
  rw [nw_up (v := 0) (n := 0) rfl, nw_up (v := 0) (n := 0) rfl, nw_up (v := 0) (n := 0) rfl, nw_up (n := ty) rfl, nw_up (v := 1) (n := 1) rfl, nw_up (v := -1) (n := N1) rfl]
  exact l_17 (ty := ty) (w 30 1) 0 (rd0 w ty) (rd0_in hS hty) (hT.fr (rd0_fr w ty)) (Nat.zero_add _) hp
/-! ===== reading: the model ===== -/
def TPR (w v : WW) : Prop := v 57 32 = w 30 1 ∧ ∀ i, i < 200 → (nI (v 86 i) &&& 255 = nI (w 31 i)) ∧ (nI (v 86 i) = 32 ↔ w 31 i = 32)
def RMd (w v : WW) (τ : Nat → Nat → Int64) : Prop := v 57 35 = w 32 7 ∧ (∀ n, n < w 32 7 → (v 87 n = w 33 n ∧ v 88 n = w 34 n ∧ v 89 n = w 37 n ∧ τ 92 n = lN (w 35 n)) ∧ ∀ i, i < w 37 n → v 90 (n * 6 + i) = w 38 (n * 6 + i) ∧ v 91 (n * 6 + i) = w 39 (n * 6 + i)) ∧ ∀ l, l < w 40 3 → v 93 l = w 41 l
def FRV (v u : WW) (τ ρ : Nat → Nat → Int64) : Prop := (∀ k, k ≠ 57 → ¬ (87 ≤ k ∧ k ≤ 93) → u k = v k) ∧ (∀ i, i ≠ 33 → i ≠ 34 → i ≠ 35 → u 57 i = v 57 i) ∧ ∀ k, k ≠ 92 → ρ k = τ k
theorem FRV.rf (v : WW) (τ : Nat → Nat → Int64) : FRV v v τ τ := ⟨fun _ _ _ => rfl, fun _ _ _ _ => rfl, fun _ _ => rfl⟩
theorem FRV.tr {v u t : WW} {τ ρ π : Nat → Nat → Int64} (a : FRV v u τ ρ) (b : FRV u t ρ π) : FRV v t τ π := ⟨fun k k1 k2 => (b.1 k k1 k2).trans (a.1 k k1 k2), fun i i1 i2 i3 => (b.2.1 i i1 i2 i3).trans (a.2.1 i i1 i2 i3), fun k hk => (b.2.2 k hk).trans (a.2.2 k hk)⟩
theorem FRV.up {v u : WW} {τ ρ : Nat → Nat → Int64} (h : FRV v u τ ρ) {k i n : Nat} (hk : 87 ≤ k ∧ k ≤ 93 ∨ k = 57 ∧ (i = 33 ∨ i = 34 ∨ i = 35)) : FRV v (up2 u k i n) τ ρ := by
  refine ⟨fun j j1 j2 => ?_, fun j j1 j2 j3 => ?_, h.2.2⟩
  · rw [up2_k _ _ _ _ (show j ≠ k by omega)]; exact h.1 j j1 j2
  · by_cases e : k = 57
    · subst e; rw [up2_d _ _ _ _ (show j ≠ i by omega)]; exact h.2.1 j j1 j2 j3
    · rw [up2_n _ _ _ _ (show 57 ≠ k by omega)]; exact h.2.1 j j1 j2 j3
theorem FRV.upt {v u : WW} {τ ρ : Nat → Nat → Int64} (h : FRV v u τ ρ) {i : Nat} {x : Int64} : FRV v u τ (up2 ρ 92 i x) := ⟨h.1, h.2.1, fun k hk => by rw [up2_k _ _ _ _ hk]; exact h.2.2 k hk⟩
/-- where the next byte that isn't blank stands -/
def nb (w : WW) : Nat → Nat → Nat
  | 0, p => p
  | m + 1, p => if w 31 p = 32 then nb w m (p + 1) else p
theorem nb_ok (w : WW) : ∀ m p, p ≤ nb w m p ∧ nb w m p ≤ p + m ∧ (∀ i, p ≤ i → i < nb w m p → w 31 i = 32) ∧ (nb w m p < p + m → w 31 (nb w m p) ≠ 32)
  | 0, p => ⟨Nat.le_refl _, Nat.le_refl _, fun i h1 h2 => absurd (show i < p from h2) (by omega), fun h => absurd (show p < p + 0 from h) (by omega)⟩
  | m + 1, p => by
    unfold nb
    split
    · obtain ⟨h1, h2, h3, h4⟩ := nb_ok w m (p + 1)
      refine ⟨by omega, by omega, fun i i1 i2 => ?_, fun q => h4 (by omega)⟩
      rcases Nat.lt_or_ge p i with z | z
      · exact h3 i z i2
      · rw [show i = p by omega]; assumption
    · exact ⟨Nat.le_refl _, by omega, fun i h1 h2 => absurd h1 (by omega), fun _ => by assumption⟩
theorem rd_nb (w : WW) : ∀ m p, rd m p w = rd (p + m - nb w m p) (nb w m p) w
  | 0, p => by
    show rd 0 p w = rd (p + 0 - p) p w
    rw [show p + 0 - p = 0 by omega]
  | m + 1, p => by
    unfold nb
    split
    · rename_i z
      rw [rd_s, if_pos z, rd_nb w m (p + 1), show p + 1 + m - nb w m (p + 1) = p + (m + 1) - nb w m (p + 1) by omega]
    · rw [show p + (m + 1) - p = m + 1 by omega]
