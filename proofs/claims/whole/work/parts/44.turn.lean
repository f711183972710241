/-! ===== a helper's turn ===== -/
def HO (w : WW) : Prop := ∀ h, h < 5 → (1 ≤ w (11 + h) 0 ∧ w (11 + h) 0 ≤ 9) ∧ (1 ≤ w (11 + h) 1 ∧ w (11 + h) 1 ≤ 8) ∧ (1 ≤ w (11 + h) 2 ∧ w (11 + h) 2 ≤ 8) ∧ w (11 + h) 3 ≤ 9 ∧ w (11 + h) 4 ≤ 99 ∧ w (11 + h) 5 ≤ 1 ∧ w (11 + h) 6 ≤ 9 ∧ w (11 + h) 7 ≤ 100099 ∧ (w (11 + h) 5 = 1 → 0 < w (11 + h) 3 → w (11 + h) 6 < w (11 + h) 3) ∧ (w (11 + h) 5 = 0 → 0 < w (11 + h) 3)
def CO (w : WW) : Prop := w 42 6 ≤ w 42 5 ∧ (∀ c, c < w 42 5 → w 43 c < 5 ∧ w 45 c ≤ w 1 4 ∧ w 47 c ≤ 3) ∧ (∀ c, c < w 42 6 → w 47 c ≠ 3) ∧ (w 42 6 < w 42 5 → w 47 (w 42 6) = 3)
def TR (w : WW) : Prop := ∀ h, h < 5 → w (11 + h) 8 = N1 ∨ (w (11 + h) 8 < w 42 5 ∧ w 47 (w (11 + h) 8) = 3 ∧ w 43 (w (11 + h) 8) = h ∧ w (11 + h) 5 = 0)
def SP (w : WW) : Prop := w 6 1 ≤ 20 ∧ ∀ j, j < w 6 1 → w 8 j < 5 ∧ w 9 j ≤ 100000 ∧ w 10 j ≤ 100000
/-- a thing is needed by nodes of its type -/
def NB (w : WW) : Prop := ∀ x, x < 192 → ∀ n, (w 52 x).testBit n = true → n < w 32 7 ∧ x / 32 = w 33 n
def MI (w : WW) : Prop := SO w ∧ TO w ∧ KO w ∧ NI w ∧ HO w ∧ CO w ∧ TR w ∧ SP w ∧ NB w
theorem SP.fr {w v : WW} (h : SP w) (e : ∀ k, 6 ≤ k ∧ k < 11 → v k = w k) : SP v := by
  unfold SP
  rw [e 6 (by decide), e 8 (by decide), e 9 (by decide), e 10 (by decide)]
  exact h
theorem NB.fr {w v : WW} (h : NB w) (e : ∀ k, 16 ≤ k ∧ k < 42 → v k = w k) (e2 : v 52 = w 52) : NB v := by
  unfold NB
  rw [e 32 (by decide), e 33 (by decide), e2]
  exact h
theorem NB.mark {w : WW} (h : NB w) {n x : Nat} (hn : n < w 32 7) (hx : x / 32 = w 33 n) : NB (up2 w 52 x (w 52 x ||| 2 ^ n)) := by
  intro y hy m hm
  have hm : (va_up (w 52) x (w 52 x ||| 2 ^ n) y).testBit m = true := hm
  show m < w 32 7 ∧ y / 32 = w 33 m
  unfold va_up at hm
  split at hm
  · rename_i e
    subst e
    rw [fb_bit_set, Bool.or_eq_true, decide_eq_true_eq] at hm
    rcases hm with z | z
    · exact h y hy m z
    · subst z; exact ⟨hn, hx⟩
  · exact h y hy m hm
theorem NB.mk2 {w : WW} (h : NB w) {n x : Nat} (hn : n < w 32 7) (hx : x / 32 = w 33 n) : NB (amk w n x) := by
  unfold amk
  split
  · refine (h.mark hn hx).fr (fun k hk => ?_) ?_
    · exact ((FRN.rf _).meet x).1 k (by omega)
    · unfold aMeet; split
      · rfl
      · split <;> rfl
  · exact h.mark hn hx
theorem need_nb : ∀ (k n x : Nat) (w : WW), SO w → TO w → NB w → OKn w k n x → NB (need k n x w)
  | 0, _, _, _, _, _, h, _ => h
  | k + 1, n, x, w, hS, hT, h, ho => by
    rw [need_s]
    split
    · exact h
    · split
      · unfold fol
        refine (itr_ind (fun _ v => NB v ∧ FRN w v) ⟨h.mk2 ho.1 ho.2.2.1, (FRN.rf w).mark n x⟩ _ (fun i b hi hb => ?_)).1
        unfold folS
        refine itr_ind (fun _ v => NB v ∧ FRN w v) hb _ (fun j b hj hb => ⟨?_, hb.2.tr (need_fr k _ _ b)⟩)
        exact need_nb k _ _ b (hS.fr hb.2.1) (hT.fr hb.2.1) hb.1 ((ho.child hS hT hi hj).fr hb.2.1)
      · exact h.mk2 ho.1 ho.2.2.1
theorem NI.fr {w v : WW} (h : NI w) (e : ∀ k, k = 1 ∨ 16 ≤ k → v k = w k) : NI v := by
  unfold NI
  rw [e 1 (by decide), e 17 (by decide), e 19 (by decide), e 25 (by decide), e 42 (by decide), e 44 (by decide), e 46 (by decide), e 48 (by decide), e 49 (by decide), e 50 (by decide), e 51 (by decide), e 52 (by decide), e 53 (by decide), e 54 (by decide)]
  exact h
theorem SO.fr2 {w v : WW} (h : SO w) (e : ∀ k, 16 ≤ k ∧ k < 42 → v k = w k) : SO v := by
  unfold SO
  rw [e 17 (by decide), e 19 (by decide), e 20 (by decide), e 21 (by decide), e 22 (by decide), e 27 (by decide), e 28 (by decide)]
  exact h
theorem TO.fr2 {w v : WW} (h : TO w) (e : ∀ k, 16 ≤ k ∧ k < 42 → v k = w k) : TO v := by
  unfold TO
  rw [e 20 (by decide), e 21 (by decide), e 32 (by decide), e 33 (by decide), e 36 (by decide), e 37 (by decide), e 38 (by decide), e 39 (by decide)]
  exact h
theorem KO.fr2 {w v : WW} (h : KO w) (e1 : v 1 = w 1) (e2 : v 25 = w 25) : KO v := by
  unfold KO
  rw [e1, e2]
  exact h
theorem HO.fr {w v : WW} (h : HO w) (e : ∀ k, 11 ≤ k ∧ k < 16 → v k = w k) : HO v := by
  intro g hg
  rw [e (11 + g) (by omega)]
  exact h g hg
theorem CO.fr {w v : WW} (h : CO w) (e : ∀ k, k = 1 ∨ k = 42 ∨ k = 43 ∨ k = 45 ∨ k = 47 → v k = w k) : CO v := by
  unfold CO
  rw [e 1 (by decide), e 42 (by decide), e 43 (by decide), e 45 (by decide), e 47 (by decide)]
  exact h
theorem TR.fr {w v : WW} (h : TR w) (e : ∀ k, 11 ≤ k ∧ k < 16 ∨ k = 42 ∨ k = 43 ∨ k = 47 → v k = w k) : TR v := by
  intro g hg
  rw [e (11 + g) (by omega), e 42 (by decide), e 43 (by decide), e 47 (by decide)]
  exact h g hg
/-- need leaves all this -/
theorem MI.need {w v : WW} (h : MI w) (hN : NI v) (hB : NB v) (e : ∀ k, k < 50 → v k = w k) : MI v := by
  obtain ⟨h1, h2, h3, h4, h5, h6, h7, h8, h9⟩ := h
  exact ⟨h1.fr e, h2.fr e, h3.fr e, hN, h5.fr (fun k hk => e k (by omega)), h6.fr (fun k hk => e k (by omega)), h7.fr (fun k hk => e k (by omega)), h8.fr (fun k hk => e k (by omega)), hB⟩
/-- what the making of calls leaves -/
def FRM (w v : WW) : Prop := (∀ k, k < 42 → v k = w k) ∧ v 50 = w 50 ∧ v 52 = w 52 ∧ v 53 = w 53 ∧ v 42 6 = w 42 6 ∧ w 42 5 ≤ v 42 5 ∧ (∀ c, c < w 42 5 → v 43 c = w 43 c ∧ v 44 c = w 44 c ∧ v 45 c = w 45 c ∧ v 47 c = w 47 c) ∧ (∀ c, w 42 5 ≤ c → c < v 42 5 → v 43 c < 5 ∧ v 45 c = w 1 4 ∧ v 47 c = 3) ∧ (∀ k, 54 < k → v k = w k)
theorem FRM.rf (w : WW) : FRM w w := ⟨fun _ _ => rfl, rfl, rfl, rfl, rfl, Nat.le_refl _, fun _ _ => ⟨rfl, rfl, rfl, rfl⟩, fun c h1 h2 => absurd h1 (by omega), fun _ _ => rfl⟩
theorem FRM.tr {u v w : WW} (h : FRM u v) (h2 : FRM v w) : FRM u w := by
  obtain ⟨a1, a2, a3, a4, a5, a6, a7, a8, a9⟩ := h
  obtain ⟨b1, b2, b3, b4, b5, b6, b7, b8, b9⟩ := h2
  refine ⟨fun k hk => (b1 k hk).trans (a1 k hk), b2.trans a2, b3.trans a3, b4.trans a4, b5.trans a5, by omega, fun c hc => ?_, fun c h1 h2 => ?_, fun k hk => (b9 k hk).trans (a9 k hk)⟩
  · have x := a7 c hc
    have y := b7 c (by omega)
    exact ⟨y.1.trans x.1, y.2.1.trans x.2.1, y.2.2.1.trans x.2.2.1, y.2.2.2.trans x.2.2.2⟩
  · by_cases z : c < v 42 5
    · have x := a8 c h1 z
      have y := b7 c z
      rw [y.1, y.2.2.1, y.2.2.2]
      exact x
    · have x := b8 c (by omega) h2
      rw [← a1 1 (by decide)]
      exact x
theorem up2_k {α : Type} (f : Nat → Nat → α) (k i : Nat) (v : α) {a : Nat} (h : a ≠ k) : up2 f k i v a = f a := funext (up2_n f k i v h)
theorem aTake_k (w : WW) (h x : Nat) {k : Nat} (hk : k ≠ 42 ∧ k ≠ 46 ∧ k ≠ 49 ∧ k ≠ 51 ∧ k ≠ 54) : aTake w h x k = w k := by
  unfold aTake aKey
  rw [up2_k _ _ _ _ (by omega), up2_k _ _ _ _ (by omega), up2_k _ _ _ _ (by omega), up2_k _ _ _ _ (by omega), up2_k _ _ _ _ (by omega)]
theorem aBegin_k (w : WW) (h t : Nat) {k : Nat} (hk : k < 42 ∨ 48 < k) : aBegin w h t k = w k := by
  unfold aBegin
  rw [up2_k _ _ _ _ (by omega), up2_k _ _ _ _ (by omega), up2_k _ _ _ _ (by omega), up2_k _ _ _ _ (by omega), up2_k _ _ _ _ (by omega), up2_k _ _ _ _ (by omega), up2_k _ _ _ _ (by omega)]
theorem FRM.take (w : WW) (h x : Nat) : FRM w (aTake w h x) := ⟨fun k hk => aTake_k w h x (by omega), rfl, rfl, rfl, rfl, Nat.le_refl _, fun _ _ => ⟨rfl, rfl, rfl, rfl⟩, fun c h1 h2 => absurd (show c < w 42 5 from h2) (by omega), fun k hk => aTake_k w h x (by omega)⟩
theorem FRM.begin (w : WW) (h t : Nat) (hh : h < 5) : FRM w (aBegin w h t) := by
  refine ⟨fun k hk => aBegin_k w h t (by omega), rfl, rfl, rfl, rfl, show w 42 5 ≤ w 42 5 + 1 by omega, fun c hc => ?_, fun c h1 h2 => ?_, fun k hk => aBegin_k w h t (by omega)⟩
  · exact ⟨va_up_ne _ _ (by omega), va_up_ne _ _ (by omega), va_up_ne _ _ (by omega), va_up_ne _ _ (by omega)⟩
  · have h2 : c < w 42 5 + 1 := h2
    have e : c = w 42 5 := by omega
    subst e
    exact ⟨by show va_up _ _ _ _ < 5; rw [va_up_self]; exact hh, va_up_self _ _ _, va_up_self _ _ _⟩
theorem tkg_fr (b h t : Nat) : ∀ (m q tk : Nat) (w : WW), FRM w (tkg b h t m q tk w) ∧ (tkg b h t m q tk w) 42 5 = w 42 5
  | 0, _, _, w => ⟨FRM.rf w, rfl⟩
  | m + 1, q, tk, w => by
    rw [tkg_s]
    split
    · split
      · have x := tkg_fr b h t m (q + 1) (tk + 1) (aTake w h (w 53 q))
        exact ⟨(FRM.take w h (w 53 q)).tr x.1, x.2⟩
      · exact tkg_fr b h t m (q + 1) tk w
    · exact ⟨FRM.rf w, rfl⟩
theorem mkc_fr (b h : Nat) (hh : h < 5) : ∀ (m q : Nat) (w : WW), FRM w (mkc b h m q w)
  | 0, _, w => FRM.rf w
  | m + 1, q, w => by
    rw [mkc_s]
    split
    · exact ((FRM.begin w h _ hh).tr (FRM.take _ h _)).tr (tkg_fr b h _ m (q + 1) 1 _).1
    · exact mkc_fr b h hh m (q + 1) w
/-- where one waits, a call is made -/
theorem mkc_made (b h : Nat) : ∀ (m q : Nat) (w : WW), (∃ i, q ≤ i ∧ i < q + m ∧ w 51 (w 53 i) = 11 ∧ w 17 (w 53 i / 32) = h) → (mkc b h m q w) 42 5 = w 42 5 + 1 ∧ (mkc b h m q w) 43 (w 42 5) = h
  | 0, _, w => fun ⟨i, h1, h2, _⟩ => absurd h1 (by omega)
  | m + 1, q, w => by
    intro hx
    rw [mkc_s]
    split
    · have x := tkg_fr b h (w 53 q / 32) m (q + 1) 1 (aTake (aBegin w h (w 53 q / 32)) h (w 53 q))
      refine ⟨x.2, ?_⟩
      rw [(x.1.2.2.2.2.2.2.1 (w 42 5) (show w 42 5 < w 42 5 + 1 by omega)).1]
      exact va_up_self _ _ _
    · rename_i hn
      obtain ⟨i, h1, h2, h3⟩ := hx
      refine mkc_made b h m (q + 1) w ⟨i, ?_, by omega, h3⟩
      rcases Nat.lt_or_ge q i with z | z
      · exact z
      · have : i = q := by omega
        subst this
        exact absurd h3 hn
theorem tkg_ni {b h t : Nat} (hb : b ≤ 8) : ∀ (m q tk : Nat) (w : WW), TKG w h t tk → q + m ≤ w 50 1 → NI (tkg b h t m q tk w)
  | 0, _, _, _, H, _ => H.1
  | m + 1, q, tk, w, H, hq => by
    rw [tkg_s]
    split
    · split
      · rename_i h1 h2
        exact tkg_ni hb m (q + 1) (tk + 1) _ (H.take (H.1.2.2.1 q (by omega)).1 h2.1 h2.2 (by omega)).2 (show q + 1 + m ≤ w 50 1 by omega)
      · exact tkg_ni hb m (q + 1) tk w H (by omega)
    · exact H.1
theorem mkc_ni {b h : Nat} (hb : b ≤ 8) : ∀ (m q : Nat) (w : WW), NI w → SO w → q + m ≤ w 50 1 → NI (mkc b h m q w)
  | 0, _, _, H, _, _ => H
  | m + 1, q, w, H, hS, hq => by
    rw [mkc_s]
    split
    · rename_i h1
      exact tkg_ni hb m (q + 1) 1 _ (H.first hS (H.2.2.1 q (by omega)).1 h1.1 h1.2).2 (show q + 1 + m ≤ w 50 1 by omega)
    · exact mkc_ni hb m (q + 1) w H hS (by omega)
theorem aMake_ni {w : WW} {h : Nat} (H : NI w) (hS : SO w) (hb : w (11 + h) 1 ≤ 8) : NI (aMake h w) := by
  have := H.2.2.2.2.2.2.1.1
  exact mkc_ni hb _ _ w H hS (by omega)
theorem CO.mk {w v : WW} (h : CO w) (f : FRM w v) : CO v := by
  obtain ⟨h1, h2, h3, h4⟩ := h
  obtain ⟨a1, a2, a3, a4, a5, a6, a7, a8, a9⟩ := f
  refine ⟨by omega, fun c hc => ?_, fun c hc => ?_, fun hc => ?_⟩
  · rw [a1 1 (by decide)]
    by_cases z : c < w 42 5
    · rw [(a7 c z).1, (a7 c z).2.2.1, (a7 c z).2.2.2]
      exact h2 c z
    · have := a8 c (by omega) hc
      omega
  · rw [(a7 c (by omega)).2.2.2]
    exact h3 c (by omega)
  · rw [a5] at hc ⊢
    by_cases z : w 42 6 < w 42 5
    · rw [(a7 _ z).2.2.2]
      exact h4 z
    · exact (a8 _ (by omega) hc).2.2
theorem TR.mk {w v : WW} (h : TR w) (f : FRM w v) : TR v := by
  obtain ⟨a1, a2, a3, a4, a5, a6, a7, a8, a9⟩ := f
  intro g hg
  rw [a1 (11 + g) (by omega)]
  rcases h g hg with x | ⟨x1, x2, x3, x4⟩
  · exact Or.inl x
  · right
    have := a7 _ x1
    rw [this.1, this.2.2.2]
    exact ⟨by omega, x2, x3, x4⟩
theorem MI.mk {w v : WW} (h : MI w) (f : FRM w v) (hN : NI v) : MI v := by
  obtain ⟨h1, h2, h3, h4, h5, h6, h7, h8, h9⟩ := h
  have e := f.1
  exact ⟨h1.fr2 (fun k hk => e k hk.2), h2.fr2 (fun k hk => e k hk.2), h3.fr2 (e 1 (by decide)) (e 25 (by decide)), hN, h5.fr (fun k hk => e k (by omega)), h6.mk f, h7.mk f, h8.fr (fun k hk => e k (by omega)), h9.fr (fun k hk => e k hk.2) f.2.2.1⟩
/-! ===== refuseAll ===== -/
def rfs (h : Nat) : Nat → Nat → WW → WW
  | 0, _, w => w
  | m + 1, q, w => if w 51 (w 53 q) = 11 ∧ w 17 (w 53 q / 32) = h then rfs h m (q + 1) (up2 w 51 (w 53 q) 4) else rfs h m (q + 1) w
theorem rfs_s (h m q : Nat) (w : WW) : rfs h (m + 1) q w = if w 51 (w 53 q) = 11 ∧ w 17 (w 53 q / 32) = h then rfs h m (q + 1) (up2 w 51 (w 53 q) 4) else rfs h m (q + 1) w := rfl
def aRefuse (h : Nat) (w : WW) : WW := up2 (rfs h (w 50 1 - w 50 9) (w 50 9) w) 54 h 0
theorem NI.drop {w : WW} (H : NI w) (hS : SO w) {x v : Nat} (hx : x < 192) (h0 : w 51 x = 11) (hv : v ≤ 12) (hv0 : v ≠ 0) (hv1 : v ≠ 11) : 1 ≤ w 54 (w 17 (x / 32)) ∧ NI (up2 (up2 w 51 x v) 54 (w 17 (x / 32)) (w 54 (w 17 (x / 32)) - 1)) := by
  obtain ⟨h1, h2, h3, h4, h5, h6, h7, h8, h9⟩ := H
  have d2 := h4.set2 (v := v) hx h0 hv1 (hS.1 (x / 32) (by omega)).1
  exact ⟨d2.1, h1.set hv, h2.set hx hv0, h3.set hv0, d2.2, h5.set hv1, h6, h7.set hv1, h8.set hx (Or.inr (Or.inl h0)), h9.set (Or.inr (Or.inl h0))⟩
theorem rfs_k (h : Nat) : ∀ (m q : Nat) (w : WW) (k : Nat), k ≠ 51 → rfs h m q w k = w k
  | 0, _, _, _, _ => rfl
  | m + 1, q, w, k, hk => by
    rw [rfs_s]
    split
    · rw [rfs_k h m (q + 1) _ k hk, up2_k _ _ _ _ hk]
    · exact rfs_k h m (q + 1) w k hk
/-- in refusing: the things of h that still wait are c -/
def RFI (u : WW) (h q c : Nat) : Prop := NI (up2 u 54 h c) ∧ SO u ∧ h < 5 ∧ ∀ i, i < q → ¬ (u 51 (u 53 i) = 11 ∧ u 17 (u 53 i / 32) = h)
theorem RFI.go {u : WW} {h q c : Nat} (H : RFI u h q c) (hq : q < u 50 1) (hx : u 51 (u 53 q) = 11 ∧ u 17 (u 53 q / 32) = h) : RFI (up2 u 51 (u 53 q) 4) h (q + 1) (c - 1) := by
  obtain ⟨h1, h2, h3, h4⟩ := H
  have d := h1.drop (x := u 53 q) (v := 4) h2 (h1.2.2.1 q hq).1 hx.1 (by decide) (by decide) (by decide)
  have e : (up2 u 54 h c) 17 (u 53 q / 32) = h := hx.2
  rw [e] at d
  refine ⟨?_, h2, h3, fun i hi => ?_⟩
  · have d2 := d.2
    rw [show (up2 u 54 h c) 54 h = c from up2_c u 54 h c] at d2
    rw [show up2 (up2 u 51 (u 53 q) 4) 54 h (c - 1) = up2 (up2 (up2 u 54 h c) 51 (u 53 q) 4) 54 h (c - 1) from ?_]
    · exact d2
    · rw [show up2 (up2 u 54 h c) 51 (u 53 q) 4 = up2 (up2 u 51 (u 53 q) 4) 54 h c from ?_, up2_up2]
      funext a b
      unfold up2 va_up
      by_cases e1 : a = 51
      · subst e1; simp
      · by_cases e2 : a = 54
        · subst e2; simp
        · simp [e1, e2]
  · show ¬ (va_up (u 51) (u 53 q) 4 (u 53 i) = 11 ∧ u 17 (u 53 i / 32) = h)
    unfold va_up
    by_cases z : u 53 i = u 53 q
    · rw [if_pos z]; exact fun y => absurd y.1 (by decide)
    · rw [if_neg z]
      rcases Nat.lt_or_ge i q with y | y
      · exact h4 i y
      · exact absurd (show u 53 i = u 53 q by rw [show i = q by omega]) z
theorem RFI.no {u : WW} {h q c : Nat} (H : RFI u h q c) (hx : ¬ (u 51 (u 53 q) = 11 ∧ u 17 (u 53 q / 32) = h)) : RFI u h (q + 1) c := by
  obtain ⟨h1, h2, h3, h4⟩ := H
  refine ⟨h1, h2, h3, fun i hi => ?_⟩
  rcases Nat.lt_or_ge i q with y | y
  · exact h4 i y
  · rw [show i = q by omega]; exact hx
theorem RFI.end {u : WW} {h c : Nat} (H : RFI u h (u 50 1) c) : NI (up2 u 54 h 0) := by
  obtain ⟨h1, h2, h3, h4⟩ := H
  have hd := h1.2.2.2.1 h h3
  have he := h1.2.2.2.2.1
  have hc : (up2 u 54 h c) 54 h = c := up2_c u 54 h c
  have hz : fb_ct (fun x => u 51 x == 11 && u 17 (x / 32) == h) 192 = 0 := by
    refine fb_ct_zero.mpr (fun x hx => ?_)
    cases hb : (u 51 x == 11 && u 17 (x / 32) == h)
    · rfl
    · rw [Bool.and_eq_true, beq_iff_eq, beq_iff_eq] at hb
      obtain ⟨⟨i, i1, i2, i3⟩, _⟩ := he x hx hb.1
      have i3 : u 53 i = x := i3
      exact absurd (show u 51 (u 53 i) = 11 ∧ u 17 (u 53 i / 32) = h by rw [i3]; exact hb) (h4 i i2)
  have e0 : c = 0 := by rw [← hc, hd]; exact hz
  rw [← e0]
  exact h1
theorem rfs_ni {h : Nat} : ∀ (m q c : Nat) (u : WW), RFI u h q c → q + m = u 50 1 → NI (up2 (rfs h m q u) 54 h 0)
  | 0, q, c, u, H, e => by
    have e : q = u 50 1 := e
    subst e
    exact H.end
  | m + 1, q, c, u, H, e => by
    rw [rfs_s]
    split
    · rename_i hx
      exact rfs_ni m (q + 1) (c - 1) _ (H.go (by omega) hx) (show q + 1 + m = u 50 1 by omega)
    · rename_i hx
      exact rfs_ni m (q + 1) c u (H.no hx) (by omega)
theorem up2_same2 {α : Type} (f : Nat → Nat → α) (k i : Nat) : up2 f k i (f k i) = f := by
  funext a b
  unfold up2 va_up
  by_cases h : a = k
  · subst h
    by_cases h2 : b = i
    · subst h2; simp
    · simp [h2]
  · simp [h]
theorem RFI.beg {w : WW} {h : Nat} (H : NI w) (hS : SO w) (hh : h < 5) : RFI w h (w 50 9) (w 54 h) := by
  refine ⟨by rw [up2_same2]; exact H, hS, hh, fun i hi y => H.2.2.2.2.2.2.1.2 i hi y.1⟩
theorem aRefuse_ni {w : WW} {h : Nat} (H : NI w) (hS : SO w) (hh : h < 5) : NI (aRefuse h w) := by
  have := H.2.2.2.2.2.2.1.1
  exact rfs_ni _ _ _ w (RFI.beg H hS hh) (by omega)
theorem aRefuse_k (h : Nat) (w : WW) {k : Nat} (hk : k ≠ 51 ∧ k ≠ 54) : aRefuse h w k = w k := by
  unfold aRefuse
  rw [up2_k _ _ _ _ hk.2, rfs_k _ _ _ _ _ hk.1]
theorem FRM.refuse (h : Nat) (w : WW) : FRM w (aRefuse h w) := by
  have e : ∀ k, k ≠ 51 ∧ k ≠ 54 → aRefuse h w k = w k := fun k hk => aRefuse_k h w hk
  refine ⟨fun k hk => e k (by omega), e 50 (by decide), e 52 (by decide), e 53 (by decide), by rw [e 42 (by decide)], by rw [e 42 (by decide)]; exact Nat.le_refl _, fun c _ => by rw [e 43 (by decide), e 44 (by decide), e 45 (by decide), e 47 (by decide)]; exact ⟨rfl, rfl, rfl, rfl⟩, fun c h1 h2 => ?_, fun k hk => e k (by omega)⟩
  rw [e 42 (by decide)] at h2
  omega
set_option maxRecDepth 20000 in
theorem l_30 {d a h : Nat} {τ : Nat → Nat → Int64} {Post : Option Value → Sto → Prop} : ∀ (nn : Nat) (q c : Nat) (w : WW), RFI w h q c → w 50 1 = a → q ≤ a → Post none (stt (nw (up2 (rfs h (a - q) q w) 54 h 0)) τ) → a - q < nn → RU_30 d (0, 0) Post 5 [(2, .int (nI q)), (0, .ref 50), (1, .int (nI h))] [] (stt (nw w) τ) 0 0 := by
  intro nn
  induction nn with
  | zero => intro q c w H ha hq hp hms; exact absurd hms (by omega)
  | succ nn ih =>
    intro q c w H ha hq hp hms
    have hh := H.2.2.1
    have ha3 : w 50 1 ≤ 192 := by have h0 : NIb (w 50 1) (w 51) := H.1.2.1; unfold NIb at h0; omega
    refine R_seg sg_30_5 sk_30_5 (pc' := 10) (lv' := [(2, .int (nI q)), (0, .ref 50), (1, .int (nI h))]) (st' := [.int (nI (w 50 1)), .int (nI q)]) (S' := stt (nw w) τ) (kc' := 0) (ks' := 0) rfl ⟨trivial, trivial, rfl, trivial⟩ ?_
    refine R_icmp ck_30_10 (fun (c_10 : (nI (w 50 1)) ≤ (nI q)) => ?_) (fun (c_10 : ¬ (nI (w 50 1)) ≤ (nI q)) => ?_)
    · have c_10 : (w 50 1) ≤ q := (nI_leI (a := (w 50 1)) (b := q) (by omega) (by omega)).mp c_10
      refine R_seg sg_30_60 sk_30_60 (pc' := 66) (lv' := [(2, .int (nI q)), (0, .ref 50), (1, .int (nI h))]) (st' := [.int 0, .int (nI h), .ref 54]) (S' := stt (nw w) τ) (kc' := 0) (ks' := 0) rfl ⟨trivial, rfl, trivial, trivial, trivial⟩ ?_
      refine R_iast ca_30_66 (j := h) rfl rfl (by omega) ?_
      show RU_30 d (0, 0) Post 67 ([(2, .int (nI q)), (0, .ref 50), (1, .int (nI h))]) ([]) (stt (up2 (nw w) 54 h 0) τ) 0 0
      rw [nw_up (w := w) (k := 54) (i := h) (v := 0) (n := 0) rfl]
      refine R_ret ck_30_67 rfl ?_
      rw [show a - q = 0 by omega] at hp
      exact hp
    · have c_10 : q < (w 50 1) := Nat.not_le.mp (fun zq => c_10 ((nI_leI (a := (w 50 1)) (b := q) (by omega) (by omega)).mpr zq))
      obtain ⟨m, em⟩ : ∃ m, a - q = m + 1 := ⟨a - q - 1, by omega⟩
      rw [em] at hp
      have em2 : m = a - (q + 1) := by omega
      subst em2
      have hxq : w 53 q < 192 := (H.1.2.2.1 q c_10).1
      have b51 : w 51 (w 53 q) ≤ 12 := H.1.1 (w 53 q) hxq
      have b17 := (H.2.1.1 (w 53 q / 32) (by omega)).1
      refine R_seg sg_30_13 sk_30_13 (pc' := 18) (lv' := [(2, .int (nI q)), (0, .ref 50), (1, .int (nI h))]) (st' := [.int (nI q), .ref 53]) (S' := stt (nw w) τ) (kc' := 0) (ks' := 0) rfl ⟨trivial, rfl, trivial, trivial⟩ ?_
      refine R_iald ca_30_18 (j := q) rfl rfl (by omega) ?_
      refine R_seg sg_30_19 sk_30_19 (pc' := 25) (lv' := [(3, .int (nI (w 53 q))), (2, .int (nI q)), (0, .ref 50), (1, .int (nI h))]) (st' := [.int (nI (w 53 q)), .ref 51]) (S' := stt (nw w) τ) (kc' := 0) (ks' := 0) rfl ⟨(by decide), trivial, rfl, trivial, trivial⟩ ?_
      refine R_iald ca_30_25 (j := w 53 q) rfl rfl (by omega) ?_
      refine R_seg sg_30_26 sk_30_26 (pc' := 28) (lv' := [(3, .int (nI (w 53 q))), (2, .int (nI q)), (0, .ref 50), (1, .int (nI h))]) (st' := [.int 11, .int (nI (w 51 (w 53 q)))]) (S' := stt (nw w) τ) (kc' := 0) (ks' := 0) rfl ⟨trivial, trivial⟩ ?_
      refine R_icmp ck_30_28 (fun (c_28 : ¬ (nI (w 51 (w 53 q))) = 11) => ?_) (fun (c_28 : ¬ ¬ (nI (w 51 (w 53 q))) = 11) => ?_)
      · have c_28 : ¬ (w 51 (w 53 q)) = 11 := fun zq => c_28 ((nI_eq (a := (w 51 (w 53 q))) (b := 11) (by omega) (by omega)).mpr zq)
        refine R_seg sg_30_54 sk_30_54 (pc' := 57) (lv' := [(2, .int ((nI q) + 1)), (3, .int (nI (w 53 q))), (0, .ref 50), (1, .int (nI h))]) (st' := []) (S' := stt (nw w) τ) (kc' := 0) (ks' := 0) rfl ⟨(by decide), trivial⟩ ?_
        refine R_goto ck_30_57 ?_
        refine Runs.lv (lv := [(2, .int ((nI q) + 1)), (0, .ref 50), (1, .int (nI h))]) ?_ _ (lvS_l (show ([2, 0, 1] : List Nat).Nodup from by decide) (by intro q hq; simp only [List.mem_cons, List.not_mem_nil, or_false] at hq; rcases hq with rfl | rfl | rfl <;> rfl))
        rw [nI_1 q]
        exact ih (q + 1) c w (H.no (by first | exact fun z => c_28 z.1 | exact fun z => c_44 z.2)) ha (by omega) (by first | (rw [rfs_s, if_neg (fun z => c_28 z.1)] at hp; exact hp) | (rw [rfs_s, if_neg (fun z => c_44 z.2)] at hp; exact hp)) (by omega)
      · have c_28 : (w 51 (w 53 q)) = 11 := (nI_eq (a := (w 51 (w 53 q))) (b := 11) (by omega) (by omega)).mp (Classical.not_not.mp c_28)
        refine R_seg sg_30_31 sk_30_31 (pc' := 42) (lv' := [(3, .int (nI (w 53 q))), (2, .int (nI q)), (0, .ref 50), (1, .int (nI h))]) (st' := [.int ((nI (w 53 q)) / 32), .ref 17]) (S' := stt (nw w) τ) (kc' := 0) (ks' := 0) rfl ⟨trivial, rfl, rfl, trivial, trivial, (by decide), trivial⟩ ?_
        rw [show nI (w 53 q) / 32 = nI (w 53 q / 32) from pk_div (d := 32) (by omega) (by omega) (by omega)]
        refine R_iald ca_30_42 (j := w 53 q / 32) rfl rfl (by omega) ?_
        refine R_seg sg_30_43 sk_30_43 (pc' := 44) (lv' := [(3, .int (nI (w 53 q))), (2, .int (nI q)), (0, .ref 50), (1, .int (nI h))]) (st' := [.int (nI h), .int (nI (w 17 (w 53 q / 32)))]) (S' := stt (nw w) τ) (kc' := 0) (ks' := 0) rfl ⟨trivial, trivial⟩ ?_
        refine R_icmp ck_30_44 (fun (c_44 : ¬ (nI (w 17 (w 53 q / 32))) = (nI h)) => ?_) (fun (c_44 : ¬ ¬ (nI (w 17 (w 53 q / 32))) = (nI h)) => ?_)
        · have c_44 : ¬ (w 17 (w 53 q / 32)) = h := fun zq => c_44 ((nI_eq (a := (w 17 (w 53 q / 32))) (b := h) (by omega) (by omega)).mpr zq)
          refine R_seg sg_30_54 sk_30_54 (pc' := 57) (lv' := [(2, .int ((nI q) + 1)), (3, .int (nI (w 53 q))), (0, .ref 50), (1, .int (nI h))]) (st' := []) (S' := stt (nw w) τ) (kc' := 0) (ks' := 0) rfl ⟨(by decide), trivial⟩ ?_
          refine R_goto ck_30_57 ?_
          refine Runs.lv (lv := [(2, .int ((nI q) + 1)), (0, .ref 50), (1, .int (nI h))]) ?_ _ (lvS_l (show ([2, 0, 1] : List Nat).Nodup from by decide) (by intro q hq; simp only [List.mem_cons, List.not_mem_nil, or_false] at hq; rcases hq with rfl | rfl | rfl <;> rfl))
          rw [nI_1 q]
          exact ih (q + 1) c w (H.no (by first | exact fun z => c_28 z.1 | exact fun z => c_44 z.2)) ha (by omega) (by first | (rw [rfs_s, if_neg (fun z => c_28 z.1)] at hp; exact hp) | (rw [rfs_s, if_neg (fun z => c_44 z.2)] at hp; exact hp)) (by omega)
        · have c_44 : (w 17 (w 53 q / 32)) = h := (nI_eq (a := (w 17 (w 53 q / 32))) (b := h) (by omega) (by omega)).mp (Classical.not_not.mp c_44)
          refine R_seg sg_30_47 sk_30_47 (pc' := 53) (lv' := [(3, .int (nI (w 53 q))), (2, .int (nI q)), (0, .ref 50), (1, .int (nI h))]) (st' := [.int 4, .int (nI (w 53 q)), .ref 51]) (S' := stt (nw w) τ) (kc' := 0) (ks' := 0) rfl ⟨trivial, rfl, trivial, trivial, trivial⟩ ?_
          refine R_iast ca_30_53 (j := w 53 q) rfl rfl (by omega) ?_
          show RU_30 d (0, 0) Post 54 ([(3, .int (nI (w 53 q))), (2, .int (nI q)), (0, .ref 50), (1, .int (nI h))]) ([]) (stt (up2 (nw w) 51 (w 53 q) 4) τ) 0 0
          rw [nw_up (w := w) (k := 51) (i := (w 53 q)) (v := 4) (n := 4) rfl]
          refine R_seg sg_30_54 sk_30_54 (pc' := 57) (lv' := [(2, .int ((nI q) + 1)), (3, .int (nI (w 53 q))), (0, .ref 50), (1, .int (nI h))]) (st' := []) (S' := stt (nw (up2 w 51 (w 53 q) 4)) τ) (kc' := 0) (ks' := 0) rfl ⟨(by decide), trivial⟩ ?_
          refine R_goto ck_30_57 ?_
          refine Runs.lv (lv := [(2, .int ((nI q) + 1)), (0, .ref 50), (1, .int (nI h))]) ?_ _ (lvS_l (show ([2, 0, 1] : List Nat).Nodup from by decide) (by intro q hq; simp only [List.mem_cons, List.not_mem_nil, or_false] at hq; rcases hq with rfl | rfl | rfl <;> rfl))
          rw [nI_1 q]
          exact ih (q + 1) (c - 1) _ (H.go (by omega) ⟨c_28, c_44⟩) ha (by omega) (by rw [rfs_s, if_pos ⟨c_28, c_44⟩] at hp; exact hp) (by omega)
set_option maxRecDepth 20000 in
theorem c_30 {d : Nat} {w : WW} {τ : Nat → Nat → Int64} {h : Nat} {Post : Option Value → Sto → Prop} (hh : h < 5) (H : NI w) (hS : SO w) (hp : Post none (stt (nw (aRefuse h w)) τ)) : Ex (d + 1) 30 [.ref 50, .int (nI h)] (stt (nw w) τ) 0 0 Post := by
  refine en_30 (Nat.le_of_ble_eq_true rfl) ?_
  show RU_30 d (0, 0) Post 0 ([(0, .ref 50), (1, .int (nI h))]) ([]) (stt (nw w) τ) 0 0
  refine R_seg sg_30_0 sk_30_0 (pc' := 5) (lv' := [(2, .int (nI (w 50 9))), (0, .ref 50), (1, .int (nI h))]) (st' := []) (S' := stt (nw w) τ) (kc' := 0) (ks' := 0) rfl ⟨trivial, rfl, (by decide), trivial⟩ ?_
  exact l_30 (a := w 50 1) (w 50 1 - w 50 9 + 1) (w 50 9) (w 54 h) w (RFI.beg H hS hh) rfl H.2.2.2.2.2.2.1.1 hp (by omega)
/-! ===== turnTo ===== -/
def mks (h : Nat) : Nat → WW → WW
  | 0, w => w
  | m + 1, w => if 0 < w 54 h then mks h m (aMake h w) else w
theorem mks_s (h m : Nat) (w : WW) : mks h (m + 1) w = if 0 < w 54 h then mks h m (aMake h w) else w := rfl
def aTurn (h : Nat) (w : WW) : WW := if w (11 + h) 5 = 0 ∧ w 1 4 < w (11 + h) 7 then aRefuse h w else if w (11 + h) 5 = 0 then (if w (11 + h) 8 = N1 then aMake h (up2 w (11 + h) 8 (w 42 5)) else w) else mks h (w (11 + h) 2) w
theorem aMake_fr {w : WW} {h : Nat} (hh : h < 5) : FRM w (aMake h w) := mkc_fr _ h hh _ _ w
theorem mks_mi {h : Nat} (hh : h < 5) : ∀ (m : Nat) (w : WW), NI w → SO w → w (11 + h) 1 ≤ 8 → NI (mks h m w) ∧ FRM w (mks h m w)
  | 0, w, H, _, _ => ⟨H, FRM.rf w⟩
  | m + 1, w, H, hS, hb => by
    rw [mks_s]
    split
    · have f := aMake_fr (w := w) hh
      have x := mks_mi hh m (aMake h w) (aMake_ni H hS hb) (hS.fr2 (fun k hk => f.1 k hk.2)) (by rw [f.1 (11 + h) (by omega)]; exact hb)
      exact ⟨x.1, f.tr x.2⟩
    · exact ⟨H, FRM.rf w⟩
theorem aTurn_mi {w : WW} {h : Nat} (hh : h < 5) (M : MI w) (h0 : 0 < w 54 h) : MI (aTurn h w) := by
  obtain ⟨h1, h2, h3, h4, h5, h6, h7, h8, h9⟩ := id M
  have hH := h5 h hh
  unfold aTurn
  split
  · exact M.mk (FRM.refuse h w) (aRefuse_ni h4 h1 hh)
  · split
    · rename_i hc
      split
      · rename_i ht
        have e : ∀ k, k ≠ 11 + h → (up2 w (11 + h) 8 (w 42 5)) k = w k := fun k hk => up2_k _ _ _ _ hk
        have eb : (up2 w (11 + h) 8 (w 42 5)) (11 + h) 1 = w (11 + h) 1 := up2_d _ _ _ _ (by decide)
        have n1 : NI (up2 w (11 + h) 8 (w 42 5)) := h4.fr (fun k hk => e k (by omega))
        have s1 : SO (up2 w (11 + h) 8 (w 42 5)) := h1.fr2 (fun k hk => e k (by omega))
        have f := aMake_fr (w := up2 w (11 + h) 8 (w 42 5)) hh
        have nn := aMake_ni n1 s1 (by rw [eb]; exact hH.2.1.2)
        have e42 : (up2 w (11 + h) 8 (w 42 5)) 42 = w 42 := e 42 (by omega)
        have hmade : ∃ i, w 50 9 ≤ i ∧ i < w 50 9 + (w 50 1 - w 50 9) ∧ w 51 (w 53 i) = 11 ∧ w 17 (w 53 i / 32) = h := by
          have hd := h4.2.2.2.1 h hh
          rw [hd] at h0
          obtain ⟨x, hx, hb⟩ := fb_ct_pos.mp h0
          rw [Bool.and_eq_true, beq_iff_eq, beq_iff_eq] at hb
          obtain ⟨⟨i, i1, i2, i3⟩, _⟩ := h4.2.2.2.2.1 x hx hb.1
          have := h4.2.2.2.2.2.2.1.1
          exact ⟨i, i1, by omega, by rw [i3]; exact hb.1, by rw [i3]; exact hb.2⟩
        have md := mkc_made ((up2 w (11 + h) 8 (w 42 5)) (11 + h) 1) h ((up2 w (11 + h) 8 (w 42 5)) 50 1 - (up2 w (11 + h) 8 (w 42 5)) 50 9) ((up2 w (11 + h) 8 (w 42 5)) 50 9) (up2 w (11 + h) 8 (w 42 5)) (by rw [e 50 (by omega), e 51 (by omega), e 53 (by omega), e 17 (by omega)]; exact hmade)
        rw [e42] at md
        have md : (aMake h (up2 w (11 + h) 8 (w 42 5))) 42 5 = w 42 5 + 1 ∧ (aMake h (up2 w (11 + h) 8 (w 42 5))) 43 (w 42 5) = h := md
        have f8 := f.2.2.2.2.2.2.2.1
        rw [e42] at f8
        have f9 := f8 (w 42 5) (Nat.le_refl _) (by rw [md.1]; omega)
        refine ⟨s1.fr2 (fun k hk => f.1 k hk.2), h2.fr2 (fun k hk => (f.1 k hk.2).trans (e k (by omega))), h3.fr2 ((f.1 1 (by decide)).trans (e 1 (by omega))) ((f.1 25 (by decide)).trans (e 25 (by omega))), nn, ?_, (h6.fr (fun k hk => e k (by omega))).mk f, ?_, h8.fr (fun k hk => (f.1 k (by omega)).trans (e k (by omega))), h9.fr (fun k hk => (f.1 k hk.2).trans (e k (by omega))) (f.2.2.1.trans (e 52 (by omega)))⟩
        · intro g hg
          rw [f.1 (11 + g) (by omega)]
          by_cases z : g = h
          · subst z
            rw [eb, up2_d _ _ _ _ (show 0 ≠ 8 by decide), up2_d _ _ _ _ (show 2 ≠ 8 by decide), up2_d _ _ _ _ (show 3 ≠ 8 by decide), up2_d _ _ _ _ (show 4 ≠ 8 by decide), up2_d _ _ _ _ (show 5 ≠ 8 by decide), up2_d _ _ _ _ (show 6 ≠ 8 by decide), up2_d _ _ _ _ (show 7 ≠ 8 by decide)]
            exact hH
          · rw [e (11 + g) (by omega)]
            exact h5 g hg
        · intro g hg
          rw [f.1 (11 + g) (by omega)]
          by_cases z : g = h
          · subst z
            right
            rw [up2_c, up2_d _ _ _ _ (show 5 ≠ 8 by decide), md.1, md.2]
            exact ⟨by omega, f9.2.2, rfl, hc⟩
          · rw [e (11 + g) (by omega)]
            rcases h7 g hg with y | ⟨y1, y2, y3, y4⟩
            · exact Or.inl y
            · right
              have f7 := f.2.2.2.2.2.2.1
              rw [e42, e 43 (by omega), e 47 (by omega)] at f7
              have := f7 _ y1
              rw [this.1, this.2.2.2, md.1]
              exact ⟨by omega, y2, y3, y4⟩
      · exact M
    · have x := mks_mi hh (w (11 + h) 2) w h4 h1 hH.2.1.2
      exact M.mk x.2 x.1
set_option maxRecDepth 20000 in
theorem l_29 {d h r : Nat} {τ : Nat → Nat → Int64} {Post : Option Value → Sto → Prop} (hh : h < 5) (hr8 : r ≤ 8) : ∀ (nn : Nat) (i : Nat) (w : WW), NI w → SO w → 1 ≤ w (11 + h) 1 ∧ w (11 + h) 1 ≤ 8 → w (11 + h) 2 = r → i ≤ r → Post none (stt (nw (mks h (r - i) w)) τ) → r - i < nn → RU_29 (d + 2) (0, 0) Post 41 [(3, .int (nI i)), (2, .ref (11 + h)), (0, .ref 50), (1, .int (nI h))] [] (stt (nw w) τ) 0 0 := by
  intro nn
  induction nn with
  | zero => intro i w H hS hb hr hi hp hms; exact absurd hms (by omega)
  | succ nn ih =>
    intro i w H hS hb hr hi hp hms
    have b54 : w 54 h ≤ 192 := by rw [H.2.2.2.1 h hh]; exact fb_ct_le _ _
    refine R_seg sg_29_41 sk_29_41 (pc' := 46) (lv' := [(3, .int (nI i)), (2, .ref (11 + h)), (0, .ref 50), (1, .int (nI h))]) (st' := [.int (nI (w (11 + h) 2)), .int (nI i)]) (S' := stt (nw w) τ) (kc' := 0) (ks' := 0) rfl ⟨trivial, trivial, (kd_help hh), trivial⟩ ?_
    refine R_icmp ck_29_46 (fun (c_46 : (nI (w (11 + h) 2)) ≤ (nI i)) => ?_) (fun (c_46 : ¬ (nI (w (11 + h) 2)) ≤ (nI i)) => ?_)
    · have c_46 : (w (11 + h) 2) ≤ i := (nI_leI (a := (w (11 + h) 2)) (b := i) (by omega) (by omega)).mp c_46
      refine R_goto ck_29_73 ?_
      refine R_ret ck_29_104 rfl ?_
      first | (rw [show r - i = 0 by omega] at hp; exact hp) | (rw [mks_s, if_neg (by omega)] at hp; exact hp)
    · have c_46 : i < (w (11 + h) 2) := Nat.not_le.mp (fun zq => c_46 ((nI_leI (a := (w (11 + h) 2)) (b := i) (by omega) (by omega)).mpr zq))
      obtain ⟨m, em⟩ : ∃ m, r - i = m + 1 := ⟨r - i - 1, by omega⟩
      rw [em] at hp
      have em2 : m = r - (i + 1) := by omega
      subst em2
      refine R_seg sg_29_49 sk_29_49 (pc' := 54) (lv' := [(3, .int (nI i)), (2, .ref (11 + h)), (0, .ref 50), (1, .int (nI h))]) (st' := [.int (nI h), .ref 54]) (S' := stt (nw w) τ) (kc' := 0) (ks' := 0) rfl ⟨trivial, rfl, trivial, trivial⟩ ?_
      refine R_iald ca_29_54 (j := h) rfl rfl (by omega) ?_
      refine R_if ck_29_55 (fun (c_55 : (nI (w 54 h)) ≤ 0) => ?_) (fun (c_55 : ¬ (nI (w 54 h)) ≤ 0) => ?_)
      · have c_55 : (w 54 h) ≤ 0 := (nI_leI (a := (w 54 h)) (b := 0) (by omega) (by omega)).mp c_55
        refine R_goto ck_29_73 ?_
        refine R_ret ck_29_104 rfl ?_
        first | (rw [show r - i = 0 by omega] at hp; exact hp) | (rw [mks_s, if_neg (by omega)] at hp; exact hp)
      · have c_55 : 0 < (w 54 h) := Nat.not_le.mp (fun zq => c_55 ((nI_leI (a := (w 54 h)) (b := 0) (by omega) (by omega)).mpr zq))
        have f := aMake_fr (w := w) hh
        refine R_seg sg_29_58 sk_29_58 (pc' := 64) (lv' := [(3, .int (nI i)), (2, .ref (11 + h)), (0, .ref 50), (1, .int (nI h))]) (st' := [.int (nI (w (11 + h) 1)), .int (nI h), .ref 50]) (S' := stt (nw w) τ) (kc' := 0) (ks' := 0) rfl ⟨trivial, trivial, trivial, (kd_help hh), trivial⟩ ?_
        refine R_virt ck_29_64 50 [.int (nI h), .int (nI (w (11 + h) 1))] 0 0 (r := []) rfl rfl rfl (Nat.le_of_ble_eq_true rfl) (Nat.le_refl _) (Nat.le_refl _) ?_
        refine c_31 (d := d) (w := w) hb.1 hb.2 hh H hS ?_
        show RU_29 (d + 2) (0, 0) Post 67 ([(3, .int (nI i)), (2, .ref (11 + h)), (0, .ref 50), (1, .int (nI h))]) ([]) (stt (nw (aMake h w)) τ) 0 0
        refine R_seg sg_29_67 sk_29_67 (pc' := 70) (lv' := [(3, .int ((nI i) + 1)), (2, .ref (11 + h)), (0, .ref 50), (1, .int (nI h))]) (st' := []) (S' := stt (nw (aMake h w)) τ) (kc' := 0) (ks' := 0) rfl ⟨(by decide), trivial⟩ ?_
        refine R_goto ck_29_70 ?_
        refine Runs.lv (lv := [(3, .int ((nI i) + 1)), (2, .ref (11 + h)), (0, .ref 50), (1, .int (nI h))]) ?_ _ (lvS_l (show ([3, 2, 0, 1] : List Nat).Nodup from by decide) (by intro q hq; simp only [List.mem_cons, List.not_mem_nil, or_false] at hq; rcases hq with rfl | rfl | rfl | rfl <;> rfl))
        rw [nI_1 i]
        exact ih (i + 1) (aMake h w) (aMake_ni H hS hb.2) (hS.fr2 (fun k hk => f.1 k hk.2)) (by rw [f.1 (11 + h) (by omega)]; exact hb) (by rw [f.1 (11 + h) (by omega)]; exact hr) (by omega) (by rw [mks_s, if_pos c_55] at hp; exact hp) (by omega)
set_option maxRecDepth 20000 in
theorem c_29 {d : Nat} {w : WW} {τ : Nat → Nat → Int64} {h : Nat} {Post : Option Value → Sto → Prop} (hh : h < 5) (M : MI w) (hp : Post none (stt (nw (aTurn h w)) τ)) : Ex (d + 3) 29 [.ref 50, .int (nI h)] (stt (nw w) τ) 0 0 Post := by
  obtain ⟨h1, h2, h3, h4, h5, h6, h7, h8, h9⟩ := id M
  have hH := h5 h hh
  have hk1 := h3.1
  have hkk := h4.2.2.2.2.2.2.2.1
  have hk3 : w 42 9 ≤ 192 := by unfold NIk at hkk; omega
  have hl := h4.2.2.2.2.2.2.2.2.1
  have h8b : w (11 + h) 8 < 2147483648 ∨ w (11 + h) 8 = N1 := by rcases h7 h hh with z | z; exact Or.inr z; exact Or.inl (by omega)
  unfold aTurn at hp
  refine en_29 (Nat.le_of_ble_eq_true rfl) ?_
  show RU_29 (d + 2) (0, 0) Post 0 ([(0, .ref 50), (1, .int (nI h))]) ([]) (stt (nw w) τ) 0 0
  refine R_seg sg_29_0 sk_29_0 (pc' := 8) (lv' := [(0, .ref 50), (1, .int (nI h))]) (st' := [.int (nI h), .ref 7]) (S' := stt (nw w) τ) (kc' := 0) (ks' := 0) rfl ⟨trivial, rfl, rfl, trivial, trivial⟩ ?_
  refine R_aald ca_29_8 (j := h) (k' := 11 + h) rfl rfl (by omega) (rh_each (by omega)) ?_
  refine R_seg sg_29_9 sk_29_9 (pc' := 18) (lv' := [(2, .ref (11 + h)), (0, .ref 50), (1, .int (nI h))]) (st' := [.int (nI (w 1 4)), .ref (11 + h)]) (S' := stt (nw w) τ) (kc' := 0) (ks' := 0) rfl ⟨(by decide), trivial, trivial, rfl, rfl, trivial⟩ ?_
  refine R_virt ck_29_18 (11 + h) [.int (nI (w 1 4))] 0 0 (r := []) rfl rfl (kd_help hh) (Nat.le_of_ble_eq_true rfl) (Nat.le_refl _) (Nat.le_refl _) ?_
  refine x_10 (d := d + 1) (kd_help hh) (fun a_1 a_2 => ?_) (fun a_n => ?_)
  · have op : w (11 + h) 5 = 0 ∧ w 1 4 < w (11 + h) 7 := ⟨(nI_eq (a := w (11 + h) 5) (b := 0) (by omega) (by omega)).mp a_1, Nat.not_le.mp (fun z => a_2 ((nI_leI (a := w (11 + h) 7) (b := w 1 4) (by omega) (by omega)).mpr z))⟩
    show RU_29 (d + 2) (0, 0) Post 21 ([(2, .ref (11 + h)), (0, .ref 50), (1, .int (nI h))]) ([.int 1]) (stt (nw w) τ) 0 0
    refine R_if ck_29_21 (fun c => absurd c (show ¬ (1 : Int32) = 0 from by decide)) (fun _ => ?_)
    refine R_seg sg_29_24 sk_29_24 (pc' := 26) (lv' := [(2, .ref (11 + h)), (0, .ref 50), (1, .int (nI h))]) (st' := [.int (nI h), .ref 50]) (S' := stt (nw w) τ) (kc' := 0) (ks' := 0) rfl ⟨trivial, trivial, trivial⟩ ?_
    refine R_virt ck_29_26 50 [.int (nI h)] 0 0 (r := []) rfl rfl rfl (Nat.le_of_ble_eq_true rfl) (Nat.le_refl _) (Nat.le_refl _) ?_
    refine c_30 (d := d + 1) hh h4 h1 ?_
    show RU_29 (d + 2) (0, 0) Post 29 ([(2, .ref (11 + h)), (0, .ref 50), (1, .int (nI h))]) ([]) (stt (nw (aRefuse h w)) τ) 0 0
    refine R_goto ck_29_29 ?_
    refine R_ret ck_29_104 rfl ?_
    rw [if_pos op] at hp
    exact hp
  · have op : ¬ (w (11 + h) 5 = 0 ∧ w 1 4 < w (11 + h) 7) := fun z => a_n ⟨(nI_eq (a := w (11 + h) 5) (b := 0) (by omega) (by omega)).mpr z.1, fun y => absurd ((nI_leI (a := w (11 + h) 7) (b := w 1 4) (by omega) (by omega)).mp y) (by omega)⟩
    show RU_29 (d + 2) (0, 0) Post 21 ([(2, .ref (11 + h)), (0, .ref 50), (1, .int (nI h))]) ([.int 0]) (stt (nw w) τ) 0 0
    refine R_if ck_29_21 (fun _ => ?_) (fun c => absurd (show (0 : Int32) = 0 from by decide) c)
    refine R_seg sg_29_32 sk_29_32 (pc' := 36) (lv' := [(2, .ref (11 + h)), (0, .ref 50), (1, .int (nI h))]) (st' := [.int (nI (w (11 + h) 5))]) (S' := stt (nw w) τ) (kc' := 0) (ks' := 0) rfl ⟨trivial, (kd_help hh), trivial⟩ ?_
    refine R_if ck_29_36 (fun (c_36 : (nI (w (11 + h) 5)) = 0) => ?_) (fun (c_36 : ¬ (nI (w (11 + h) 5)) = 0) => ?_)
    · have c_36 : (w (11 + h) 5) = 0 := (nI_eq (a := (w (11 + h) 5)) (b := 0) (by omega) (by omega)).mp c_36
      refine R_seg sg_29_76 sk_29_76 (pc' := 81) (lv' := [(2, .ref (11 + h)), (0, .ref 50), (1, .int (nI h))]) (st' := [.int (-1), .int (nI (w (11 + h) 8))]) (S' := stt (nw w) τ) (kc' := 0) (ks' := 0) rfl ⟨trivial, (kd_help hh), trivial, trivial⟩ ?_
      refine R_icmp ck_29_81 (fun (c_81 : ¬ (nI (w (11 + h) 8)) = (-1)) => ?_) (fun (c_81 : ¬ ¬ (nI (w (11 + h) 8)) = (-1)) => ?_)
      · have c_81 : ¬ w (11 + h) 8 = N1 := fun z => c_81 ((nI_N1 h8b).mpr z)
        refine R_ret ck_29_104 rfl ?_
        rw [if_neg op, if_pos c_36, if_neg c_81] at hp
        exact hp
      · have c_81 : w (11 + h) 8 = N1 := (nI_N1 h8b).mp (Classical.not_not.mp c_81)
        have e : ∀ k, k ≠ 11 + h → (up2 w (11 + h) 8 (w 42 5)) k = w k := fun k hk => up2_k _ _ _ _ hk
        have eb : (up2 w (11 + h) 8 (w 42 5)) (11 + h) 1 = w (11 + h) 1 := up2_d _ _ _ _ (by decide)
        have n1 : NI (up2 w (11 + h) 8 (w 42 5)) := h4.fr (fun k hk => e k (by omega))
        have s1 : SO (up2 w (11 + h) 8 (w 42 5)) := h1.fr2 (fun k hk => e k (by omega))
        refine R_seg [(.aload_n 2, 1, 0, 0, 0, 0), (.aload_n 0, 1, 0, 0, 0, 0), (.getfield 40, 3, 5, 6, 2, 0), (.getfield 96, 3, 0, 5, 0, 0), (.putfield 214, 3, 2, 8, 0, 0)] (by decide +kernel) (pc' := 95) (lv' := [(2, .ref (11 + h)), (0, .ref 50), (1, .int (nI h))]) (st' := []) (S' := stt (up2 (nw w) (11 + h) 8 (nI (w 42 5))) τ) (kc' := 0) (ks' := 0) rfl ⟨trivial, trivial, rfl, rfl, ⟨(kd_help hh), ⟨rfl, rfl⟩⟩, trivial⟩ ?_
        show RU_29 (d + 2) (0, 0) Post 95 ([(2, .ref (11 + h)), (0, .ref 50), (1, .int (nI h))]) ([]) (stt (up2 (nw w) (11 + h) 8 (nI (w 42 5))) τ) 0 0
        rw [nw_up (w := w) (k := (11 + h)) (i := 8) (v := nI (w 42 5)) (n := w 42 5) rfl]
        skip
        refine R_seg [(.aload_n 0, 1, 0, 0, 0, 0), (.iload_n 1, 1, 0, 0, 0, 0), (.aload_n 2, 1, 0, 0, 0, 0), (.getfield 208, 3, 2, 1, 0, 0)] (by decide +kernel) (pc' := 101) (lv' := [(2, .ref (11 + h)), (0, .ref 50), (1, .int (nI h))]) (st' := [.int (nI ((up2 w (11 + h) 8 (w 42 5)) (11 + h) 1)), .int (nI h), .ref 50]) (S' := stt (nw (up2 w (11 + h) 8 (w 42 5))) τ) (kc' := 0) (ks' := 0) rfl ⟨trivial, trivial, trivial, (kd_help hh), trivial⟩ ?_
        refine R_virt ck_29_101 50 [.int (nI h), .int (nI ((up2 w (11 + h) 8 (w 42 5)) (11 + h) 1))] 0 0 (r := []) rfl rfl rfl (Nat.le_of_ble_eq_true rfl) (Nat.le_refl _) (Nat.le_refl _) ?_
        refine c_31 (d := d) (w := up2 w (11 + h) 8 (w 42 5)) (by rw [eb]; exact hH.2.1.1) (by rw [eb]; exact hH.2.1.2) hh n1 s1 ?_
        show RU_29 (d + 2) (0, 0) Post 104 ([(2, .ref (11 + h)), (0, .ref 50), (1, .int (nI h))]) ([]) (stt (nw (aMake h (up2 w (11 + h) 8 (w 42 5)))) τ) 0 0
        refine R_ret ck_29_104 rfl ?_
        rw [if_neg op, if_pos c_36, if_pos c_81] at hp
        exact hp
    · have c_36 : ¬ (w (11 + h) 5) = 0 := fun zq => c_36 ((nI_eq (a := (w (11 + h) 5)) (b := 0) (by omega) (by omega)).mpr zq)
      refine R_seg sg_29_39 sk_29_39 (pc' := 41) (lv' := [(3, .int 0), (2, .ref (11 + h)), (0, .ref 50), (1, .int (nI h))]) (st' := []) (S' := stt (nw w) τ) (kc' := 0) (ks' := 0) rfl ⟨trivial, (by decide), trivial⟩ ?_
      rw [if_neg op, if_neg c_36] at hp
      exact l_29 hh (by omega) (w (11 + h) 2 + 1) 0 w h4 h1 hH.2.1 rfl (Nat.zero_le _) hp (by omega)
/-! ===== makeCalls ===== -/
def aTurns (n : Nat) (w : WW) : WW := itr (fun h u => if 0 < u 54 h then aTurn h u else u) n w
def skp : Nat → WW → WW
  | 0, w => w
  | m + 1, w => if w 50 9 < w 50 1 ∧ ¬ w 51 (w 53 (w 50 9)) = 11 then skp m (up2 w 50 9 (w 50 9 + 1)) else w
theorem skp_s (m : Nat) (w : WW) : skp (m + 1) w = if w 50 9 < w 50 1 ∧ ¬ w 51 (w 53 (w 50 9)) = 11 then skp m (up2 w 50 9 (w 50 9 + 1)) else w := rfl
def aCalls (w : WW) : WW := skp ((aTurns 5 w) 50 1 - (aTurns 5 w) 50 9) (aTurns 5 w)
theorem aTurns_mi {w : WW} (M : MI w) : ∀ n, n ≤ 5 → MI (aTurns n w)
  | 0, _ => M
  | n + 1, hn => by
    have := aTurns_mi M n (by omega)
    show MI (if 0 < aTurns n w 54 n then aTurn n (aTurns n w) else aTurns n w)
    split
    · exact aTurn_mi (by omega) this (by assumption)
    · exact this
theorem skp_step {w : WW} (M : MI w) (h : w 50 9 < w 50 1 ∧ ¬ w 51 (w 53 (w 50 9)) = 11) : MI (up2 w 50 9 (w 50 9 + 1)) := by
  obtain ⟨h1, h2, h3, h4, h5, h6, h7, h8, h9⟩ := M
  refine ⟨h1, h2, h3, ?_, h5.fr (fun k hk => up2_k _ _ _ _ (by omega)), h6, h7.fr (fun k hk => up2_k _ _ _ _ (by omega)), h8, h9⟩
  obtain ⟨n1, n2, n3, n4, n5, n6, n7, n8, n9⟩ := h4
  refine ⟨n1, n2, n3, n4, fun x hx hf => ?_, n6, ⟨h.1, fun i hi => ?_⟩, n8, n9⟩
  · obtain ⟨⟨i, i1, i2, i3⟩, i4⟩ := n5 x hx hf
    refine ⟨⟨i, ?_, i2, i3⟩, i4⟩
    show w 50 9 + 1 ≤ i
    rcases Nat.lt_or_ge (w 50 9) i with z | z
    · exact z
    · exact absurd (show w 51 (w 53 (w 50 9)) = 11 by rw [show w 50 9 = i by omega, i3]; exact hf) h.2
  · have hi : i < w 50 9 + 1 := hi
    rcases Nat.lt_or_ge i (w 50 9) with z | z
    · exact n7.2 i z
    · rw [show i = w 50 9 by omega]; exact h.2
theorem skp_mi : ∀ (m : Nat) (w : WW), MI w → MI (skp m w)
  | 0, _, M => M
  | m + 1, w, M => by
    rw [skp_s]
    split
    · exact skp_mi m _ (skp_step M (by assumption))
    · exact M
theorem aCalls_mi {w : WW} (M : MI w) : MI (aCalls w) := skp_mi _ _ (aTurns_mi M 5 (Nat.le_refl _))
/-- behind it: the first that waits stands at the place kept -/
theorem skp_end : ∀ (m : Nat) (w : WW), m = w 50 1 - w 50 9 → w 50 9 ≤ w 50 1 → ¬ ((skp m w) 50 9 < (skp m w) 50 1 ∧ ¬ (skp m w) 51 ((skp m w) 53 ((skp m w) 50 9)) = 11)
  | 0, w, e, h => by
    show ¬ (w 50 9 < w 50 1 ∧ _)
    omega
  | m + 1, w, e, h => by
    rw [skp_s]
    split
    · rename_i hx
      exact skp_end m _ (show m = w 50 1 - (w 50 9 + 1) by omega) (show w 50 9 + 1 ≤ w 50 1 by omega)
    · rename_i hx
      exact hx
theorem skp_k (w : WW) : ∀ (m : Nat) (v : WW), (∀ k, k ≠ 50 → v k = w k) → (∀ i, i ≠ 9 → v 50 i = w 50 i) → (∀ k, k ≠ 50 → (skp m v) k = w k) ∧ (∀ i, i ≠ 9 → (skp m v) 50 i = w 50 i)
  | 0, v, h1, h2 => ⟨h1, h2⟩
  | m + 1, v, h1, h2 => by
    rw [skp_s]
    split
    · refine skp_k w m _ (fun k hk => ?_) (fun i hi => ?_)
      · rw [up2_k _ _ _ _ hk]; exact h1 k hk
      · rw [up2_d _ _ _ _ hi]; exact h2 i hi
    · exact ⟨h1, h2⟩
set_option maxRecDepth 20000 in
theorem l_28s {d : Nat} {τ : Nat → Nat → Int64} {Post : Option Value → Sto → Prop} : ∀ (nn : Nat) (w : WW), MI w → Post none (stt (nw (skp (w 50 1 - w 50 9) w)) τ) → w 50 1 - w 50 9 < nn → RU_28 (d + 3) (0, 0) Post 27 [(0, .ref 50)] [] (stt (nw w) τ) 0 0 := by
  intro nn
  induction nn with
  | zero => intro w M hp hms; exact absurd hms (by omega)
  | succ nn ih =>
    intro w M hp hms
    have hN := M.2.2.2.1
    have ha3 : w 50 1 ≤ 192 := by have h0 : NIb (w 50 1) (w 51) := hN.2.1; unfold NIb at h0; omega
    have hf3 := hN.2.2.2.2.2.2.1.1
    refine R_seg sg_28_27 sk_28_27 (pc' := 35) (lv' := [(0, .ref 50)]) (st' := [.int (nI (w 50 1)), .int (nI (w 50 9))]) (S' := stt (nw w) τ) (kc' := 0) (ks' := 0) rfl ⟨trivial, rfl, trivial, rfl, trivial⟩ ?_
    refine R_icmp ck_28_35 (fun (c_35 : (nI (w 50 1)) ≤ (nI (w 50 9))) => ?_) (fun (c_35 : ¬ (nI (w 50 1)) ≤ (nI (w 50 9))) => ?_)
    · have c_35 : (w 50 1) ≤ (w 50 9) := (nI_leI (a := (w 50 1)) (b := (w 50 9)) (by omega) (by omega)).mp c_35
      refine R_ret ck_28_70 rfl ?_
      first | (rw [show w 50 1 - w 50 9 = 0 by omega] at hp; exact hp) | (rw [skp_s, if_neg (fun z => z.2 c_54)] at hp; exact hp)
    · have c_35 : (w 50 9) < (w 50 1) := Nat.not_le.mp (fun zq => c_35 ((nI_leI (a := (w 50 1)) (b := (w 50 9)) (by omega) (by omega)).mpr zq))
      obtain ⟨m, em⟩ : ∃ m, w 50 1 - w 50 9 = m + 1 := ⟨w 50 1 - w 50 9 - 1, by omega⟩
      rw [em] at hp
      have em2 : m = w 50 1 - (w 50 9 + 1) := by omega
      subst em2
      have hxq := (hN.2.2.1 (w 50 9) c_35).1
      have b51 := hN.1 (w 53 (w 50 9)) hxq
      refine R_seg sg_28_38 sk_28_38 (pc' := 50) (lv' := [(0, .ref 50)]) (st' := [.int (nI (w 50 9)), .ref 53, .ref 51]) (S' := stt (nw w) τ) (kc' := 0) (ks' := 0) rfl ⟨trivial, rfl, trivial, rfl, trivial, rfl, trivial⟩ ?_
      refine R_iald ca_28_50 (j := w 50 9) rfl rfl (by omega) ?_
      refine R_iald ca_28_51 (j := w 53 (w 50 9)) rfl rfl (by omega) ?_
      refine R_seg sg_28_52 sk_28_52 (pc' := 54) (lv' := [(0, .ref 50)]) (st' := [.int 11, .int (nI (w 51 (w 53 (w 50 9))))]) (S' := stt (nw w) τ) (kc' := 0) (ks' := 0) rfl ⟨trivial, trivial⟩ ?_
      refine R_icmp ck_28_54 (fun (c_54 : (nI (w 51 (w 53 (w 50 9)))) = 11) => ?_) (fun (c_54 : ¬ (nI (w 51 (w 53 (w 50 9)))) = 11) => ?_)
      · have c_54 : (w 51 (w 53 (w 50 9))) = 11 := (nI_eq (a := (w 51 (w 53 (w 50 9)))) (b := 11) (by omega) (by omega)).mp c_54
        refine R_ret ck_28_70 rfl ?_
        first | (rw [show w 50 1 - w 50 9 = 0 by omega] at hp; exact hp) | (rw [skp_s, if_neg (fun z => z.2 c_54)] at hp; exact hp)
      · have c_54 : ¬ (w 51 (w 53 (w 50 9))) = 11 := fun zq => c_54 ((nI_eq (a := (w 51 (w 53 (w 50 9)))) (b := 11) (by omega) (by omega)).mpr zq)
        refine R_seg sg_28_57 sk_28_57 (pc' := 67) (lv' := [(0, .ref 50)]) (st' := []) (S' := stt (up2 (nw w) 50 9 ((nI (w 50 9)) + 1)) τ) (kc' := 0) (ks' := 0) rfl ⟨trivial, rfl, rfl, trivial, trivial, ⟨rfl, ⟨rfl, rfl⟩⟩, trivial⟩ ?_
        show RU_28 (d + 3) (0, 0) Post 67 ([(0, .ref 50)]) ([]) (stt (up2 (nw w) 50 9 ((nI (w 50 9)) + 1)) τ) 0 0
        rw [nw_up (w := w) (k := 50) (i := 9) (v := (nI (w 50 9)) + 1) (n := w 50 9 + 1) (nI_1 _)]
        refine R_goto ck_28_67 ?_
        rw [show stt (nw (up2 w 50 9 (w 50 9 + 1))) τ = stt (nw (up2 w 50 9 (w 50 9 + 1))) τ from rfl]
        exact ih _ (skp_step M ⟨c_35, c_54⟩) (by rw [skp_s, if_pos ⟨c_35, c_54⟩] at hp; exact hp) (show w 50 1 - (w 50 9 + 1) < nn by omega)
set_option maxRecDepth 20000 in
theorem l_28 {d : Nat} {w : WW} {τ : Nat → Nat → Int64} {Post : Option Value → Sto → Prop} (hp : Post none (stt (nw (aCalls w)) τ)) : ∀ (nn : Nat) (i : Nat) (u : WW), MI u → i ≤ 5 → u = aTurns i w → 5 - i < nn → RU_28 (d + 3) (0, 0) Post 2 [(1, .int (nI i)), (0, .ref 50)] [] (stt (nw u) τ) 0 0 := by
  intro nn
  induction nn with
  | zero => intro i u M hi hu hms; exact absurd hms (by omega)
  | succ nn ih =>
    intro i u M hi hu hms
    have hN := M.2.2.2.1
    have b54 : i < 5 → u 54 i ≤ 192 := fun hi5 => by rw [hN.2.2.2.1 i hi5]; exact fb_ct_le _ _
    refine R_seg sg_28_2 sk_28_2 (pc' := 4) (lv' := [(1, .int (nI i)), (0, .ref 50)]) (st' := [.int 5, .int (nI i)]) (S' := stt (nw u) τ) (kc' := 0) (ks' := 0) rfl ⟨trivial, trivial, trivial⟩ ?_
    refine R_icmp ck_28_4 (fun (c_4 : 5 ≤ (nI i)) => ?_) (fun (c_4 : ¬ 5 ≤ (nI i)) => ?_)
    · have c_4 : 5 ≤ i := (nI_leI (a := 5) (b := i) (by omega) (by omega)).mp c_4
      refine Runs.lv (lv := [(0, .ref 50)]) ?_ _ (lvS_l (show ([0] : List Nat).Nodup from by decide) (by intro q hq; simp only [List.mem_cons, List.not_mem_nil, or_false] at hq; rcases hq with rfl <;> rfl))
      have e5 : i = 5 := by omega
      subst e5
      exact l_28s _ u M (by rw [hu]; exact hp) (Nat.lt_succ_self _)
    · have c_4 : i < 5 := Nat.not_le.mp (fun zq => c_4 ((nI_leI (a := 5) (b := i) (by omega) (by omega)).mpr zq))
      refine R_seg sg_28_7 sk_28_7 (pc' := 12) (lv' := [(1, .int (nI i)), (0, .ref 50)]) (st' := [.int (nI i), .ref 54]) (S' := stt (nw u) τ) (kc' := 0) (ks' := 0) rfl ⟨trivial, rfl, trivial, trivial⟩ ?_
      refine R_iald ca_28_12 (j := i) rfl rfl (by omega) ?_
      refine R_if ck_28_13 (fun (c_13 : (nI (u 54 i)) ≤ 0) => ?_) (fun (c_13 : ¬ (nI (u 54 i)) ≤ 0) => ?_)
      · have c_13 : (u 54 i) ≤ 0 := (nI_leI (a := (u 54 i)) (b := 0) (by omega) (by omega)).mp c_13
        refine R_seg sg_28_21 sk_28_21 (pc' := 24) (lv' := [(1, .int ((nI i) + 1)), (0, .ref 50)]) (st' := []) (S' := stt (nw u) τ) (kc' := 0) (ks' := 0) rfl ⟨(by decide), trivial⟩ ?_
        refine R_goto ck_28_24 ?_
        refine Runs.lv (lv := [(1, .int ((nI i) + 1)), (0, .ref 50)]) ?_ _ (lvS_l (show ([1, 0] : List Nat).Nodup from by decide) (by intro q hq; simp only [List.mem_cons, List.not_mem_nil, or_false] at hq; rcases hq with rfl | rfl <;> rfl))
        rw [nI_1 i]
        exact ih (i + 1) u M (by omega) (by show u = (if 0 < aTurns i w 54 i then aTurn i (aTurns i w) else aTurns i w); rw [← hu, if_neg (by omega)]) (by omega)
      · have c_13 : 0 < (u 54 i) := Nat.not_le.mp (fun zq => c_13 ((nI_leI (a := (u 54 i)) (b := 0) (by omega) (by omega)).mpr zq))
        refine R_seg sg_28_16 sk_28_16 (pc' := 18) (lv' := [(1, .int (nI i)), (0, .ref 50)]) (st' := [.int (nI i), .ref 50]) (S' := stt (nw u) τ) (kc' := 0) (ks' := 0) rfl ⟨trivial, trivial, trivial⟩ ?_
        refine R_virt ck_28_18 50 [.int (nI i)] 0 0 (r := []) rfl rfl rfl (Nat.le_of_ble_eq_true rfl) (Nat.le_refl _) (Nat.le_refl _) ?_
        refine c_29 (d := d) (by omega) M ?_
        show RU_28 (d + 3) (0, 0) Post 21 ([(1, .int (nI i)), (0, .ref 50)]) ([]) (stt (nw (aTurn i u)) τ) 0 0
        refine R_seg sg_28_21 sk_28_21 (pc' := 24) (lv' := [(1, .int ((nI i) + 1)), (0, .ref 50)]) (st' := []) (S' := stt (nw (aTurn i u)) τ) (kc' := 0) (ks' := 0) rfl ⟨(by decide), trivial⟩ ?_
        refine R_goto ck_28_24 ?_
        refine Runs.lv (lv := [(1, .int ((nI i) + 1)), (0, .ref 50)]) ?_ _ (lvS_l (show ([1, 0] : List Nat).Nodup from by decide) (by intro q hq; simp only [List.mem_cons, List.not_mem_nil, or_false] at hq; rcases hq with rfl | rfl <;> rfl))
        rw [nI_1 i]
        exact ih (i + 1) _ (aTurn_mi (by omega) M c_13) (by omega) (by show aTurn i u = (if 0 < aTurns i w 54 i then aTurn i (aTurns i w) else aTurns i w); rw [← hu, if_pos c_13]) (by omega)
set_option maxRecDepth 20000 in
theorem c_28 {d : Nat} {w : WW} {τ : Nat → Nat → Int64} {Post : Option Value → Sto → Prop} (M : MI w) (hp : Post none (stt (nw (aCalls w)) τ)) : Ex (d + 4) 28 [.ref 50] (stt (nw w) τ) 0 0 Post := by
  refine en_28 (Nat.le_of_ble_eq_true rfl) ?_
  show RU_28 (d + 3) (0, 0) Post 0 ([(0, .ref 50)]) ([]) (stt (nw w) τ) 0 0
  refine R_seg sg_28_0 sk_28_0 (pc' := 2) (lv' := [(1, .int 0), (0, .ref 50)]) (st' := []) (S' := stt (nw w) τ) (kc' := 0) (ks' := 0) rfl ⟨trivial, (by decide), trivial⟩ ?_
  rw [← nI_0]
  exact l_28 hp 6 0 w M (by omega) rfl (by omega)
