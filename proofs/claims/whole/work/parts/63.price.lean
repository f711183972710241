/-! ===== prices, and how much is told ===== -/
def PS (w : WW) : Nat → Nat
  | 0 => 0
  | m + 1 => PS w m + w 18 (w 33 m) * w 35 m
def TS (w : WW) : Nat → Nat
  | 0 => 0
  | m + 1 => TS w m + w 35 m
def NP (w : WW) : Prop := w 32 7 ≤ 20 ∧ ∀ n, n < w 32 7 → w 33 n < 6 ∧ 1 ≤ w 35 n ∧ w 35 n ≤ 625
theorem RN0.np {w : WW} (h : RN0 w N1) : NP w := by
  refine ⟨h.1, fun n hn => ?_⟩
  have q := h.2.1 n hn
  refine ⟨q.1.1, q.2.1, Nat.le_trans q.2.2 ?_⟩
  have := pow5 (show w 36 n - 1 ≤ 4 by omega)
  exact this
theorem PS_le {w : WW} (hP : PO w) (hN : NP w) : ∀ m, m ≤ w 32 7 → PS w m ≤ m * 5625 ∧ TS w m ≤ PS w m
  | 0, _ => ⟨Nat.zero_le _, Nat.le_refl _⟩
  | m + 1, h => by
    have q := PS_le hP hN m (by omega)
    have n := hN.2 m (by omega)
    have p := hP (w 33 m) n.1
    have u : w 18 (w 33 m) * w 35 m ≤ 9 * 625 := Nat.mul_le_mul p.2 n.2.2
    have l : 1 * w 35 m ≤ w 18 (w 33 m) * w 35 m := Nat.mul_le_mul_right _ p.1
    show PS w m + w 18 (w 33 m) * w 35 m ≤ (m + 1) * 5625 ∧ TS w m + w 35 m ≤ PS w m + w 18 (w 33 m) * w 35 m
    omega
theorem cSum_n {w : WW} (hP : PO w) (hN : NP w) : ∀ m, m ≤ w 32 7 → cSum (nw w) m = lN (PS w m)
  | 0, _ => rfl
  | m + 1, h => by
    have n := hN.2 m (by omega)
    have p := hP (w 33 m) n.1
    show cSum (nw w) m + cPr (nw w) m = lN (PS w m + w 18 (w 33 m) * w 35 m)
    rw [cSum_n hP hN m (by omega)]
    have e : cPr (nw w) m = lN (w 18 (w 33 m) * w 35 m) := by
      unfold cPr
      rw [show nw w 33 m = nI (w 33 m) from rfl, nI_clamp (by omega), show nw w 18 (w 33 m) = nI (w 18 (w 33 m)) from rfl, show nw w 35 m = nI (w 35 m) from rfl, nI_l (by omega), nI_l (by omega), lN_mul]
    rw [e, lN_add]
theorem mSum_n {w v : WW} {τ : Nat → Nat → Int64} (hP : PO w) (hN : NP w) (hM : RMd w v τ) (e70 : v 70 = w 18) : ∀ m, m ≤ w 32 7 → mSum (nw v) τ m = lN (PS w m)
  | 0, _ => rfl
  | m + 1, h => by
    have n := hN.2 m (by omega)
    have p := hP (w 33 m) n.1
    have q := (hM.2.1 m (by omega)).1
    show mSum (nw v) τ m + mPr (nw v) τ m = lN (PS w m + w 18 (w 33 m) * w 35 m)
    rw [mSum_n hP hN hM e70 m (by omega)]
    have e : mPr (nw v) τ m = lN (w 18 (w 33 m) * w 35 m) := by
      unfold mPr
      rw [show nw v 87 m = nI (w 33 m) from congrArg nI q.1, nI_clamp (by omega), show nw v 70 (w 33 m) = nI (w 18 (w 33 m)) from congrArg nI (congrFun e70 _), nI_l (by omega), q.2.2.2, lN_mul]
    rw [e, lN_add]
/-- the first with which it is above what there is, or none -/
theorem PS_first (w : WW) (has : Nat) : ∀ m, (PS w m ≤ has ∧ ∀ j, j < m → PS w (j + 1) ≤ has) ∨ ∃ k, k < m ∧ has < PS w (k + 1) ∧ ∀ j, j < k → PS w (j + 1) ≤ has
  | 0 => Or.inl ⟨Nat.zero_le _, fun j hj => absurd hj (Nat.not_lt_zero j)⟩
  | m + 1 => by
    rcases PS_first w has m with h | ⟨k, k1, k2, k3⟩
    · by_cases z : PS w (m + 1) ≤ has
      · left
        refine ⟨z, fun j hj => ?_⟩
        rcases Nat.lt_or_ge j m with y | y
        · exact h.2 j y
        · rw [show j = m by omega]; exact z
      · exact Or.inr ⟨m, by omega, by omega, fun j hj => h.2 j hj⟩
    · exact Or.inr ⟨k, by omega, k2, k3⟩
theorem PS_mono (w : WW) (m : Nat) : ∀ n, PS w m ≤ PS w (m + n)
  | 0 => Nat.le_refl _
  | n + 1 => Nat.le_trans (PS_mono w m n) (Nat.le_add_right _ _)
noncomputable def sm (P : Nat → Prop) (X : Nat → Nat) : Nat → Nat
  | 0 => 0
  | n + 1 => sm P X n + @ite Nat (P n) (Classical.propDecidable _) (X n) 0
theorem sm_mono {P Q : Nat → Prop} {X : Nat → Nat} : ∀ n, (∀ c, c < n → P c → Q c) → sm P X n ≤ sm Q X n
  | 0, _ => Nat.le_refl _
  | n + 1, h => by
    have := sm_mono (X := X) n (fun c hc => h c (by omega))
    unfold sm
    by_cases p : P n
    · rw [if_pos p, if_pos (h n (by omega) p)]; omega
    · rw [if_neg p]; omega
theorem sm_out {P : Nat → Prop} {X : Nat → Nat} {c0 : Nat} : ∀ n, n ≤ c0 → sm (fun c => P c ∨ c = c0) X n = sm P X n
  | 0, _ => rfl
  | n + 1, h => by
    have ih := sm_out (P := P) (X := X) (c0 := c0) n (by omega)
    unfold sm
    rw [ih]
    by_cases p : P n
    · rw [if_pos p, if_pos (Or.inl p)]
    · rw [if_neg p, if_neg (fun q => by rcases q with q | q; exact p q; omega)]
theorem sm_add {P : Nat → Prop} {X : Nat → Nat} {c0 : Nat} (h0 : ¬ P c0) : ∀ n, c0 < n → sm (fun c => P c ∨ c = c0) X n = sm P X n + X c0
  | 0, h => absurd h (Nat.not_lt_zero _)
  | n + 1, h => by
    unfold sm
    by_cases z : c0 = n
    · subst z
      rw [sm_out c0 (Nat.le_refl _), if_pos (Or.inr rfl), if_neg h0]; omega
    · rw [sm_add h0 n (by omega)]
      by_cases p : P n
      · rw [if_pos p, if_pos (Or.inl p)]; omega
      · rw [if_neg p, if_neg (fun q => by rcases q with q | q; exact p q; omega)]; omega
theorem sm_pos {P : Nat → Prop} {X : Nat → Nat} {c : Nat} (h : P c) : ∀ n, c < n → X c ≤ sm P X n
  | 0, hc => absurd hc (Nat.not_lt_zero _)
  | n + 1, hc => by
    unfold sm
    by_cases z : c = n
    · subst z; rw [if_pos h]; omega
    · have := sm_pos (X := X) h n (by omega); omega
theorem sm_split {P : Nat → Prop} {X : Nat → Nat} {m : Nat} (n : Nat) (hm : m < n) : sm P X n ≤ X m + sm (fun c => P c ∧ c ≠ m) X n := by
  by_cases p : P m
  · have h : sm (fun c => (P c ∧ c ≠ m) ∨ c = m) X n = sm (fun c => P c ∧ c ≠ m) X n + X m := sm_add (fun z => z.2 rfl) n hm
    have h2 : sm P X n ≤ sm (fun c => (P c ∧ c ≠ m) ∨ c = m) X n := sm_mono n (fun c _ hp => by
      by_cases z : c = m
      · exact Or.inr z
      · exact Or.inl ⟨hp, z⟩)
    omega
  · have h2 : sm P X n ≤ sm (fun c => P c ∧ c ≠ m) X n := sm_mono n (fun c _ hp => ⟨hp, fun z => p (z ▸ hp)⟩)
    omega
def XW (w : WW) (n : Nat) : Nat := w 35 n * Wt w (6 - w 36 n) n
noncomputable def SXW (w : WW) (n : Nat) : Nat → Nat
  | 0 => 0
  | i + 1 => SXW w n i + @ite Nat (kdn w n i) (Classical.propDecidable _) (XW w (w 39 (n * 6 + i))) 0
theorem XW_s {w : WW} (hN : RN0 w N1) {n : Nat} (hn : n < w 32 7) : XW w n = w 35 n + SXW w n (w 37 n) := by
  obtain ⟨a1, a2, a3, a4, a5, a6⟩ := hN
  have q := a2 n hn
  have key : ∀ i, i ≤ w 37 n → w 35 n * wtf w (Wt w (5 - w 36 n)) n i = SXW w n i := by
    intro i
    induction i with
    | zero => intro _; rfl
    | succ i ih =>
      intro hi
      show w 35 n * (wtf w (Wt w (5 - w 36 n)) n i + wtc w (Wt w (5 - w 36 n)) n i) = SXW w n i + _
      rw [Nat.mul_add, ih (by omega)]
      congr 1
      unfold wtc
      by_cases k : kdn w n i
      · rw [if_pos k, if_neg k.2.2]
        have s := a4 n i k (by show n * 6 + i ≠ 4294967295; omega)
        unfold XW
        rw [s.2.2.2.2, s.2.2.1, show 6 - (w 36 n + 1) = 5 - w 36 n by omega]
        unfold fac
        rw [Nat.mul_assoc]
      · rw [if_neg k, if_pos (Classical.not_not.mp (fun z => k ⟨hn, by omega, z⟩)), Nat.mul_zero]
  unfold XW
  rw [show 6 - w 36 n = (5 - w 36 n) + 1 by omega, Wt_s, Nat.mul_add, key _ (Nat.le_refl _), Nat.mul_one]
def FRT (w : WW) (m c : Nat) : Prop := m ≤ c ∧ (c = 0 ∨ ∃ n i, n < m ∧ kdn w n i ∧ w 39 (n * 6 + i) = c)
theorem frt_step {w : WW} (hN : RN0 w N1) {m : Nat} (hm : m < w 32 7) : sm (FRT w m) (XW w) (w 32 7) ≤ w 35 m + sm (FRT w (m + 1)) (XW w) (w 32 7) := by
  obtain ⟨a1, a2, a3, a4, a5, a6⟩ := id hN
  have s1 := sm_split (P := FRT w m) (X := XW w) (w 32 7) hm
  rw [XW_s hN hm] at s1
  have w6 := (a2 m hm).1.2.2.2
  have key : ∀ i, i ≤ w 37 m → sm (fun c => FRT w m c ∧ c ≠ m) (XW w) (w 32 7) + SXW w m i ≤ sm (fun c => (FRT w m c ∧ c ≠ m) ∨ ∃ i', i' < i ∧ kdn w m i' ∧ w 39 (m * 6 + i') = c) (XW w) (w 32 7) := by
    intro i
    induction i with
    | zero => intro _; exact sm_mono _ (fun c _ h => Or.inl h)
    | succ i ih =>
      intro hi
      have ih := ih (by omega)
      show _ + (SXW w m i + _) ≤ _
      by_cases k : kdn w m i
      · rw [if_pos k]
        have s := a4 m i k (by show m * 6 + i ≠ 4294967295; omega)
        have h0 : ¬ ((FRT w m (w 39 (m * 6 + i)) ∧ w 39 (m * 6 + i) ≠ m) ∨ ∃ i', i' < i ∧ kdn w m i' ∧ w 39 (m * 6 + i') = w 39 (m * 6 + i)) := by
          rintro (⟨⟨f1, f2⟩, f3⟩ | ⟨i', i1, i2, i3⟩)
          · rcases f2 with z | ⟨n, j, n1, n2, n3⟩
            · have := s.1; omega
            · have nn := (a2 n n2.1).1.2.2.2
              have nj := n2.2.1
              have := a5 n j m i n2 k (by show n * 6 + j ≠ 4294967295; omega) (by show m * 6 + i ≠ 4294967295; omega) n3
              omega
          · have := a5 m i' m i i2 k (by show m * 6 + i' ≠ 4294967295; omega) (by show m * 6 + i ≠ 4294967295; omega) i3
            omega
        have ad := sm_add (P := fun c => (FRT w m c ∧ c ≠ m) ∨ ∃ i', i' < i ∧ kdn w m i' ∧ w 39 (m * 6 + i') = c) (X := XW w) (c0 := w 39 (m * 6 + i)) h0 (w 32 7) s.2.1
        have mo : sm (fun c => ((FRT w m c ∧ c ≠ m) ∨ ∃ i', i' < i ∧ kdn w m i' ∧ w 39 (m * 6 + i') = c) ∨ c = w 39 (m * 6 + i)) (XW w) (w 32 7) ≤ sm (fun c => (FRT w m c ∧ c ≠ m) ∨ ∃ i', i' < i + 1 ∧ kdn w m i' ∧ w 39 (m * 6 + i') = c) (XW w) (w 32 7) := by
          refine sm_mono _ (fun c _ h => ?_)
          rcases h with (h | ⟨i', i1, i2⟩) | h
          · exact Or.inl h
          · exact Or.inr ⟨i', by omega, i2⟩
          · exact Or.inr ⟨i, by omega, k, h.symm⟩
        omega
      · rw [if_neg k]
        have mo : sm (fun c => (FRT w m c ∧ c ≠ m) ∨ ∃ i', i' < i ∧ kdn w m i' ∧ w 39 (m * 6 + i') = c) (XW w) (w 32 7) ≤ sm (fun c => (FRT w m c ∧ c ≠ m) ∨ ∃ i', i' < i + 1 ∧ kdn w m i' ∧ w 39 (m * 6 + i') = c) (XW w) (w 32 7) := by
          refine sm_mono _ (fun c _ h => ?_)
          rcases h with h | ⟨i', i1, i2⟩
          · exact Or.inl h
          · exact Or.inr ⟨i', by omega, i2⟩
        omega
  have s2 := key (w 37 m) (Nat.le_refl _)
  have s3 : sm (fun c => (FRT w m c ∧ c ≠ m) ∨ ∃ i', i' < w 37 m ∧ kdn w m i' ∧ w 39 (m * 6 + i') = c) (XW w) (w 32 7) ≤ sm (FRT w (m + 1)) (XW w) (w 32 7) := by
    refine sm_mono _ (fun c _ h => ?_)
    rcases h with ⟨⟨f1, f2⟩, f3⟩ | ⟨i', i1, i2, i3⟩
    · refine ⟨by omega, ?_⟩
      rcases f2 with z | ⟨n, j, n1, n2⟩
      · exact Or.inl z
      · exact Or.inr ⟨n, j, by omega, n2⟩
    · have s := a4 m i' i2 (by show m * 6 + i' ≠ 4294967295; omega)
      exact ⟨by rw [← i3]; exact s.1, Or.inr ⟨m, i', by omega, i2, i3⟩⟩
  omega
theorem Wt_price {w : WW} (hN : RN0 w N1) (hn : 0 < w 32 7) : Wt w 5 0 ≤ TS w (w 32 7) := by
  have a6 := hN.2.2.2.2.2 hn
  have e : XW w 0 = Wt w 5 0 := by
    unfold XW
    rw [a6.1, a6.2, Nat.one_mul]
  have key : ∀ m, m ≤ w 32 7 → XW w 0 ≤ TS w m + sm (FRT w m) (XW w) (w 32 7) := by
    intro m
    induction m with
    | zero =>
      intro _
      have := sm_pos (P := FRT w 0) (X := XW w) (c := 0) ⟨Nat.le_refl _, Or.inl rfl⟩ (w 32 7) hn
      omega
    | succ m ih =>
      intro h
      have := ih (by omega)
      have s := frt_step hN (show m < w 32 7 by omega)
      show _ ≤ TS w m + w 35 m + _
      omega
  have k := key (w 32 7) (Nat.le_refl _)
  have z : sm (FRT w (w 32 7)) (XW w) (w 32 7) = 0 := by
    have : ∀ n, n ≤ w 32 7 → sm (FRT w (w 32 7)) (XW w) n = 0 := by
      intro n
      induction n with
      | zero => intro _; rfl
      | succ n ih =>
        intro h
        unfold sm
        rw [ih (by omega), if_neg (fun f => by have := f.1; omega)]
    exact this _ (Nat.le_refl _)
  rw [← e]
  omega
