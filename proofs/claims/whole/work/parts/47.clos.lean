/-! ===== what is needed is followed ===== -/
def mkd (w : WW) (m y : Nat) : Prop := (w 52 y).testBit m = true
/-- where thing y, needed by node m, is known: all that it leads to is needed -/
def Cl (w : WW) (m y : Nat) : Prop := w 51 y = 10 → ∀ i, i < w 37 m → ∀ j, j < lcw w y (w 38 (m * 6 + i)) → mkd w (w 39 (m * 6 + i)) (lkw w y (w 38 (m * 6 + i)) j)
def MS (w v : WW) : Prop := (∀ m y, mkd w m y → mkd v m y) ∧ (∀ y, w 51 y ≠ 0 → v 51 y = w 51 y) ∧ (∀ k, k < 50 → v k = w k) ∧ (w 50 1 ≤ v 50 1 ∧ ∀ i, i < w 50 1 → v 53 i = w 53 i) ∧ (∀ y, v 51 y = w 51 y ∨ (w 51 y = 0 ∧ (v 51 y = 1 ∨ v 51 y = 10 ∨ v 51 y = 11)))
theorem MS.rf (w : WW) : MS w w := ⟨fun _ _ h => h, fun _ _ => rfl, fun _ _ => rfl, ⟨Nat.le_refl _, fun _ _ => rfl⟩, fun _ => Or.inl rfl⟩
theorem MS.tr {u v w : WW} (h : MS u v) (h2 : MS v w) : MS u w := ⟨fun m y q => h2.1 m y (h.1 m y q), fun y q => (h2.2.1 y (by rw [h.2.1 y q]; exact q)).trans (h.2.1 y q), fun k hk => (h2.2.2.1 k hk).trans (h.2.2.1 k hk), ⟨Nat.le_trans h.2.2.2.1.1 h2.2.2.2.1.1, fun i hi => (h2.2.2.2.1.2 i (Nat.lt_of_lt_of_le hi h.2.2.2.1.1)).trans (h.2.2.2.1.2 i hi)⟩, fun y => by
  rcases h.2.2.2.2 y with a | a
  · rcases h2.2.2.2.2 y with b | b
    · exact Or.inl (b.trans a)
    · exact Or.inr ⟨by rw [← a]; exact b.1, b.2⟩
  · have := h2.2.1 y (by omega)
    right
    rw [this]
    exact a⟩
theorem MS.t12 {w v : WW} (h : MS w v) {y : Nat} (e : v 51 y = 12) : w 51 y = 12 := by
  rcases h.2.2.2.2 y with a | a <;> omega
theorem Cl.mono {w v : WW} {m y : Nat} (h : Cl w m y) (hy : w 51 y ≠ 0) (s : MS w v) : Cl v m y := by
  intro hk i hi j hj
  rw [s.2.1 y hy] at hk
  have e := s.2.2.1
  rw [lcw_fr e, e 38 (by decide)] at hj
  rw [e 37 (by decide)] at hi
  rw [lkw_fr e, e 38 (by decide), e 39 (by decide)]
  exact s.1 _ _ (h hk i hi j hj)
def NZ (w : WW) : Prop := ∀ y, y < 192 → ∀ m, mkd w m y → w 51 y ≠ 0
theorem mkd_mark (w : WW) (n x m y : Nat) : mkd (up2 w 52 x (w 52 x ||| 2 ^ n)) m y ↔ mkd w m y ∨ (m = n ∧ y = x) := by
  unfold mkd
  show (va_up (w 52) x (w 52 x ||| 2 ^ n) y).testBit m = true ↔ _
  unfold va_up
  by_cases e : y = x
  · subst e
    rw [if_pos rfl, fb_bit_set, Bool.or_eq_true, decide_eq_true_eq]
    simp
  · rw [if_neg e]
    simp [e]
theorem aMeet_52 (w : WW) (x : Nat) : aMeet w x 52 = w 52 := by
  unfold aMeet
  split
  · rfl
  · split <;> rfl
theorem mkd_amk (w : WW) (n x m y : Nat) : mkd (amk w n x) m y ↔ mkd w m y ∨ (m = n ∧ y = x) := by
  rw [← mkd_mark]
  unfold amk
  split
  · unfold mkd
    rw [aMeet_52]
  · exact Iff.rfl
theorem amk_51 (w : WW) (n x y : Nat) (h : y ≠ x ∨ w 51 y ≠ 0) : amk w n x 51 y = w 51 y := by
  unfold amk
  split
  · rename_i e
    have hy : y ≠ x := by
      rcases h with h | h
      · exact h
      · intro z; rw [z] at h; exact h e
    unfold aMeet
    split
    · exact va_up_ne _ _ hy
    · split
      · exact va_up_ne _ _ hy
      · exact va_up_ne _ _ hy
  · rfl
theorem amk_51x (w : WW) (n x : Nat) (h : w 51 x = 0) : amk w n x 51 x = 1 ∨ amk w n x 51 x = 10 ∨ amk w n x 51 x = 11 := by
  unfold amk
  rw [if_pos h]
  unfold aMeet
  split
  · left; exact va_up_self _ _ _
  · split
    · right; right; exact va_up_self _ _ _
    · right; left; exact va_up_self _ _ _
theorem MS.mk1 (w : WW) (n x : Nat) : MS w (amk w n x) := by
  refine ⟨fun m y h => (mkd_amk w n x m y).mpr (Or.inl h), fun y hy => amk_51 w n x y (Or.inr hy), ((FRN.rf w).mark n x).1, ?_, fun y => ?_⟩
  · unfold amk
    split
    · unfold aMeet
      split
      · exact ⟨Nat.le_refl _, fun _ _ => rfl⟩
      · split
        · exact ⟨show w 50 1 ≤ w 50 1 + 1 by omega, fun i hi => va_up_ne _ _ (show i ≠ w 50 1 by omega)⟩
        · exact ⟨Nat.le_refl _, fun _ _ => rfl⟩
    · exact ⟨Nat.le_refl _, fun _ _ => rfl⟩
  · by_cases z : w 51 y ≠ 0
    · exact Or.inl (amk_51 w n x y (Or.inr z))
    · have z : w 51 y = 0 := Classical.not_not.mp z
      by_cases e : y = x
      · subst e
        exact Or.inr ⟨z, amk_51x w n y z⟩
      · exact Or.inl (amk_51 w n x y (Or.inl e))
theorem NZ.mk1 {w : WW} (h : NZ w) (n x : Nat) : NZ (amk w n x) := by
  intro y hy m hm
  by_cases e : y = x
  · subst e
    by_cases z : w 51 y = 0
    · have := amk_51x w n y z
      omega
    · rw [amk_51 w n y y (Or.inr z)]; exact z
  · rw [amk_51 w n x y (Or.inl e)]
    rcases (mkd_amk w n x m y).mp hm with q | q
    · exact h y hy m q
    · exact absurd q.2 e
/-- the links of a node's fields up to field i, and of field i up to j, are needed -/
def LKs (w u : WW) (n x i j : Nat) : Prop := (∀ i', i' < i → ∀ j', j' < lcw w x (w 38 (n * 6 + i')) → mkd u (w 39 (n * 6 + i')) (lkw w x (w 38 (n * 6 + i')) j')) ∧ ∀ j', j' < j → mkd u (w 39 (n * 6 + i)) (lkw w x (w 38 (n * 6 + i)) j')
def FCl (w u0 u : WW) (S : Nat → Nat → Prop) : Prop := MS u0 u ∧ NZ u ∧ (∀ m y, y < 192 → mkd u m y → S m y ∨ Cl u m y)
def NCl (k : Nat) : Prop := ∀ (n x : Nat) (w : WW), SO w → TO w → OKn w k n x → NZ w → MS w (need k n x w) ∧ NZ (need k n x w) ∧ mkd (need k n x w) n x ∧ ∀ m y, y < 192 → mkd (need k n x w) m y → mkd w m y ∨ Cl (need k n x w) m y
/-- one more is needed -/
theorem FCl.step {w u0 u : WW} {S : Nat → Nat → Prop} {k c l : Nat} (ih : NCl k) (hS : SO u) (hT : TO u) (ho : OKn u k c l) (h : FCl w u0 u S) : FCl w u0 (need k c l u) S ∧ MS u (need k c l u) ∧ mkd (need k c l u) c l := by
  obtain ⟨i1, i2, i3, i4⟩ := ih c l u hS hT ho h.2.1
  refine ⟨⟨h.1.tr i1, i2, fun m y hy hm => ?_⟩, i1, i3⟩
  rcases i4 m y hy hm with q | q
  · rcases h.2.2 m y hy q with z | z
    · exact Or.inl z
    · exact Or.inr (z.mono (h.2.1 y hy m q) i1)
  · exact Or.inr q
/-- all fields followed: w is read, u0 is where it began -/
theorem fol_cl {k n x : Nat} (ih : NCl k) {w u0 : WW} {S : Nat → Nat → Prop} (hS : SO w) (hT : TO w) (ho : OKn w (k + 1) n x) (e0 : ∀ k, k < 50 → u0 k = w k) (h0 : FCl w u0 u0 S) : FCl w u0 (fol k n x w u0) S ∧ ∀ i, i < w 37 n → ∀ j, j < lcw w x (w 38 (n * 6 + i)) → mkd (fol k n x w u0) (w 39 (n * 6 + i)) (lkw w x (w 38 (n * 6 + i)) j) := by
  have key : (FCl w u0 (fol k n x w u0) S ∧ (∀ k', k' < 50 → fol k n x w u0 k' = w k')) ∧ LKs w (fol k n x w u0) n x (w 37 n) 0 := by
    unfold fol
    refine itr_ind (fun i v => (FCl w u0 v S ∧ ∀ k, k < 50 → v k = w k) ∧ LKs w v n x i 0) ⟨⟨h0, e0⟩, fun i' hi' => absurd hi' (Nat.not_lt_zero _), fun j' hj' => absurd hj' (Nat.not_lt_zero _)⟩ _ (fun i v hi hv => ?_)
    have inner : (FCl w u0 (folS k n x w i v) S ∧ ∀ k', k' < 50 → folS k n x w i v k' = w k') ∧ LKs w (folS k n x w i v) n x i (lcw w x (w 38 (n * 6 + i))) := by
      unfold folS
      refine itr_ind (fun j v => (FCl w u0 v S ∧ ∀ k, k < 50 → v k = w k) ∧ LKs w v n x i j) hv _ (fun j v hj hv => ?_)
      have st := hv.1.1.step ih (hS.fr hv.1.2) (hT.fr hv.1.2) ((ho.child hS hT hi hj).fr hv.1.2)
      refine ⟨⟨st.1, fun k hk => (st.2.1.2.2.1 k hk).trans (hv.1.2 k hk)⟩, fun i' hi' j' hj' => st.2.1.1 _ _ (hv.2.1 i' hi' j' hj'), fun j' hj' => ?_⟩
      rcases Nat.lt_or_ge j' j with z | z
      · exact st.2.1.1 _ _ (hv.2.2 j' z)
      · rw [show j' = j by omega]; exact st.2.2
    refine ⟨inner.1, fun i' hi' j' hj' => ?_, fun j' hj' => absurd hj' (Nat.not_lt_zero _)⟩
    rcases Nat.lt_or_ge i' i with z | z
    · exact inner.2.1 i' z j' hj'
    · have ei : i' = i := by omega
      subst ei
      exact inner.2.2 j' hj'
  exact ⟨key.1.1, fun i hi j hj => key.2.1 i hi j hj⟩
theorem need_cl : ∀ k, NCl k
  | 0 => by
    intro n x w hS hT ho
    have h1 := (hT.2 n ho.1).1
    have h2 := ho.2.2.2
    omega
  | k + 1 => by
    intro n x w hS hT ho hz
    rw [need_s]
    split
    · rename_i hb
      exact ⟨MS.rf w, hz, hb, fun m y _ hm => Or.inl hm⟩
    · have e1 := ((FRN.rf w).mark n x).1
      have s0 := MS.mk1 w n x
      have z0 := hz.mk1 n x
      have m0 : mkd (amk w n x) n x := (mkd_amk w n x n x).mpr (Or.inr ⟨rfl, rfl⟩)
      split
      · rename_i hk
        have hF : FCl w (amk w n x) (amk w n x) (fun m y => mkd w m y ∨ (m = n ∧ y = x)) := ⟨MS.rf _, z0, fun m y _ hm => Or.inl ((mkd_amk w n x m y).mp hm)⟩
        have f := fol_cl (need_cl k) hS hT ho e1 hF
        refine ⟨s0.tr f.1.1, f.1.2.1, f.1.1.1 _ _ m0, fun m y hy hm => ?_⟩
        rcases f.1.2.2 m y hy hm with (q | q) | q
        · exact Or.inl q
        · right
          obtain ⟨rfl, rfl⟩ := q
          intro _ i hi j hj
          have e : ∀ k', k' < 50 → fol k m y w (amk w m y) k' = w k' := fun k' hk' => (f.1.1.2.2.1 k' hk').trans (e1 k' hk')
          rw [lcw_fr e, e 38 (by decide)] at hj
          rw [e 37 (by decide)] at hi
          rw [lkw_fr e, e 38 (by decide), e 39 (by decide)]
          exact f.2 i hi j hj
        · exact Or.inr q
      · rename_i hk
        refine ⟨s0, z0, m0, fun m y hy hm => ?_⟩
        rcases (mkd_amk w n x m y).mp hm with q | q
        · exact Or.inl q
        · right
          obtain ⟨rfl, rfl⟩ := q
          exact fun z => absurd z hk
/-- where all links are needed, following does nothing -/
theorem need_id {k n x : Nat} {w : WW} (h : mkd w n x) : need k n x w = w := by
  cases k with
  | zero => rfl
  | succ k => rw [need_s, if_pos (show (w 52 x).testBit n = true from h)]
theorem fol_id {k n x : Nat} {w : WW} (h : Cl w n x) (hx : w 51 x = 10) : fol k n x w w = w := by
  unfold fol
  refine itr_id _ (fun i hi => ?_)
  unfold folS
  exact itr_id _ (fun j hj => need_id (h hx i hi j hj))
/-! ===== what holds in an ask of the needed and the called ===== -/
def CLA (w : WW) : Prop := ∀ m y, y < 192 → mkd w m y → Cl w m y
def inCall (w : WW) (x c i : Nat) : Prop := c < w 42 5 ∧ w 47 c = 3 ∧ i < w 46 c ∧ x = w 44 c * 32 + w 49 (w 48 c + i)
def QI (w : WW) : Prop := ∀ x, x < 192 → w 51 x = 12 → (∃ i, i < w 50 1 ∧ w 53 i = x) ∧ ∃ c i, inCall w x c i
def NV (w : WW) : Prop := ∀ x, x < 192 → w 51 x ≤ 5 ∨ 10 ≤ w 51 x
def CI (w : WW) (id : Nat) : Prop := CLA w ∧ NZ w ∧ QI w ∧ mkd w 0 id ∧ NV w
theorem NV.ms {w v : WW} (h : NV w) (s : MS w v) : NV v := by
  intro x hx
  rcases s.2.2.2.2 x with a | a
  · rw [a]; exact h x hx
  · omega
theorem CLA.fr {w v : WW} (h : CLA w) (e : ∀ k, 16 ≤ k ∧ k < 42 ∧ k ≠ 25 → v k = w k) (e52 : v 52 = w 52) (e51 : ∀ y, y < 192 → v 51 y = 10 → w 51 y = 10) : CLA v := by
  intro m y hy hm hk i hi j hj
  unfold mkd at hm ⊢
  rw [e52] at hm
  rw [e52]
  have lc : ∀ x f, lcw v x f = lcw w x f := fun x f => by unfold lcw; rw [e 20 (by decide), e 22 (by decide), e 27 (by decide), e 28 (by decide)]
  have lk : ∀ x f j, lkw v x f j = lkw w x f j := fun x f j => by unfold lkw; rw [e 20 (by decide), e 21 (by decide), e 27 (by decide), e 29 (by decide)]
  rw [lc, e 38 (by decide)] at hj
  rw [e 37 (by decide)] at hi
  rw [lk, e 38 (by decide), e 39 (by decide)]
  exact h m y hy hm (e51 y hy hk) i hi j hj
theorem NZ.fr {w v : WW} (h : NZ w) (e52 : v 52 = w 52) (e51 : ∀ y, y < 192 → w 51 y ≠ 0 → v 51 y ≠ 0) : NZ v := by
  intro y hy m hm
  unfold mkd at hm
  rw [e52] at hm
  exact e51 y hy (h y hy m hm)
/-- need in an ask -/
theorem need_ci {k n x id : Nat} {w : WW} (M : MI w) (ho : OKn w k n x) (h : CI w id) : CI (need k n x w) id := by
  obtain ⟨h1, h2, h3, h4, h5⟩ := h
  obtain ⟨i1, i2, i3, i4⟩ := need_cl k n x w M.1 M.2.1 ho h2
  refine ⟨fun m y hy hm => ?_, i2, fun y hy hf => ?_, i1.1 _ _ h4, h5.ms i1⟩
  · rcases i4 m y hy hm with q | q
    · exact (h1 m y hy q).mono (h2 y hy m q) i1
    · exact q
  · obtain ⟨⟨i, q1, q2⟩, c, i', q3⟩ := h3 y hy (i1.t12 hf)
    have e := i1.2.2.1
    refine ⟨⟨i, Nat.lt_of_lt_of_le q1 i1.2.2.2.1.1, by rw [i1.2.2.2.1.2 i q1]; exact q2⟩, c, i', ?_⟩
    unfold inCall
    rw [e 42 (by decide), e 44 (by decide), e 46 (by decide), e 47 (by decide), e 48 (by decide), e 49 (by decide)]
    exact q3
/-! ===== making calls ===== -/
/-- fates go from 11 to 12 or a reason; the rest stays -/
def FT (w v : WW) : Prop := ∀ y, y < 192 → v 51 y = w 51 y ∨ (w 51 y = 11 ∧ (v 51 y = 12 ∨ v 51 y = 4))
theorem FT.rf (w : WW) : FT w w := fun _ _ => Or.inl rfl
theorem FT.tr {u v w : WW} (h : FT u v) (h2 : FT v w) : FT u w := by
  intro y hy
  rcases h y hy with a | a
  · rcases h2 y hy with b | b
    · exact Or.inl (b.trans a)
    · exact Or.inr ⟨by rw [← a]; exact b.1, b.2⟩
  · rcases h2 y hy with b | b
    · exact Or.inr ⟨a.1, by rw [b]; exact a.2⟩
    · exact absurd b.1 (by omega)
theorem CI.ft {w v : WW} {id : Nat} (h : CI w id) (f : FT w v) (e : ∀ k, 16 ≤ k ∧ k < 42 ∧ k ≠ 25 → v k = w k) (e52 : v 52 = w 52) (q : QI v) : CI v id := by
  refine ⟨h.1.fr e e52 (fun y hy hk => ?_), h.2.1.fr e52 (fun y hy hk => ?_), q, ?_, fun y hy => ?_⟩
  · rcases f y hy with a | a
    · rw [← a]; exact hk
    · omega
  · rcases f y hy with a | a
    · rw [a]; exact hk
    · omega
  · unfold mkd
    rw [e52]
    exact h.2.2.2.1
  · have := h.2.2.2.2 y hy
    rcases f y hy with a | a <;> omega
theorem FT.take {w : WW} {h x : Nat} (hx : w 51 x = 11) : FT w (aTake w h x) := by
  intro y hy
  by_cases e : y = x
  · subst e
    right
    exact ⟨hx, Or.inl (show aTake w h y 51 y = 12 from va_up_self _ _ _)⟩
  · left
    exact va_up_ne _ _ e
theorem QI.begin {w : WW} (hq : QI w) (h t : Nat) : QI (aBegin w h t) := by
  intro x hx hf
  obtain ⟨q1, c, i, c1, c2, c3, c4⟩ := hq x hx hf
  refine ⟨q1, c, i, show c < w 42 5 + 1 by omega, ?_, ?_, ?_⟩
  · show va_up (w 47) (w 42 5) 3 c = 3
    rw [va_up_ne _ _ (by omega)]; exact c2
  · show i < va_up (w 46) (w 42 5) 0 c
    rw [va_up_ne _ _ (by omega)]; exact c3
  · show x = va_up (w 44) (w 42 5) t c * 32 + w 49 (va_up (w 48) (w 42 5) (w 42 9) c + i)
    rw [va_up_ne _ _ (by omega), va_up_ne _ _ (by omega)]; exact c4
theorem QI.take {w : WW} (hq : QI w) (hN : NM w) {h x q : Nat} (hx : x < 192) (hqx : q < w 50 1 ∧ w 53 q = x) (hn : 1 ≤ w 42 5) (hl : w 48 (w 42 5 - 1) + w 46 (w 42 5 - 1) = w 42 9) (ht : w 44 (w 42 5 - 1) = x / 32) (h3 : w 47 (w 42 5 - 1) = 3) : QI (aTake w h x) := by
  intro y hy hf
  by_cases e : y = x
  · subst e
    refine ⟨⟨q, hqx⟩, w 42 5 - 1, w 46 (w 42 5 - 1), show w 42 5 - 1 < w 42 5 by omega, h3, ?_, ?_⟩
    · show w 46 (w 42 5 - 1) < va_up (w 46) (w 42 5 - 1) (w 46 (w 42 5 - 1) + 1) (w 42 5 - 1)
      rw [va_up_self]; omega
    · show y = w 44 (w 42 5 - 1) * 32 + va_up (w 49) (w 42 9) (y % 32) (w 48 (w 42 5 - 1) + w 46 (w 42 5 - 1))
      rw [hl, va_up_self, ht]; omega
  · have hf : va_up (w 51) x 12 y = 12 := hf
    rw [va_up_ne _ _ e] at hf
    obtain ⟨q1, c, i, c1, c2, c3, c4⟩ := hq y hy hf
    have hc := (hN.2.2.2.2.2.2.2.2 c c1).1
    refine ⟨q1, c, i, c1, c2, ?_, ?_⟩
    · show i < va_up (w 46) (w 42 5 - 1) (w 46 (w 42 5 - 1) + 1) c
      unfold va_up
      split
      · rename_i e2; rw [e2] at c3; omega
      · exact c3
    · show y = w 44 c * 32 + va_up (w 49) (w 42 9) (x % 32) (w 48 c + i)
      rw [va_up_ne _ _ (show w 48 c + i ≠ w 42 9 by omega)]; exact c4
theorem tkg_q {b h t : Nat} (hb : b ≤ 8) : ∀ (m q tk : Nat) (w : WW), TKG w h t tk → w 47 (w 42 5 - 1) = 3 → q + m ≤ w 50 1 → QI w → QI (tkg b h t m q tk w) ∧ FT w (tkg b h t m q tk w)
  | 0, _, _, w, _, _, _, hq => ⟨hq, FT.rf w⟩
  | m + 1, q, tk, w, H, h3, hqm, hq => by
    rw [tkg_s]
    split
    · split
      · rename_i h1 h2
        have hxq := (H.1.2.2.1 q (by omega)).1
        have T := H.take hxq h2.1 h2.2 (by omega)
        obtain ⟨k1, k2, k3, k4, k5, k6, k7, k8, k9⟩ := id H
        have Q := hq.take (h := h) H.1.nm hxq ⟨by omega, rfl⟩ k3 k4 (by rw [k6, h2.2]) h3
        have r := tkg_q hb m (q + 1) (tk + 1) _ T.2 h3 (show q + 1 + m ≤ w 50 1 by omega) Q
        exact ⟨r.1, (FT.take h2.1).tr r.2⟩
      · exact tkg_q hb m (q + 1) tk w H h3 (by omega) hq
    · exact ⟨hq, FT.rf w⟩
theorem mkc_q {b h : Nat} (hb : b ≤ 8) : ∀ (m q : Nat) (w : WW), NI w → SO w → q + m ≤ w 50 1 → QI w → QI (mkc b h m q w) ∧ FT w (mkc b h m q w)
  | 0, _, w, _, _, _, hq => ⟨hq, FT.rf w⟩
  | m + 1, q, w, H, hS, hqm, hq => by
    rw [mkc_s]
    split
    · rename_i h1
      have hxq := (H.2.2.1 q (by omega)).1
      have T := H.first hS hxq h1.1 h1.2
      have e1 : (aBegin w h (w 53 q / 32)) 42 5 - 1 = w 42 5 := Nat.add_sub_cancel _ _
      have Q := (hq.begin h (w 53 q / 32)).take (h := h) (x := w 53 q) (q := q) (H.nm.begin h _ (by omega)) hxq ⟨show q < w 50 1 by omega, rfl⟩ (show 1 ≤ w 42 5 + 1 by omega) (by rw [e1]; show va_up _ _ _ _ + va_up _ _ _ _ = w 42 9; rw [va_up_self, va_up_self]; rfl) (by rw [e1]; exact va_up_self _ _ _) (by rw [e1]; exact va_up_self _ _ _)
      have r := tkg_q hb m (q + 1) 1 _ T.2 (by show va_up (w 47) (w 42 5) 3 (w 42 5 + 1 - 1) = 3; rw [Nat.add_sub_cancel, va_up_self]) (show q + 1 + m ≤ w 50 1 by omega) Q
      refine ⟨r.1, FT.tr ?_ r.2⟩
      exact FT.take (w := aBegin w h (w 53 q / 32)) h1.1
    · exact mkc_q hb m (q + 1) w H hS (by omega) hq
theorem rfs_q {h : Nat} : ∀ (m q : Nat) (u : WW), FT u (rfs h m q u)
  | 0, _, u => FT.rf u
  | m + 1, q, u => by
    rw [rfs_s]
    split
    · rename_i hx
      refine FT.tr (fun y hy => ?_) (rfs_q m (q + 1) _)
      by_cases e : y = u 53 q
      · subst e
        right
        exact ⟨hx.1, Or.inr (show up2 u 51 (u 53 q) 4 51 (u 53 q) = 4 from va_up_self _ _ _)⟩
      · left; exact va_up_ne _ _ e
    · exact rfs_q m (q + 1) u
theorem rfs_12 {h : Nat} : ∀ (m q : Nat) (u : WW) (y : Nat), rfs h m q u 51 y = 12 → u 51 y = 12
  | 0, _, _, _, e => e
  | m + 1, q, u, y, e => by
    rw [rfs_s] at e
    split at e
    · have z := rfs_12 m (q + 1) _ y e
      have z : va_up (u 51) (u 53 q) 4 y = 12 := z
      unfold va_up at z
      split at z
      · omega
      · exact z
    · exact rfs_12 m (q + 1) u y e
theorem QI.fr {w v : WW} (h : QI w) (e : ∀ k, k = 42 ∨ k = 44 ∨ k = 46 ∨ k = 47 ∨ k = 48 ∨ k = 49 ∨ k = 53 → v k = w k) (e50 : v 50 1 = w 50 1) (e51 : ∀ y, v 51 y = 12 → w 51 y = 12) : QI v := by
  intro x hx hf
  unfold inCall
  rw [e 42 (by decide), e 44 (by decide), e 46 (by decide), e 47 (by decide), e 48 (by decide), e 49 (by decide), e 53 (by decide), e50]
  exact h x hx (e51 x hf)
theorem aMake_q {w : WW} {h : Nat} (H : NI w) (hS : SO w) (hb : w (11 + h) 1 ≤ 8) (hq : QI w) : QI (aMake h w) ∧ FT w (aMake h w) := by
  have := H.2.2.2.2.2.2.1.1
  exact mkc_q hb _ _ w H hS (by omega) hq
theorem mks_q {h : Nat} (hh : h < 5) : ∀ (m : Nat) (w : WW), NI w → SO w → w (11 + h) 1 ≤ 8 → QI w → QI (mks h m w) ∧ FT w (mks h m w)
  | 0, w, _, _, _, hq => ⟨hq, FT.rf w⟩
  | m + 1, w, H, hS, hb, hq => by
    rw [mks_s]
    split
    · have f := aMake_fr (w := w) hh
      have a := aMake_q H hS hb hq
      have x := mks_q hh m (aMake h w) (aMake_ni H hS hb) (hS.fr2 (fun k hk => f.1 k hk.2)) (by rw [f.1 (11 + h) (by omega)]; exact hb) a.1
      exact ⟨x.1, a.2.tr x.2⟩
    · exact ⟨hq, FT.rf w⟩
theorem aTurn_q {w : WW} {h : Nat} (hh : h < 5) (M : MI w) (hq : QI w) : (QI (aTurn h w) ∧ FT w (aTurn h w)) ∧ aTurn h w 52 = w 52 := by
  obtain ⟨h1, h2, h3, h4, h5, h6, h7, h8, h9⟩ := id M
  have hH := h5 h hh
  unfold aTurn
  split
  · refine ⟨⟨hq.fr (fun k hk => aRefuse_k h w (by omega)) (by rw [aRefuse_k h w (by decide)]) (fun y hy => rfs_12 _ _ _ y hy), ?_⟩, aRefuse_k h w (by decide)⟩
    intro y hy
    exact rfs_q _ _ w y hy
  · split
    · split
      · have e : ∀ k, k ≠ 11 + h → (up2 w (11 + h) 8 (w 42 5)) k = w k := fun k hk => up2_k _ _ _ _ hk
        have eb : (up2 w (11 + h) 8 (w 42 5)) (11 + h) 1 = w (11 + h) 1 := up2_d _ _ _ _ (by decide)
        have a := aMake_q (w := up2 w (11 + h) 8 (w 42 5)) (h4.fr (fun k hk => e k (by omega))) (h1.fr2 (fun k hk => e k (by omega))) (by rw [eb]; exact hH.2.1.2) (hq.fr (fun k hk => e k (by omega)) (by rw [e 50 (by omega)]) (fun y hy => by rw [e 51 (by omega)] at hy; exact hy))
        refine ⟨⟨a.1, fun y hy => ?_⟩, ((aMake_fr hh).2.2.1).trans (e 52 (by omega))⟩
        have := a.2 y hy
        rw [e 51 (by omega)] at this
        exact this
      · exact ⟨⟨hq, FT.rf w⟩, rfl⟩
    · exact ⟨mks_q hh _ w h4 h1 hH.2.1.2 hq, (mks_mi hh _ w h4 h1 hH.2.1.2).2.2.2.1⟩
theorem aTurns_ci {w : WW} {id : Nat} (M : MI w) (h : CI w id) : ∀ n, n ≤ 5 → CI (aTurns n w) id
  | 0, _ => h
  | n + 1, hn => by
    have m := aTurns_mi M n (by omega)
    have c := aTurns_ci M h n (by omega)
    show CI (if 0 < aTurns n w 54 n then aTurn n (aTurns n w) else aTurns n w) id
    split
    · have q := aTurn_q (h := n) (by omega) m c.2.2.1
      exact c.ft q.1.2 (fun k hk => aTurn_k (by omega) m.1 m.2.2.2.1 m.2.2.2.2.1 (by omega) (by omega)) q.2 q.1.1
    · exact c
theorem aCalls_ci {w : WW} {id : Nat} (M : MI w) (h : CI w id) : CI (aCalls w) id := by
  have c := aTurns_ci M h 5 (Nat.le_refl _)
  have e := skp_k (aTurns 5 w) ((aTurns 5 w) 50 1 - (aTurns 5 w) 50 9) (aTurns 5 w) (fun _ _ => rfl) (fun _ _ => rfl)
  refine c.ft (v := aCalls w) (fun y hy => Or.inl ?_) (fun k hk => e.1 k (by omega)) (e.1 52 (by decide)) (c.2.2.1.fr (fun k hk => e.1 k (by omega)) (e.2 1 (by decide)) (fun y hy => ?_))
  · show skp _ _ 51 y = _
    rw [e.1 51 (by decide)]
  · have hy : skp _ _ 51 y = 12 := hy
    rw [e.1 51 (by decide)] at hy
    exact hy
