/-! ===== what comes back, and the end of a run ===== -/
theorem aKeep_52 (x : Nat) (w : WW) : aKeep x w 52 = w 52 := by
  unfold aKeep
  rw [kpw_k _ _ (by decide)]
  rfl
theorem aKeep_51 (x : Nat) (w : WW) : aKeep x w 51 = va_up (w 51) x 10 := by
  unfold aKeep
  rw [kpw_k _ _ (by decide)]
  rfl
theorem aKeep_50 (x : Nat) (w : WW) {k : Nat} (hk : k ≠ 25) (hk2 : k ≠ 51) : aKeep x w k = w k := by
  unfold aKeep
  rw [kpw_k _ _ hk, up2_k _ _ _ _ hk2]
/-- in learning x, behind n nodes -/
def LCl (w : WW) (x n : Nat) (u : WW) : Prop := NZ u ∧ MS (aKeep x w) u ∧ ∀ m y, y < 192 → mkd u m y → (y = x ∧ n ≤ m ∧ mkd w m x) ∨ Cl u m y
theorem lrn_cl {w : WW} (M : MI w) {x : Nat} (hx : x < 192) (h0 : w 51 x ≠ 0) (h11 : w 51 x ≠ 11) (hC : CLA w) (hZ : NZ w) (n : Nat) : LCl w x n (itr (lrnS x w) n (aKeep x w)) := by
  have q : (MI (itr (lrnS x w) n (aKeep x w)) ∧ FRG w (itr (lrnS x w) n (aKeep x w))) ∧ LCl w x n (itr (lrnS x w) n (aKeep x w)) := by
    refine itr_ind (fun n v => (MI v ∧ FRG w v) ∧ LCl w x n v) ⟨⟨aKeep_mi M hx h0 h11, aKeep_fr x w⟩, ?_, MS.rf _, ?_⟩ n (fun i b hi hb => ?_)
    · intro y hy m hm
      rw [aKeep_51]
      unfold va_up
      split
      · decide
      · unfold mkd at hm
        rw [aKeep_52] at hm
        exact hZ y hy m hm
    · intro m y hy hm
      unfold mkd at hm
      rw [aKeep_52] at hm
      by_cases e : y = x
      · exact Or.inl ⟨e, Nat.zero_le _, by rw [← e]; exact hm⟩
      · right
        intro hk i hi j hj
        have ek : ∀ k, k ≠ 25 → k ≠ 51 → aKeep x w k = w k := fun k k1 k2 => aKeep_50 x w k1 k2
        have lc : ∀ x' f, lcw (aKeep x w) x' f = lcw w x' f := fun x' f => by unfold lcw; rw [ek 20 (by decide) (by decide), ek 22 (by decide) (by decide), ek 27 (by decide) (by decide), ek 28 (by decide) (by decide)]
        have lk : ∀ x' f j, lkw (aKeep x w) x' f j = lkw w x' f j := fun x' f j => by unfold lkw; rw [ek 20 (by decide) (by decide), ek 21 (by decide) (by decide), ek 27 (by decide) (by decide), ek 29 (by decide) (by decide)]
        rw [aKeep_51, va_up_ne _ _ e] at hk
        rw [ek 37 (by decide) (by decide)] at hi
        rw [lc, ek 38 (by decide) (by decide)] at hj
        rw [lk, ek 38 (by decide) (by decide), ek 39 (by decide) (by decide)]
        unfold mkd
        rw [aKeep_52]
        exact hC m y hy hm hk i hi j hj
    · obtain ⟨⟨Mb, fb⟩, z1, z2, z3⟩ := hb
      have nx := lrn_itr M hx h0 h11 (i + 1)
      unfold lrnS
      split
      · rename_i hbit
        have o := lrn_ok M hx hbit
        have e := fb.1
        have ho : OKn b (5 - w 36 i + 1) i x := by
          unfold OKn
          rw [e 32 (by decide) (by decide), e 33 (by decide) (by decide), e 36 (by decide) (by decide)]
          exact ⟨o.1, hx, o.2.1, by omega⟩
        have qf := fol_mi Mb ho
        have f := fol_cl (S := fun m y => y = x ∧ i ≤ m ∧ mkd w m x) (need_cl (5 - w 36 i)) Mb.1 Mb.2.1 ho (fun _ _ => rfl) ⟨MS.rf b, z1, z3⟩
        refine ⟨⟨qf.1, fb.tr qf.2.g⟩, f.1.2.1, z2.tr f.1.1, fun m y hy hm => ?_⟩
        rcases f.1.2.2 m y hy hm with s | s
        · by_cases ei : m = i
          · right
            obtain ⟨rfl, s2, s3⟩ := s
            subst ei
            intro _ i' hi' j' hj'
            have e2 : ∀ k', k' < 50 → fol (5 - w 36 m) m y b b k' = b k' := qf.2.1
            rw [lcw_fr e2, e2 38 (by decide)] at hj'
            rw [e2 37 (by decide)] at hi'
            rw [lkw_fr e2, e2 38 (by decide), e2 39 (by decide)]
            exact f.2 i' hi' j' hj'
          · exact Or.inl ⟨s.1, by have := s.2.1; omega, s.2.2⟩
        · exact Or.inr s
      · rename_i hbit
        refine ⟨⟨Mb, fb⟩, z1, z2, fun m y hy hm => ?_⟩
        rcases z3 m y hy hm with s | s
        · left
          refine ⟨s.1, ?_, s.2.2⟩
          by_cases ei : m = i
          · subst ei; exact absurd s.2.2 hbit
          · have := s.2.1; omega
        · exact Or.inr s
  exact q.2
theorem lrn_end {w : WW} (M : MI w) {x : Nat} (hx : x < 192) (h0 : w 51 x ≠ 0) (h11 : w 51 x ≠ 11) (hC : CLA w) (hZ : NZ w) : CLA (aLearn x w) ∧ NZ (aLearn x w) ∧ MS (aKeep x w) (aLearn x w) := by
  obtain ⟨z1, z2, z3⟩ := lrn_cl M hx h0 h11 hC hZ (w 32 7)
  refine ⟨fun m y hy hm => ?_, z1, z2⟩
  rcases z3 m y hy hm with s | s
  · have := (M.2.2.2.2.2.2.2.2 x hx m s.2.2).1
    omega
  · exact s
/-- a thing that came back -/
def GQ (u v : WW) (x : Nat) : Prop := (CLA v ∧ NZ v) ∧ (∀ m y, mkd u m y → mkd v m y) ∧ (∀ y, v 51 y = 12 → u 51 y = 12 ∧ y ≠ x) ∧ (u 50 1 ≤ v 50 1 ∧ ∀ i, i < u 50 1 → v 53 i = u 53 i) ∧ (NV u → NV v)
theorem aGot_gq {u : WW} (M : MI u) {b x : Nat} (hx : x < 192) (h0 : u 51 x ≠ 0) (h11 : u 51 x ≠ 11) (hC : CLA u) (hZ : NZ u) : GQ u (aGot b x u) x := by
  have key : ∀ v, v ≤ 5 → v ≠ 0 → GQ u (up2 u 51 x v) x := by
    intro v hv hv0
    refine ⟨⟨hC.fr (fun k hk => up2_k _ _ _ _ (by omega)) rfl (fun y hy hk => ?_), hZ.fr rfl (fun y hy hk => ?_)⟩, fun m y h => h, fun y hy => ?_, ⟨Nat.le_refl _, fun _ _ => rfl⟩, fun hV y hy => ?_⟩
    · have hk : va_up (u 51) x v y = 10 := hk
      unfold va_up at hk
      split at hk
      · omega
      · exact hk
    · show va_up (u 51) x v y ≠ 0
      unfold va_up
      split
      · exact hv0
      · exact hk
    · have hy : va_up (u 51) x v y = 12 := hy
      unfold va_up at hy
      split at hy
      · omega
      · exact ⟨hy, by assumption⟩
    · show va_up (u 51) x v y ≤ 5 ∨ 10 ≤ va_up (u 51) x v y
      unfold va_up
      split
      · exact Or.inl hv
      · exact hV y hy
  unfold aGot
  split
  · exact key 3 (by decide) (by decide)
  · split
    · exact key 2 (by decide) (by decide)
    · obtain ⟨l1, l2, l3⟩ := lrn_end M hx h0 h11 hC hZ
      refine ⟨⟨l1, l2⟩, fun m y h => l3.1 m y (by unfold mkd; rw [aKeep_52]; exact h), fun y hy => ?_, ?_, fun hV => NV.ms (w := aKeep x u) (fun y hy => ?_) l3⟩
      · have z := l3.t12 hy
        rw [aKeep_51] at z
        unfold va_up at z
        split at z
        · omega
        · exact ⟨z, by assumption⟩
      · have z := l3.2.2.2.1
        rw [aKeep_50 x u (k := 50) (by decide) (by decide), aKeep_50 x u (k := 53) (by decide) (by decide)] at z
        exact z
      · rw [aKeep_51]
        unfold va_up
        split
        · omega
        · exact hV y hy
/-- in taking back call k, behind i of its things -/
def TQ (w u : WW) (k id i0 : Nat) : Prop := ((CLA u ∧ NZ u) ∧ mkd u 0 id ∧ NV u) ∧ ∀ x, x < 192 → u 51 x = 12 → (∃ i, i < u 50 1 ∧ u 53 i = x) ∧ ((∃ c i, c ≠ k ∧ inCall w x c i) ∨ ∃ i, i0 ≤ i ∧ i < w 46 k ∧ x = w 44 k * 32 + w 49 (w 48 k + i))
theorem aTB0_k {w : WW} {k b : Nat} {j : Nat} (hh : w 43 k < 5) (j1 : j < 11 ∨ 16 ≤ j) (j2 : j ≠ 42) (j3 : j ≠ 47) : aTB0 k b w j = w j := by
  unfold aTB0
  rw [aCame_k _ _ _ _ (by omega), aFin_k _ _ _ ⟨j2, j3⟩]
theorem tb_ci {w : WW} {id : Nat} (M : MI w) (h : CI w id) {k : Nat} (hk : k < w 42 5) (h3 : w 47 k = 3) : ∀ i, i ≤ w 46 k → TQ w (itr (tbS k w) i (aTB0 k (bdn w (w 43 k) (w 45 k)) w)) k id i
  | 0, _ => by
    have hh := (M.2.2.2.2.2.1.2.1 k hk).1
    show TQ w (aTB0 k (bdn w (w 43 k) (w 45 k)) w) k id 0
    have e : ∀ j, j < 11 ∨ 16 ≤ j → j ≠ 42 → j ≠ 47 → aTB0 k (bdn w (w 43 k) (w 45 k)) w j = w j := fun j j1 j2 j3 => aTB0_k hh j1 j2 j3
    obtain ⟨c1, c2, c3, c4, c5⟩ := h
    refine ⟨⟨⟨c1.fr (fun j hj => e j (by omega) (by omega) (by omega)) (e 52 (by decide) (by decide) (by decide)) (fun y _ hy => by rw [e 51 (by decide) (by decide) (by decide)] at hy; exact hy), c2.fr (e 52 (by decide) (by decide) (by decide)) (fun y _ hy => by rw [e 51 (by decide) (by decide) (by decide)]; exact hy)⟩, by unfold mkd; rw [e 52 (by decide) (by decide) (by decide)]; exact c4, by unfold NV; rw [e 51 (by decide) (by decide) (by decide)]; exact c5⟩, fun x hx hf => ?_⟩
    rw [e 51 (by decide) (by decide) (by decide)] at hf
    rw [e 50 (by decide) (by decide) (by decide), e 53 (by decide) (by decide) (by decide)]
    obtain ⟨q1, c, i, q2⟩ := c3 x hx hf
    refine ⟨q1, ?_⟩
    by_cases z : c = k
    · subst z
      exact Or.inr ⟨i, Nat.zero_le _, q2.2.2.1, q2.2.2.2⟩
    · exact Or.inl ⟨c, i, z, q2⟩
  | i + 1, hi => by
    have ih := tb_ci M h hk h3 i (by omega)
    have hq := tb_itr M hk h3 i (by omega)
    have hh := (M.2.2.2.2.2.1.2.1 k hk).1
    rw [itr_s]
    generalize itr (tbS k w) i (aTB0 k (bdn w (w 43 k) (w 45 k)) w) = u at *
    have e : ∀ j, j < 50 → j ≠ 25 → j ≠ 42 → j ≠ 47 → 16 ≤ j → u j = w j := fun j j1 j2 j3 j4 j5 => by
      rw [hq.2.1 j j1 j2]
      exact aTB0_k hh (Or.inr j5) j3 j4
    have e42 : u 42 5 = w 42 5 := by
      rw [hq.2.1 42 (by decide) (by decide)]
      unfold aTB0
      rw [aCame_k _ _ _ _ (by omega)]
      rfl
    have c := tb_call hq.1 (k := k) (i := i) (by rw [e42]; exact hk) (by rw [e 46 (by decide) (by decide) (by decide) (by decide) (by decide)]; omega)
    rw [e 44 (by decide) (by decide) (by decide) (by decide) (by decide), e 46 (by decide) (by decide) (by decide) (by decide) (by decide), e 48 (by decide) (by decide) (by decide) (by decide) (by decide), e 49 (by decide) (by decide) (by decide) (by decide) (by decide)] at c
    unfold tbS
    have g := aGot_gq hq.1 (b := bdn w (w 43 k) (w 45 k)) (x := w 44 k * 32 + w 49 (w 48 k + i)) (by omega) c.2.1 c.2.2 ih.1.1.1 ih.1.1.2
    obtain ⟨g1, g2, g3, g4, g5⟩ := g
    refine ⟨⟨g1, g2 _ _ ih.1.2.1, g5 ih.1.2.2⟩, fun x hx hf => ?_⟩
    obtain ⟨f1, f2⟩ := g3 x hf
    obtain ⟨⟨i', i1, i2⟩, q⟩ := ih.2 x hx f1
    refine ⟨⟨i', Nat.lt_of_lt_of_le i1 g4.1, by rw [g4.2 i' i1]; exact i2⟩, ?_⟩
    rcases q with q | ⟨j, j1, j2, j3⟩
    · exact Or.inl q
    · right
      refine ⟨j, ?_, j2, j3⟩
      by_cases z : j = i
      · subst z; exact absurd j3 f2
      · omega
theorem aTB_ci {w : WW} {id : Nat} (M : MI w) (h : CI w id) {k : Nat} (hk : k < w 42 5) (h3 : w 47 k = 3) : CI (aTB k w) id := by
  have hh := (M.2.2.2.2.2.1.2.1 k hk).1
  obtain ⟨⟨⟨t1, t2⟩, t3, t4⟩, t5⟩ := tb_ci M h hk h3 (w 46 k) (Nat.le_refl _)
  refine ⟨t1, t2, fun x hx hf => ?_, t3, t4⟩
  obtain ⟨q1, q2⟩ := t5 x hx hf
  refine ⟨q1, ?_⟩
  rcases q2 with ⟨c, i, z, c1, c2, c3, c4⟩ | ⟨i, i1, i2, _⟩
  · refine ⟨c, i, ?_, ?_, ?_, ?_⟩
    · rw [aTB_42 M hk h3]; exact c1
    · have q := (tb_itr M hk h3 _ (Nat.le_refl _)).2
      show itr (tbS k w) (w 46 k) _ 47 c = 3
      rw [q.1 47 (by decide) (by decide)]
      unfold aTB0
      rw [aCame_k _ _ _ _ (by omega)]
      show va_up (w 47) k _ c = 3
      rw [va_up_ne _ _ z]
      exact c2
    · rw [aTB_k M hk h3 (by decide) (by decide) (by decide) (by decide) (by decide)]; exact c3
    · rw [aTB_k M hk h3 (j := 44) (by decide) (by decide) (by decide) (by decide) (by decide), aTB_k M hk h3 (j := 48) (by decide) (by decide) (by decide) (by decide) (by decide), aTB_k M hk h3 (j := 49) (by decide) (by decide) (by decide) (by decide) (by decide)]; exact c4
  · omega
theorem aBB_ci {id : Nat} : ∀ (m k : Nat) (w : WW), MI w → CI w id → k + m ≤ w 42 5 → CI (aBB m k w) id
  | 0, _, _, _, h, _ => h
  | m + 1, k, w, M, h, hk => by
    rw [aBB_s]
    split
    · rename_i c
      exact aBB_ci m (k + 1) _ (aTB_mi M (by omega) c.1) (aTB_ci M h (by omega) c.1) (by rw [aTB_42 M (by omega) c.1]; omega)
    · exact aBB_ci m (k + 1) w M h (by omega)
theorem aBack_ci {w : WW} {id : Nat} (M : MI w) (h : CI w id) : CI (aBack w) id := by
  have := M.2.2.2.2.2.1.1
  exact aBB_ci _ _ w M h (by omega)
theorem aGo_ci {w : WW} {id t : Nat} (h : CI w id) : CI (aGo t w) id := by
  have e : ∀ k, k ≠ 1 → k ≠ 5 → aGo t w k = w k := fun k k1 k2 => aGo_k t w ⟨k1, k2⟩
  exact h.ft (fun y hy => Or.inl (by rw [e 51 (by decide) (by decide)])) (fun k hk => e k (by omega) (by omega)) (e 52 (by decide) (by decide)) (h.2.2.1.fr (fun k hk => e k (by omega) (by omega)) (by rw [e 50 (by decide) (by decide)]) (fun y hy => by rw [e 51 (by decide) (by decide)] at hy; exact hy))
/-! ===== the end of a run ===== -/
def FIN (w : WW) (id : Nat) : Prop := (∀ x, x < 192 → w 51 x ≤ 5 ∨ w 51 x = 10) ∧ CLA w ∧ NZ w ∧ mkd w 0 id
def RES (w v : WW) (id : Nat) : Prop := HO v ∧ TN1 v ∧ KO v ∧ AO v ∧ FIN v id ∧ (∀ k, k < 42 → k ≠ 1 → k ≠ 5 → k ≠ 25 → (k < 11 ∨ 16 ≤ k) → v k = w k) ∧ (∀ k, 54 < k → v k = w k)
theorem aFG2_51 : ∀ (m q : Nat) (u : WW) (x : Nat), (aFG2 m q u 51 x = u 51 x ∨ aFG2 m q u 51 x = 5 ∧ (u 51 x = 11 ∨ u 51 x = 12)) ∧ ((∃ i, q ≤ i ∧ i < q + m ∧ u 53 i = x) → aFG2 m q u 51 x ≠ 11 ∧ aFG2 m q u 51 x ≠ 12)
  | 0, q, u, x => ⟨Or.inl rfl, fun ⟨i, h1, h2, _⟩ => absurd h1 (by omega)⟩
  | m + 1, q, u, x => by
    rw [aFG2_s]
    split
    · rename_i c
      have ih := aFG2_51 m (q + 1) (up2 u 51 (u 53 q) 5) x
      have e : up2 u 51 (u 53 q) 5 51 x = if x = u 53 q then 5 else u 51 x := rfl
      have e53 : up2 u 51 (u 53 q) 5 53 = u 53 := rfl
      rw [e] at ih
      rw [e53] at ih
      by_cases z : x = u 53 q
      · rw [if_pos z] at ih
        rw [z]
        rw [z] at ih
        refine ⟨Or.inr ⟨?_, c⟩, fun _ => ?_⟩
        · rcases ih.1 with y | y
          · exact y
          · omega
        · rcases ih.1 with y | y <;> omega
      · rw [if_neg z] at ih
        refine ⟨ih.1, fun ⟨i, i1, i2, i3⟩ => ih.2 ⟨i, ?_, by omega, i3⟩⟩
        rcases Nat.lt_or_ge q i with y | y
        · exact y
        · exact absurd (show x = u 53 q by rw [← i3, show i = q by omega]) z
    · rename_i c
      have ih := aFG2_51 m (q + 1) u x
      refine ⟨ih.1, fun ⟨i, i1, i2, i3⟩ => ?_⟩
      rcases Nat.lt_or_ge q i with y | y
      · exact ih.2 ⟨i, y, by omega, i3⟩
      · have ei : i = q := by omega
        subst ei
        rw [i3] at c
        rcases ih.1 with z | z <;> omega
theorem forget_res {w : WW} {id : Nat} (M : MI w) (h : CI w id) (hA : AO w) : RES w (aForget w) id := by
  obtain ⟨f1, f2, f3⟩ := aForget_ok M
  obtain ⟨c1, c2, c3, c4, c5⟩ := h
  have h1 := M.2.2.2.2.2.1.1
  have q := aFG1_ok (w 42 5 - w 42 6) (w 42 6) w (FGI.beg M) (TF.beg M) (by omega)
  have e51 : (aFG1 (w 42 5 - w 42 6) (w 42 6) w) 51 = w 51 := q.2 51 (by decide) (by decide)
  have e53 : (aFG1 (w 42 5 - w 42 6) (w 42 6) w) 53 = w 53 := q.2 53 (by decide) (by decide)
  have F := fun x => aFG2_51 (w 50 1) 0 (aFG1 (w 42 5 - w 42 6) (w 42 6) w) x
  have F : ∀ x, (aForget w 51 x = w 51 x ∨ aForget w 51 x = 5 ∧ (w 51 x = 11 ∨ w 51 x = 12)) ∧ ((∃ i, 0 ≤ i ∧ i < 0 + w 50 1 ∧ w 53 i = x) → aForget w 51 x ≠ 11 ∧ aForget w 51 x ≠ 12) := by
    intro x
    have := F x
    rw [e51, e53] at this
    exact this
  have e52 := f3 52 (by decide) (by decide) (by decide)
  refine ⟨f1, f2, M.2.2.1.fr2 (f3 1 (by decide) (by decide) (by decide)) (f3 25 (by decide) (by decide) (by decide)), ?_, ⟨fun x hx => ?_, c1.fr (fun k hk => f3 k (by omega) (by omega) (by omega)) e52 (fun y hy hk => ?_), c2.fr e52 (fun y hy hk => ?_), by unfold mkd; rw [e52]; exact c4⟩, fun k k1 k2 k3 k4 k5 => f3 k k5 (by omega) (by omega), fun k hk => f3 k (by omega) (by omega) (by omega)⟩
  · unfold AO
    rw [f3 2 (by decide) (by decide) (by decide), f3 3 (by decide) (by decide) (by decide), f3 4 (by decide) (by decide) (by decide), f3 5 (by decide) (by decide) (by decide)]
    exact hA
  · have a := M.2.2.2.1.1 x hx
    have b := c5 x hx
    have n11 : aForget w 51 x ≠ 11 := by
      intro z
      have w11 : w 51 x = 11 := by rcases (F x).1 with y | y <;> omega
      obtain ⟨⟨i, i1, i2, i3⟩, _⟩ := M.2.2.2.1.2.2.2.2.1 x hx w11
      exact ((F x).2 ⟨i, Nat.zero_le _, by omega, i3⟩).1 z
    have n12 : aForget w 51 x ≠ 12 := by
      intro z
      have w12 : w 51 x = 12 := by rcases (F x).1 with y | y <;> omega
      obtain ⟨⟨i, i2, i3⟩, _⟩ := c3 x hx w12
      exact ((F x).2 ⟨i, Nat.zero_le _, by omega, i3⟩).2 z
    rcases (F x).1 with y | y <;> omega
  · rcases (F y).1 with z | z <;> omega
  · rcases (F y).1 with z | z <;> omega
theorem done_res {w : WW} {id : Nat} (M : MI w) (h : CI w id) (hA : AO w) (hd : done w) : RES w w id := by
  obtain ⟨c1, c2, c3, c4, c5⟩ := h
  obtain ⟨h1, h2, h3, h4, h5, h6, h7, h8, h9⟩ := M
  refine ⟨h5, fun g hg => ?_, h3, hA, ⟨fun x hx => ?_, c1, c2, c4⟩, fun _ _ _ _ _ _ => rfl, fun _ _ => rfl⟩
  · rcases h7 g hg with t | ⟨t1, t2, t3, t4⟩
    · exact t
    · have := hd.1
      exact absurd t2 (h6.2.2.1 _ (by omega))
  · have a := h4.1 x hx
    have b := c5 x hx
    have n11 : w 51 x ≠ 11 := by
      intro z
      obtain ⟨⟨i, i1, i2, i3⟩, _⟩ := h4.2.2.2.2.1 x hx z
      have := hd.2
      omega
    have n12 : w 51 x ≠ 12 := by
      intro z
      obtain ⟨_, c, i, k1, k2, _⟩ := c3 x hx z
      have := hd.1
      exact h6.2.2.1 c (by omega) k2
    omega
theorem aCalls_54 {w : WW} (M : MI w) {k : Nat} (hk : 54 < k) : aCalls w k = w k := by
  unfold aCalls
  rw [(skp_k (aTurns 5 w) _ _ (fun _ _ => rfl) (fun _ _ => rfl)).1 k (by omega)]
  have : ∀ n, n ≤ 5 → aTurns n w k = w k := by
    intro n
    induction n with
    | zero => intro _; rfl
    | succ n ih =>
      intro hn
      have m := aTurns_mi M n (by omega)
      show (if 0 < aTurns n w 54 n then aTurn n (aTurns n w) else aTurns n w) k = w k
      split
      · rw [← ih (by omega)]
        unfold aTurn
        split
        · exact aRefuse_k _ _ (by omega)
        · split
          · split
            · rw [(aMake_fr (w := up2 (aTurns n w) (11 + n) 8 (aTurns n w 42 5)) (by omega)).2.2.2.2.2.2.2.2 k hk, up2_k _ _ _ _ (by omega)]
            · rfl
          · exact (mks_mi (by omega) _ _ m.2.2.2.1 m.1 (m.2.2.2.2.1 n (by omega)).2.1.2).2.2.2.2.2.2.2.2.2 k hk
      · exact ih (by omega)
  exact this 5 (Nat.le_refl _)
theorem aTB_54 {w : WW} (M : MI w) {k : Nat} (hk : k < w 42 5) (h3 : w 47 k = 3) {j : Nat} (hj : 54 < j) : aTB k w j = w j := by
  have hh := (M.2.2.2.2.2.1.2.1 k hk).1
  have q := (tb_itr M hk h3 _ (Nat.le_refl _)).2
  show itr (tbS k w) (w 46 k) _ j = w j
  rw [q.2.1 j hj]
  exact aTB0_k hh (Or.inr (by omega)) (by omega) (by omega)
theorem aBB_54 : ∀ (m k : Nat) (w : WW), MI w → k + m ≤ w 42 5 → ∀ j, 54 < j → aBB m k w j = w j
  | 0, _, w, _, _, _, _ => rfl
  | m + 1, k, w, M, hk, j, hj => by
    rw [aBB_s]
    split
    · rename_i h
      rw [aBB_54 m (k + 1) _ (aTB_mi M (by omega) h.1) (by rw [aTB_42 M (by omega) h.1]; omega) j hj]
      exact aTB_54 M (by omega) h.1 hj
    · exact aBB_54 m (k + 1) w M (by omega) j hj
theorem rlp_res {id : Nat} : ∀ (m : Nat) (w : WW), MI w → CI w id → AO w → w 1 4 + m ≤ 100000 → RES w (rlp m w) id
  | 0, w, M, h, hA, _ => forget_res M h hA
  | m + 1, w, M, h, hA, hn => by
    have M2 := aCalls_mi M
    have C2 := aCalls_ci M h
    have ek : ∀ k, k < 42 → k < 11 ∨ 16 ≤ k → aCalls w k = w k := fun k k1 k2 => aCalls_k M k1 k2
    have hA2 : AO (aCalls w) := by
      unfold AO
      rw [ek 2 (by decide) (by decide), ek 3 (by decide) (by decide), ek 4 (by decide) (by decide), ek 5 (by decide) (by decide)]
      exact hA
    have e1 : aCalls w 1 4 = w 1 4 := by rw [ek 1 (by decide) (by decide)]
    rw [rlp_s]
    split
    · rename_i hd
      obtain ⟨r1, r2, r3, r4, r5, r6, r7⟩ := done_res M2 C2 hA2 hd
      exact ⟨r1, r2, r3, r4, r5, fun k k1 k2 k3 k4 k5 => ek k k1 k5, fun k hk => aCalls_54 M hk⟩
    · have M3 := aGo_mi M2 (t := 1) (by omega)
      have C3 := aGo_ci (t := 1) C2
      have M4 := aBack_mi M3
      have C4 := aBack_ci M3 C3
      have hA4 : AO (aBack (aGo 1 (aCalls w))) := by
        unfold AO
        rw [aBack_k M3 (by decide) (by decide) (by decide), aBack_k M3 (by decide) (by decide) (by decide), aBack_k M3 (by decide) (by decide) (by decide), aBack_k M3 (by decide) (by decide) (by decide)]
        exact hA2.go 1
      have e14 : aBack (aGo 1 (aCalls w)) 1 4 = w 1 4 + 1 := by
        rw [aBack_k M3 (by decide) (by decide) (by decide), ← e1]
        rfl
      obtain ⟨r1, r2, r3, r4, r5, r6, r7⟩ := rlp_res m _ M4 C4 hA4 (by omega)
      refine ⟨r1, r2, r3, r4, r5, fun k k1 k2 k3 k4 k5 => ?_, fun k hk => ?_⟩
      · rw [r6 k k1 k2 k3 k4 k5, aBack_k M3 k1 k4 k5, aGo_k _ _ ⟨k2, k3⟩, ek k k1 k5]
      · have hcc := M3.2.2.2.2.2.1.1
        rw [r7 k hk, show aBack (aGo 1 (aCalls w)) k = aGo 1 (aCalls w) k from aBB_54 _ _ _ M3 (by omega) k hk, aGo_k _ _ (by omega), aCalls_54 M hk]
theorem start_ci {w : WW} {id r : Nat} (B : BI w) (hT : TO w) (ho : OKn (aSet r w) 5 0 id) : CI (need 5 0 id (aSet r w)) id := by
  have M0 := aSet_mi B hT r
  have e51 : ∀ x, x < 192 → aSet r w 51 x = 0 := fun x hx => if_pos ⟨Nat.zero_le _, hx⟩
  have e52 : ∀ x, x < 192 → aSet r w 52 x = 0 := fun x hx => if_pos ⟨Nat.zero_le _, hx⟩
  have nz : NZ (aSet r w) := fun y hy m hm => by unfold mkd at hm; rw [e52 y hy] at hm; simp at hm
  obtain ⟨i1, i2, i3, i4⟩ := need_cl 5 0 id (aSet r w) M0.1 M0.2.1 ho nz
  refine ⟨fun m y hy hm => ?_, i2, fun y hy hf => ?_, i3, NV.ms (w := aSet r w) (fun x hx => by rw [e51 x hx]; omega) i1⟩
  · rcases i4 m y hy hm with q | q
    · unfold mkd at q; rw [e52 y hy] at q; simp at q
    · exact q
  · have := i1.t12 hf
    rw [e51 y hy] at this
    omega
theorem aRun_res {w : WW} {id t r : Nat} (B : BI w) (hT : TO w) (hid : id < 192) (h0 : 0 < w 32 7 ∧ id / 32 = w 33 0 ∧ w 36 0 = 1) (hnow : w 1 4 + t ≤ 100000) : RES w (aRun id t r w) id := by
  have M0 := aSet_mi B hT r
  have ho : OKn (aSet r w) 5 0 id := by
    unfold OKn
    rw [aSet_k r w (show 32 ≠ 42 ∧ 32 ≠ 50 ∧ 32 ≠ 51 ∧ 32 ≠ 52 ∧ 32 ≠ 54 by decide), aSet_k r w (show 33 ≠ 42 ∧ 33 ≠ 50 ∧ 33 ≠ 51 ∧ 33 ≠ 52 ∧ 33 ≠ 54 by decide), aSet_k r w (show 36 ≠ 42 ∧ 36 ≠ 50 ∧ 36 ≠ 51 ∧ 36 ≠ 52 ∧ 36 ≠ 54 by decide)]
    exact ⟨h0.1, hid, h0.2.1, by rw [h0.2.2]⟩
  have M1 := need_mi M0 ho
  have C1 := start_ci B hT ho
  have hA : AO (need 5 0 id (aSet r w)) := by
    unfold AO
    rw [M1.2.1 2 (by decide), M1.2.1 3 (by decide), M1.2.1 4 (by decide), M1.2.1 5 (by decide), aSet_k r w (by decide), aSet_k r w (by decide), aSet_k r w (by decide), aSet_k r w (by decide)]
    exact B.2.2.2.2.2.1
  obtain ⟨r1, r2, r3, r4, r5, r6, r7⟩ := rlp_res t _ M1.1 C1 hA (by rw [M1.2.1 1 (by decide), aSet_k r w (by decide)]; exact hnow)
  refine ⟨r1, r2, r3, r4, r5, fun k k1 k2 k3 k4 k5 => ?_, fun k hk => ?_⟩
  · rw [show aRun id t r w k = rlp t (need 5 0 id (aSet r w)) k from rfl, r6 k k1 k2 k3 k4 k5, M1.2.1 k (by omega), aSet_k r w (by omega)]
  · rw [show aRun id t r w k = rlp t (need 5 0 id (aSet r w)) k from rfl, r7 k hk, M1.2.2.1 k hk, aSet_k r w (by omega)]
