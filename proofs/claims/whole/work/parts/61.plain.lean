/-! ===== the plain calls, both sides ===== -/
theorem nI_inj {a b : Nat} (ha : a < 2147483648) (hb : b < 2147483648) (h : nI a = nI b) : b = a := ((nI_eq ha hb).mp h).symm
theorem Sim.now {w : WW} (S : Sim w) : w 57 1 = w 1 4 ∧ w 1 4 ≤ 100000 := ⟨S.2.2.2.2.2.2.2.2.2.2.2.2.2.1.1, S.2.1.1⟩
theorem Sim.eq {w : WW} (S : Sim w) (p : Nat × Nat) (hp : p ∈ EQA) : w p.1 = w p.2 := S.2.2.2.2.2.2.2.2.2.2.1 p hp
theorem pr_helper {d : Nat} {w : WW} {τ : Nat → Nat → Int64} {K : Int32 → Sto → Prop} {x1 x2 x3 x4 x5 x6 : Int32} (S : Sim w) (hk : ∀ r w', Sim w' → K r (stt (nw w') τ)) : PR d 56 80 [.ref 0, .int x1, .int x2, .int x3, .int x4, .int x5, .int x6] [.ref 57, .int x1, .int x2, .int x3, .int x4, .int x5, .int x6] w τ K := by
  refine x_56 (d := d + 38) (fun h dl bt rt fl wt a1 a2 a3 a4 a5 a6 a7 a8 a9 a10 e1 e2 e3 e4 e5 e6 => ⟨1, rfl, ?_⟩) (fun hf => ⟨0, rfl, ?_⟩)
  · subst e1 e2 e3 e4 e5 e6
    rw [show c_helper (nw w) h dl bt rt fl wt = nw (aHlp w h dl bt rt fl wt) from by
      unfold c_helper aHlp
      rw [nw_up (n := dl) rfl, nw_up (n := bt) rfl, nw_up (n := rt) rfl, nw_up (n := fl) rfl, nw_up (n := wt) rfl, nw_close]]
    refine x_80 (d := d + 38) (fun h' dl' bt' rt' fl' wt' b1 b2 b3 b4 b5 b6 b7 b8 b9 b10 g1 g2 g3 g4 g5 g6 => ⟨rfl, ?_⟩) (fun hf => absurd ⟨⟨h, by omega, by omega, rfl⟩, ⟨dl, by omega, by omega, rfl⟩, ⟨bt, by omega, by omega, rfl⟩, ⟨rt, by omega, by omega, rfl⟩, ⟨fl, by omega, by omega, rfl⟩, ⟨wt, by omega, by omega, rfl⟩⟩ hf)
    have q1 := nI_inj (by omega) (by omega) g1
    have q2 := nI_inj (by omega) (by omega) g2
    have q3 := nI_inj (by omega) (by omega) g3
    have q4 := nI_inj (by omega) (by omega) g4
    have q5 := nI_inj (by omega) (by omega) g5
    have q6 := nI_inj (by omega) (by omega) g6
    subst q1 q2 q3 q4 q5 q6
    rw [show m_helper (nw (aHlp w h' dl' bt' rt' fl' wt')) h' dl' bt' rt' fl' wt' = nw (mHlp (aHlp w h' dl' bt' rt' fl' wt') h' dl' bt' rt' fl' wt') from by
      unfold m_helper mHlp
      rw [nw_up (n := dl') rfl, nw_up (n := bt') rfl, nw_up (n := rt') rfl, nw_up (n := fl') rfl, nw_up (n := wt') rfl, nw_up (v := 0) (n := 0) rfl, nw_up (v := -1) (n := N1) rfl]]
    exact hk 1 _ (sim_helper S a1 a2 a3 a4 a5 a6 a7 a8 a9 a10)
  · refine x_80 (d := d + 38) (fun h' dl' bt' rt' fl' wt' b1 b2 b3 b4 b5 b6 b7 b8 b9 b10 g1 g2 g3 g4 g5 g6 => absurd ⟨⟨h', by omega, by omega, g1⟩, ⟨dl', by omega, by omega, g2⟩, ⟨bt', by omega, by omega, g3⟩, ⟨rt', by omega, by omega, g4⟩, ⟨fl', by omega, by omega, g5⟩, ⟨wt', by omega, by omega, g6⟩⟩ hf) (fun _ => ⟨rfl, hk 0 w S⟩)
theorem pr_down {d : Nat} {w : WW} {τ : Nat → Nat → Int64} {K : Int32 → Sto → Prop} {x1 x2 x3 : Int32} (S : Sim w) (hk : ∀ r w', Sim w' → K r (stt (nw w') τ)) : PR d 58 82 [.ref 0, .int x1, .int x2, .int x3] [.ref 57, .int x1, .int x2, .int x3] w τ K := by
  have e10 : w 57 10 = w 6 1 := S.2.2.2.2.2.2.2.2.2.2.2.1
  have h20 : w 6 1 ≤ 20 := S.2.2.2.1.1
  refine x_58 (d := d + 38) (σ := nw w) (n := w 6 1) rfl h20 (fun h f t a1 a2 a3 a4 e1 e2 e3 => ⟨_, rfl, ?_⟩) (fun hf => ⟨_, rfl, ?_⟩)
  · subst e1 e2 e3
    rw [show c_down (nw w) (w 6 1) (nI h) (nI f) (nI t) = nw (up2 (up2 (up2 (up2 w 8 (w 6 1) h) 9 (w 6 1) f) 10 (w 6 1) t) 6 1 (w 6 1 + 1)) from by
      unfold c_down
      rw [nw_up (n := h) rfl, nw_up (n := f) rfl, nw_up (n := t) rfl, nw_up (n := w 6 1 + 1) (nI_1 _)]]
    refine x_82 (d := d + 38) (n := w 6 1) (congrArg nI e10) h20 (fun h' f' t' b1 b2 b3 b4 g1 g2 g3 => ⟨rfl, ?_⟩) (fun hf => absurd ⟨⟨h, by omega, by omega, rfl⟩, ⟨t, by omega, by omega, rfl⟩, fun t2 ht2 => ⟨f, by omega, by rcases Nat.lt_or_ge t2 2147483648 with z | z; have := nI_inj (by omega) z ht2; omega; omega, rfl⟩, a4⟩ hf)
    have q1 := nI_inj (by omega) (by omega) g1
    have q2 := nI_inj (by omega) (by omega) g2
    have q3 := nI_inj (by omega) (by omega) g3
    subst q1 q2 q3
    unfold m_down
    rw [nw_up (n := h') rfl, nw_up (n := f') rfl, nw_up (n := t') rfl, nw_up (n := w 6 1 + 1) (nI_1 _)]
    exact hk _ _ (sim_down S a1 a2 a3 a4)
  · refine x_82 (d := d + 38) (σ := nw w) (n := w 6 1) (congrArg nI e10) h20 (fun h' f' t' b1 b2 b3 b4 g1 g2 g3 => absurd ⟨⟨h', by omega, by omega, g1⟩, ⟨t', by omega, by omega, g3⟩, fun t2 ht2 => ⟨f', by omega, by rw [g3] at ht2; rcases Nat.lt_or_ge t2 2147483648 with z | z; have := nI_inj (by omega) z ht2; omega; omega, g2⟩, b4⟩ hf) (fun _ => ⟨rfl, hk _ w S⟩)
theorem pr_type {d : Nat} {w : WW} {τ : Nat → Nat → Int64} {K : Int32 → Sto → Prop} {x1 x2 x3 x4 : Int32} (S : Sim w) (hk : ∀ r w', Sim w' → K r (stt (nw w') τ)) : PR d 59 83 [.ref 0, .int x1, .int x2, .int x3, .int x4] [.ref 57, .int x1, .int x2, .int x3, .int x4] w τ K := by
  refine x_59 (d := d + 38) (σ := nw w) (fun t h p l a1 a2 a3 a4 a5 e1 e2 e3 e4 => ⟨_, rfl, ?_⟩) (fun hf => ⟨_, rfl, ?_⟩)
  · subst e1 e2 e3 e4
    unfold c_type
    rw [nw_up (n := h) rfl, nw_up (n := p) rfl, nw_up (n := l) rfl, nw_fl _ 25 _ _ 0 (v := 0) rfl]
    refine x_83 (d := d + 38) (fun t' h' p' l' b1 b2 b3 b4 b5 g1 g2 g3 g4 => ⟨rfl, ?_⟩) (fun hf => absurd ⟨⟨t, by omega, by omega, rfl⟩, ⟨h, by omega, by omega, rfl⟩, ⟨p, by omega, by omega, rfl⟩, ⟨l, by omega, by omega, rfl⟩⟩ hf)
    have q1 := nI_inj (by omega) (by omega) g1
    have q2 := nI_inj (by omega) (by omega) g2
    have q3 := nI_inj (by omega) (by omega) g3
    have q4 := nI_inj (by omega) (by omega) g4
    subst q1 q2 q3 q4
    unfold m_type
    rw [nw_up (n := h') rfl, nw_up (n := p') rfl, nw_up (n := l') rfl, nw_fl _ 81 _ _ N1 (v := -1) rfl]
    exact hk _ _ (sim_type S a1 a2 a3 a4 a5)
  · exact x_83 (d := d + 38) (σ := nw w) (fun t' h' p' l' b1 b2 b3 b4 b5 g1 g2 g3 g4 => absurd ⟨⟨t', by omega, by omega, g1⟩, ⟨h', by omega, by omega, g2⟩, ⟨p', by omega, by omega, g3⟩, ⟨l', by omega, by omega, g4⟩⟩ hf) (fun _ => ⟨rfl, hk _ w S⟩)
theorem b01 {x : Int32} (h : x = 0 ∨ x = 1) : ∃ b, b ≤ 1 ∧ x = nI b := by
  rcases h with h | h
  · exact ⟨0, by decide, h⟩
  · exact ⟨1, by decide, h⟩
theorem pr_field {d : Nat} {w : WW} {τ : Nat → Nat → Int64} {K : Int32 → Sto → Prop} {x1 x2 x3 x4 x5 x6 : Int32} (hb : x6 = 0 ∨ x6 = 1) (S : Sim w) (hk : ∀ r w', Sim w' → K r (stt (nw w') τ)) : PR d 60 84 [.ref 0, .int x1, .int x2, .int x3, .int x4, .int x5, .int x6] [.ref 57, .int x1, .int x2, .int x3, .int x4, .int x5, .int x6] w τ K := by
  obtain ⟨b, hb1, eb⟩ := b01 hb
  refine x_60 (d := d + 38) (σ := nw w) hb (fun t f k o m a1 a2 a3 a4 a5 a6 e1 e2 e3 e4 e5 => ⟨_, rfl, ?_⟩) (fun hf => ⟨_, rfl, ?_⟩)
  · subst e1 e2 e3 e4 e5
    unfold c_field
    rw [nw_up (n := k) rfl, nw_up (n := o) rfl, nw_up (n := m) rfl, nw_up (n := b) eb]
    refine x_84 (d := d + 38) hb (fun t' f' k' o' m' b1 b2 b3 b4 b5 b6 g1 g2 g3 g4 g5 => ⟨rfl, ?_⟩) (fun hf => absurd ⟨⟨t, by omega, by omega, rfl⟩, ⟨f, by omega, by omega, rfl⟩, ⟨k, by omega, by omega, rfl⟩, ⟨o, by omega, by omega, rfl⟩, ⟨m, by omega, by omega, rfl⟩⟩ hf)
    have q1 := nI_inj (by omega) (by omega) g1
    have q2 := nI_inj (by omega) (by omega) g2
    have q3 := nI_inj (by omega) (by omega) g3
    have q4 := nI_inj (by omega) (by omega) g4
    have q5 := nI_inj (by omega) (by omega) g5
    subst q1 q2 q3 q4 q5
    unfold m_field
    rw [nw_up (n := k') rfl, nw_up (n := o') rfl, nw_up (n := m') rfl, nw_up (n := b) eb]
    exact hk _ _ (sim_field S a3 a4 a5 a6 hb1)
  · exact x_84 (d := d + 38) (σ := nw w) hb (fun t' f' k' o' m' b1 b2 b3 b4 b5 b6 g1 g2 g3 g4 g5 => absurd ⟨⟨t', by omega, by omega, g1⟩, ⟨f', by omega, by omega, g2⟩, ⟨k', by omega, by omega, g3⟩, ⟨o', by omega, by omega, g4⟩, ⟨m', by omega, by omega, g5⟩⟩ hf) (fun _ => ⟨rfl, hk _ w S⟩)
theorem pr_thing {d : Nat} {w : WW} {τ : Nat → Nat → Int64} {K : Int32 → Sto → Prop} {x1 x2 x3 : Int32} (hb : x3 = 0 ∨ x3 = 1) (S : Sim w) (hk : ∀ r w', Sim w' → K r (stt (nw w') τ)) : PR d 61 85 [.ref 0, .int x1, .int x2, .int x3] [.ref 57, .int x1, .int x2, .int x3] w τ K := by
  obtain ⟨b, hb1, eb⟩ := b01 hb
  have e76 := S.eq (76, 24) (by decide)
  have e76 : w 76 = w 24 := e76
  refine y_61 (d := d + 37) (σ := nw w) hb (fun t k a1 a2 e1 e2 a3 => ⟨_, rfl, ?_⟩) (fun hf => ⟨_, rfl, ?_⟩)
  · subst e1 e2
    unfold c_thing
    rw [nw_up (n := b) eb, nw_up (v := 0) (n := 0) rfl]
    refine y_85 (d := d + 37) hb (fun t' k' b1 b2 g1 g2 b3 => ⟨rfl, ?_⟩) (fun hf => absurd ⟨⟨t, by omega, by omega, rfl⟩, ⟨k, by omega, by omega, rfl⟩, fun t2 k2 m1 m2 g1 g2 => ?_⟩ hf)
    · have q1 := nI_inj (by omega) (by omega) g1
      have q2 := nI_inj (by omega) (by omega) g2
      subst q1 q2
      unfold m_thing
      rw [nw_up (n := b) eb, nw_up (v := -1) (n := N1) rfl]
      exact hk _ _ (sim_thing S hb1)
    · have q1 := nI_inj (by omega) (by omega) g1
      have q2 := nI_inj (by omega) (by omega) g2
      subst q1 q2
      intro z
      exact a3 (by rw [← z]; exact (congrArg nI (congrFun e76 _)).symm)
  · refine y_85 (d := d + 37) (σ := nw w) hb (fun t' k' b1 b2 g1 g2 b3 => absurd ⟨⟨t', by omega, by omega, g1⟩, ⟨k', by omega, by omega, g2⟩, fun t2 k2 m1 m2 h1 h2 => ?_⟩ hf) (fun _ => ⟨rfl, hk _ w S⟩)
    rw [g1] at h1
    rw [g2] at h2
    have q1 := nI_inj (by omega) (by omega) h1
    have q2 := nI_inj (by omega) (by omega) h2
    subst q1 q2
    intro z
    exact b3 (by rw [← z]; exact congrArg nI (congrFun e76 _))
theorem pr_number {d : Nat} {w : WW} {τ : Nat → Nat → Int64} {K : Int32 → Sto → Prop} {x1 x2 x3 x4 : Int32} (S : Sim w) (hk : ∀ r w', Sim w' → K r (stt (nw w') τ)) : PR d 63 87 [.ref 0, .int x1, .int x2, .int x3, .int x4] [.ref 57, .int x1, .int x2, .int x3, .int x4] w τ K := by
  refine x_63 (d := d + 36) (σ := nw w) (fun t k f a1 a2 a3 e1 e2 e3 a4 a5 => ⟨_, rfl, ?_⟩) (fun hf => ⟨_, rfl, ?_⟩)
  · subst e1 e2 e3
    unfold c_number
    rw [nw_up (n := x4.toBitVec.toNat) (ub_n x4), nw_up (v := 0) (n := 0) rfl]
    refine x_87 (d := d + 37) (fun t' k' f' b1 b2 b3 g1 g2 g3 b4 b5 => ⟨rfl, ?_⟩) (fun hf => absurd ⟨⟨t, by omega, by omega, rfl⟩, ⟨k, by omega, by omega, rfl⟩, ⟨f, by omega, by omega, rfl⟩, a4, a5⟩ hf)
    have q1 := nI_inj (by omega) (by omega) g1
    have q2 := nI_inj (by omega) (by omega) g2
    have q3 := nI_inj (by omega) (by omega) g3
    subst q1 q2 q3
    unfold m_number
    rw [nw_up (n := x4.toBitVec.toNat) (ub_n x4), nw_up (v := -1) (n := N1) rfl]
    exact hk _ _ (sim_number S)
  · exact x_87 (d := d + 37) (σ := nw w) (fun t' k' f' b1 b2 b3 g1 g2 g3 b4 b5 => absurd ⟨⟨t', by omega, by omega, g1⟩, ⟨k', by omega, by omega, g2⟩, ⟨f', by omega, by omega, g3⟩, b4, b5⟩ hf) (fun _ => ⟨rfl, hk _ w S⟩)
theorem key_n {x : Int32} (h1 : ¬ x < (-1)) (h2 : ¬ 31 < x) : ∃ n, (n < 32 ∨ n = N1) ∧ x = nI n := by
  by_cases z : x < 0
  · refine ⟨N1, Or.inr rfl, ?_⟩
    rw [Int32.lt_iff_toInt_lt] at z h1
    have e0 : (0 : Int32).toInt = 0 := rfl
    have e1 : (-1 : Int32).toInt = -1 := rfl
    apply Int32.toInt_inj.mp
    have : (nI N1).toInt = -1 := by decide +kernel
    omega
  · obtain ⟨j, hj, rfl⟩ := nI_of z
    have : ¬ nI 31 < nI j := h2
    rw [nI_ltI (by omega) (by omega)] at this
    exact ⟨j, Or.inl (by omega), rfl⟩
theorem pr_key {d : Nat} {w : WW} {τ : Nat → Nat → Int64} {K : Int32 → Sto → Prop} {x1 x2 x3 x4 : Int32} (S : Sim w) (hk : ∀ r w', Sim w' → K r (stt (nw w') τ)) : PR d 65 88 [.ref 0, .int x1, .int x2, .int x3, .int x4] [.ref 57, .int x1, .int x2, .int x3, .int x4] w τ K := by
  refine x_65 (d := d + 36) (σ := nw w) (fun t k f a1 a2 a3 e1 e2 e3 a4 a5 => ⟨_, rfl, ?_⟩) (fun hf => ⟨_, rfl, ?_⟩)
  · obtain ⟨n, hn, en⟩ := key_n a4 a5
    subst e1 e2 e3
    unfold c_key
    rw [nw_up (n := n) en, nw_up (v := 0) (n := 0) rfl]
    refine x_88 (d := d + 37) (fun t' k' f' b1 b2 b3 g1 g2 g3 b4 b5 => ⟨rfl, ?_⟩) (fun hf => absurd ⟨⟨t, by omega, by omega, rfl⟩, ⟨k, by omega, by omega, rfl⟩, ⟨f, by omega, by omega, rfl⟩, a4, a5⟩ hf)
    have q1 := nI_inj (by omega) (by omega) g1
    have q2 := nI_inj (by omega) (by omega) g2
    have q3 := nI_inj (by omega) (by omega) g3
    subst q1 q2 q3
    unfold m_key
    rw [nw_up (n := n) en, nw_up (v := -1) (n := N1) rfl]
    exact hk _ _ (sim_key S hn)
  · exact x_88 (d := d + 37) (σ := nw w) (fun t' k' f' b1 b2 b3 g1 g2 g3 b4 b5 => absurd ⟨⟨t', by omega, by omega, g1⟩, ⟨k', by omega, by omega, g2⟩, ⟨f', by omega, by omega, g3⟩, b4, b5⟩ hf) (fun _ => ⟨rfl, hk _ w S⟩)
theorem pr_row {d : Nat} {w : WW} {τ : Nat → Nat → Int64} {K : Int32 → Sto → Prop} {x1 x2 x3 x4 x5 : Int32} (S : Sim w) (hk : ∀ r w', Sim w' → K r (stt (nw w') τ)) : PR d 66 89 [.ref 0, .int x1, .int x2, .int x3, .int x4, .int x5] [.ref 57, .int x1, .int x2, .int x3, .int x4, .int x5] w τ K := by
  refine x_66 (d := d + 36) (σ := nw w) (fun t k f n a1 a2 a3 a4 e1 e2 e3 e4 => ⟨_, rfl, ?_⟩) (fun hf => ⟨_, rfl, ?_⟩)
  · subst e1 e2 e3 e4
    unfold c_row
    rw [nw_up (n := n) rfl, nw_up (n := x5.toBitVec.toNat) (ub_n x5), nw_up (v := 0) (n := 0) rfl]
    refine x_89 (d := d + 37) (fun t' k' f' n' b1 b2 b3 b4 g1 g2 g3 g4 => ⟨rfl, ?_⟩) (fun hf => absurd ⟨⟨t, by omega, by omega, rfl⟩, ⟨k, by omega, by omega, rfl⟩, ⟨f, by omega, by omega, rfl⟩, ⟨n, by omega, by omega, rfl⟩⟩ hf)
    have q1 := nI_inj (by omega) (by omega) g1
    have q2 := nI_inj (by omega) (by omega) g2
    have q3 := nI_inj (by omega) (by omega) g3
    have q4 := nI_inj (by omega) (by omega) g4
    subst q1 q2 q3 q4
    unfold m_row
    rw [nw_up (n := n') rfl, nw_up (n := x5.toBitVec.toNat) (ub_n x5), nw_up (v := -1) (n := N1) rfl]
    exact hk _ _ (sim_row S a4)
  · exact x_89 (d := d + 37) (σ := nw w) (fun t' k' f' n' b1 b2 b3 b4 g1 g2 g3 g4 => absurd ⟨⟨t', by omega, by omega, g1⟩, ⟨k', by omega, by omega, g2⟩, ⟨f', by omega, by omega, g3⟩, ⟨n', by omega, by omega, g4⟩⟩ hf) (fun _ => ⟨rfl, hk _ w S⟩)
theorem pr_asker {d : Nat} {w : WW} {τ : Nat → Nat → Int64} {K : Int32 → Sto → Prop} {x1 x2 x3 x4 : Int32} (S : Sim w) (hk : ∀ r w', Sim w' → K r (stt (nw w') τ)) : PR d 67 90 [.ref 0, .int x1, .int x2, .int x3, .int x4] [.ref 57, .int x1, .int x2, .int x3, .int x4] w τ K := by
  have e85 : w 85 = w 5 := S.2.2.2.2.2.2.2.2.2.2.2.2.2.1.2
  refine x_67 (d := d + 38) (σ := nw w) (fun a r u f a1 a2 a3 a4 a5 e1 e2 e3 e4 => ⟨_, rfl, ?_⟩) (fun hf => ⟨_, rfl, ?_⟩)
  · subst e1 e2 e3 e4
    have h5 := (S.2.2.2.2.2.1 a a1).2.2.2
    have eh : (if nI u < nw w 5 a then nI u else nw w 5 a) = nI (if u < w 5 a then u else w 5 a) := by
      show (if nI u < nI (w 5 a) then nI u else nI (w 5 a)) = _
      by_cases z : u < w 5 a
      · rw [if_pos z, if_pos ((nI_ltI (by omega) (by omega)).mpr z)]
      · rw [if_neg z, if_neg (fun q => z ((nI_ltI (by omega) (by omega)).mp q))]
    unfold c_asker
    rw [nw_up (n := r) rfl, nw_up (n := u) rfl, nw_up (n := f) rfl, nw_up (n := if u < w 5 a then u else w 5 a) eh]
    refine x_90 (d := d + 38) (fun a' r' u' f' b1 b2 b3 b4 b5 g1 g2 g3 g4 => ⟨rfl, ?_⟩) (fun hf => absurd ⟨⟨a, by omega, by omega, rfl⟩, ⟨r, by omega, by omega, rfl⟩, ⟨u, by omega, by omega, rfl⟩, ⟨f, by omega, by omega, rfl⟩⟩ hf)
    have q1 := nI_inj (by omega) (by omega) g1
    have q2 := nI_inj (by omega) (by omega) g2
    have q3 := nI_inj (by omega) (by omega) g3
    have q4 := nI_inj (by omega) (by omega) g4
    subst q1 q2 q3 q4
    generalize hF : (up2 (up2 (up2 (up2 w 2 a' r') 3 a' u') 4 a' f') 5 a' (if u' < w 5 a' then u' else w 5 a')) = F
    have e85F : F 85 = w 5 := by rw [← hF]; exact e85
    have eh2 : (if nw F 85 a' ≤ nI u' then nw F 85 a' else nI u') = nI (if u' < w 5 a' then u' else w 5 a') := by
      rw [show nw F 85 a' = nI (w 5 a') from congrArg nI (congrFun e85F a')]
      by_cases z : u' < w 5 a'
      · rw [if_pos z, if_neg (fun q => by have := (nI_leI (by omega) (by omega)).mp q; omega)]
      · rw [if_neg z, if_pos ((nI_leI (by omega) (by omega)).mpr (by omega))]
    unfold m_asker
    rw [nw_up (n := r') rfl, nw_up (n := u') rfl, nw_up (n := f') rfl, nw_up (n := if u' < w 5 a' then u' else w 5 a') eh2, ← hF]
    exact hk _ _ (sim_asker S a2 a4 a5 (by split <;> omega))
  · exact x_90 (d := d + 38) (σ := nw w) (fun a' r' u' f' b1 b2 b3 b4 b5 g1 g2 g3 g4 => absurd ⟨⟨a', by omega, by omega, g1⟩, ⟨r', by omega, by omega, g2⟩, ⟨u', by omega, by omega, g3⟩, ⟨f', by omega, by omega, g4⟩⟩ hf) (fun _ => ⟨rfl, hk _ w S⟩)
theorem pr_pass {d : Nat} {w : WW} {τ : Nat → Nat → Int64} {K : Int32 → Sto → Prop} {x1 : Int32} (S : Sim w) (hk : ∀ r w', Sim w' → K r (stt (nw w') τ)) : PR d 68 91 [.ref 0, .int x1] [.ref 57, .int x1] w τ K := by
  have hA : AO w := S.2.2.2.2.2.1
  have hn := S.now
  refine y_68 (d := d + 38) (σ := nw w) (n := w 1 4) rfl hn.2 (fun t a1 a2 a3 e1 => ⟨_, rfl, ?_⟩) (fun hf => ⟨_, rfl, ?_⟩)
  · subst e1
    rw [nw_goBy hA a2]
    have e57 : aGo t w 57 = w 57 := aGo_k t w (by decide)
    have hAV : AV (aGo t w) := by
      intro i hi
      have q := hA i hi
      rw [aGo_k t w (show 83 ≠ 1 ∧ 83 ≠ 5 by decide), aGo_k t w (show 84 ≠ 1 ∧ 84 ≠ 5 by decide), aGo_k t w (show 85 ≠ 1 ∧ 85 ≠ 5 by decide), show w 83 = w 3 from S.eq (83, 3) (by decide), show w 84 = w 4 from S.eq (84, 4) (by decide), show w 85 = w 5 from S.2.2.2.2.2.2.2.2.2.2.2.2.2.1.2]
      exact q.2
    refine y_91 (d := d + 38) (σ := nw (aGo t w)) (n := w 1 4) (by show nI (aGo t w 57 1) = _; rw [e57, hn.1]) hn.2 (fun t' b1 b2 b3 g1 => ?_) (fun hf => absurd ⟨⟨t, by omega, by omega, rfl⟩, fun t2 m2 ht2 => ?_⟩ hf)
    · have q1 := nI_inj (by omega) (by omega) g1
      subst q1
      rw [nw_mgo hAV b2]
      refine ⟨?_, hk _ _ (sim_pass S a3)⟩
      show some (Value.int (nI (aGo t' w 57 1 + t'))) = some (Value.int (nI (w 1 4 + t')))
      rw [e57, hn.1]
    · have := nI_inj (by omega) (by omega) ht2
      omega
  · refine y_91 (d := d + 38) (σ := nw w) (n := w 1 4) (congrArg nI hn.1) hn.2 (fun t' b1 b2 b3 g1 => absurd ⟨⟨t', by omega, by omega, g1⟩, fun t2 m2 ht2 => ?_⟩ hf) (fun _ => ⟨rfl, hk _ w S⟩)
    rw [g1] at ht2
    have := nI_inj (by omega) (by omega) ht2
    omega
theorem pr_end {d : Nat} {w : WW} {τ : Nat → Nat → Int64} {K : Int32 → Sto → Prop} {x1 : Int32} (S : Sim w) (hk : ∀ r w', Sim w' → K r (stt (nw w') τ)) : PR d 70 95 [.ref 0, .int x1] [.ref 57, .int x1] w τ K := by
  have hT : TPc w := S.2.2.2.2.2.2.2.2.1
  have e32 : w 57 32 = w 30 1 := S.2.2.2.2.2.2.2.2.2.1.1
  have h200 := hT.1
  refine x_70 (d := d + 38) (σ := nw w) (n := w 30 1) rfl hT.1 (fun j a1 e1 => ⟨_, rfl, ?_⟩) (fun hf => ⟨_, rfl, ?_⟩)
  · subst e1
    rw [nw_up (n := j) rfl]
    refine x_95 (d := d + 39) (n := w 30 1) (congrArg nI e32) hT.1 (fun j' b1 g1 => ⟨?_, ?_⟩) (fun hf => absurd ⟨j, by omega, by omega, rfl⟩ hf)
    · rw [g1]
    · have q1 := nI_inj (by omega) (by omega) g1
      subst q1
      rw [nw_up (n := j') rfl]
      exact hk _ _ (sim_end S (by omega))
  · exact x_95 (d := d + 39) (σ := nw w) (n := w 30 1) (congrArg nI e32) hT.1 (fun j' b1 g1 => absurd ⟨j', by omega, by omega, g1⟩ hf) (fun _ => ⟨rfl, hk _ w S⟩)
/-! ===== what is asked of it ===== -/
theorem pr_dear {d : Nat} {w : WW} {τ : Nat → Nat → Int64} {K : Int32 → Sto → Prop} (S : Sim w) (hk : ∀ r w', Sim w' → K r (stt (nw w') τ)) : PR d 73 121 [.ref 0] [.ref 57] w τ K := by
  have hAR : AR w := S.2.2.2.2.2.2.2.2.2.2.2.2.2.2.2.2.2.2.2.1
  refine x_73 (d := d + 39) (σ := nw w) ⟨_, rfl, ?_⟩
  refine x_121 (d := d + 39) (σ := nw w) ⟨?_, hk _ w S⟩
  rw [show nw w 57 58 = nw w 0 9 from congrArg nI hAR.1]
theorem pr_answer {d : Nat} {w : WW} {τ : Nat → Nat → Int64} {K : Int32 → Sto → Prop} {x1 : Int32} (S : Sim w) (hk : ∀ r w', Sim w' → K r (stt (nw w') τ)) : PR d 74 122 [.ref 0, .int x1] [.ref 57, .int x1] w τ K := by
  have hAR : AR w := S.2.2.2.2.2.2.2.2.2.2.2.2.2.2.2.2.2.2.2.1
  have h35 := hAR.2.2.1
  refine x_74 (d := d + 38) (σ := nw w) (n := w 55 1) rfl h35 (fun j a1 e1 => ⟨_, rfl, ?_⟩) (fun hf => ⟨_, rfl, ?_⟩)
  · refine x_122 (d := d + 38) (σ := nw w) (n := w 55 1) (congrArg nI hAR.2.1) (by omega) (fun j' b1 g1 => ⟨?_, hk _ w S⟩) (fun hf => absurd ⟨j, a1, e1⟩ hf)
    rw [e1] at g1
    have q1 := nI_inj (by omega) (by omega) g1
    subst q1
    rw [show nw w 104 j' = nw w 56 j' from congrArg nI (hAR.2.2.2 j' b1)]
  · exact x_122 (d := d + 38) (σ := nw w) (n := w 55 1) (congrArg nI hAR.2.1) (by omega) (fun j' b1 g1 => absurd ⟨j', b1, g1⟩ hf) (fun _ => ⟨rfl, hk _ w S⟩)
theorem pr_kept {d : Nat} {w : WW} {τ : Nat → Nat → Int64} {K : Int32 → Sto → Prop} {x1 x2 : Int32} (S : Sim w) (hk : ∀ r w', Sim w' → K r (stt (nw w') τ)) : PR d 77 125 [.ref 0, .int x1, .int x2] [.ref 57, .int x1, .int x2] w τ K := by
  have hn := S.now
  have hRK : RK (w 25) (w 81) (w 1 4) := S.2.2.2.2.2.2.2.2.2.2.2.2.2.2.2.1
  have hKO : KO w := S.2.1
  have key : ∀ x, x < 192 → (nw w 81 x ≤ nw w 57 1 ↔ nw w 25 x ≤ nw w 1 4) := by
    intro x hx
    have b := hKO.2 x hx
    have b2 := hn.2
    show nI (w 81 x) ≤ nI (w 57 1) ↔ nI (w 25 x) ≤ nI (w 1 4)
    rw [hn.1, hRK.le hx hn.2 b, nI_leI (by omega) (by omega)]
  have keyv : ∀ x, x < 192 → ¬ nw w 25 x ≤ nw w 1 4 → nw w 81 x = nw w 25 x := by
    intro x hx hq
    have b := hKO.2 x hx
    have b2 := hn.2
    have hq : ¬ w 25 x ≤ w 1 4 := fun z => hq ((nI_leI (by omega) (by omega)).mpr z)
    rcases hRK x hx with e | e
    · exact congrArg nI e
    · exact absurd e.1 hq
  refine x_77 (d := d + 37) (σ := nw w) (fun hf => ⟨_, rfl, ?_⟩) (fun t k a1 a2 e1 e2 hq => ⟨_, rfl, ?_⟩) (fun t k a1 a2 e1 e2 hq => ⟨_, rfl, ?_⟩)
  · exact x_125 (d := d + 37) (σ := nw w) (fun _ => ⟨rfl, hk _ w S⟩) (fun t k b1 b2 g1 g2 _ => absurd ⟨⟨t, by omega, by omega, g1⟩, ⟨k, by omega, by omega, g2⟩⟩ hf) (fun t k b1 b2 g1 g2 _ => absurd ⟨⟨t, by omega, by omega, g1⟩, ⟨k, by omega, by omega, g2⟩⟩ hf)
  · subst e1 e2
    refine x_125 (d := d + 37) (σ := nw w) (fun hf => absurd ⟨⟨t, by omega, by omega, rfl⟩, ⟨k, by omega, by omega, rfl⟩⟩ hf) (fun t' k' b1 b2 g1 g2 q => ⟨?_, hk _ w S⟩) (fun t' k' b1 b2 g1 g2 q => ?_)
    · have q1 := nI_inj (by omega) (by omega) g1
      have q2 := nI_inj (by omega) (by omega) g2
      subst q1 q2
      rw [keyv _ (by omega) hq]
    · have q1 := nI_inj (by omega) (by omega) g1
      have q2 := nI_inj (by omega) (by omega) g2
      subst q1 q2
      exact absurd ((key _ (by omega)).mp q) hq
  · subst e1 e2
    refine x_125 (d := d + 37) (σ := nw w) (fun hf => absurd ⟨⟨t, by omega, by omega, rfl⟩, ⟨k, by omega, by omega, rfl⟩⟩ hf) (fun t' k' b1 b2 g1 g2 q => ?_) (fun t' k' b1 b2 g1 g2 q => ⟨rfl, hk _ w S⟩)
    have q1 := nI_inj (by omega) (by omega) g1
    have q2 := nI_inj (by omega) (by omega) g2
    subst q1 q2
    exact absurd ((key _ (by omega)).mpr hq) q
theorem pr_breaker {d : Nat} {w : WW} {τ : Nat → Nat → Int64} {K : Int32 → Sto → Prop} {x1 x2 : Int32} (S : Sim w) (hk : ∀ r w', Sim w' → K r (stt (nw w') τ)) : PR d 76 124 [.ref 0, .int x1, .int x2] [.ref 57, .int x1, .int x2] w τ K := by
  have hn := S.now
  have hRH : RH w w := S.2.2.2.2.2.2.2.2.2.2.2.2.2.2.1
  have hHO : HO w := S.2.2.1
  have h64 : ∀ h, h < 5 → (nw w 64 h = -1 ↔ ¬ nw w (11 + h) 5 = 0) ∧ (nw w (11 + h) 5 = 0 → nw w 64 h = nw w (11 + h) 7) := by
    intro h hh
    have q := (hRH h hh).2.2
    have b := hHO h hh
    have b7 := b.2.2.2.2.2.2.2.1
    have b5 := b.2.2.2.2.2.1
    have e5 : nw w (11 + h) 5 = 0 ↔ w (11 + h) 5 = 0 := nI_eq (b := 0) (by omega) (by omega)
    rw [e5]
    show (nI (w 64 h) = -1 ↔ _) ∧ (_ → nI (w 64 h) = nI (w (11 + h) 7))
    rw [q]
    by_cases z : w (11 + h) 5 = 0
    · rw [if_pos z]
      exact ⟨⟨fun y => absurd y (nI_m1 (by omega)), fun y => absurd z y⟩, fun _ => rfl⟩
    · rw [if_neg z]
      exact ⟨⟨fun _ => z, fun _ => rfl⟩, fun y => absurd y z⟩
  have same : ∀ {x : Int32} {h h' : Nat}, h < 5 → h' < 5 → x = nI h → x = nI h' → h' = h := fun a b c d => nI_inj (by omega) (by omega) (c.symm.trans d)
  have e1 : nw w 57 1 = nw w 1 4 := congrArg nI hn.1
  have lit : ∀ a b : Nat, a < 100 → b < 100 → a ≠ b → nI a ≠ nI b := fun a b ha hb h q => h ((nI_eq (by omega) (by omega)).mp q)
  refine x_76 (d := d + 38) (σ := nw w) (fun hf => ⟨_, rfl, ?_⟩) (fun h a1 a2 a3 a4 => ⟨_, rfl, ?_⟩) (fun h a1 a2 a3 a4 a5 => ⟨_, rfl, ?_⟩) (fun h a1 a2 a3 a4 a5 => ⟨_, rfl, ?_⟩) (fun h a1 a2 a3 => ⟨_, rfl, ?_⟩) (fun h a1 a2 a3 a4 => ⟨_, rfl, ?_⟩) (fun h a1 a2 a3 a4 => ⟨_, rfl, ?_⟩) (fun hd => ⟨_, rfl, ?_⟩)
  · exact x_124 (d := d + 38) (σ := nw w) (fun _ => ⟨rfl, hk _ w S⟩) (fun h b1 b2 _ _ => absurd ⟨h, by omega, by omega, b2⟩ hf) (fun h b1 b2 _ _ _ => absurd ⟨h, by omega, by omega, b2⟩ hf) (fun h b1 b2 _ _ _ => absurd ⟨h, by omega, by omega, b2⟩ hf) (fun h b1 b2 _ => absurd ⟨h, by omega, by omega, b2⟩ hf) (fun h b1 b2 _ => absurd ⟨h, by omega, by omega, b2⟩ hf) (fun _ => ⟨rfl, hk _ w S⟩)
  · refine x_124 (d := d + 38) (σ := nw w) (fun hf => absurd ⟨h, by omega, by omega, a2⟩ hf) (fun h' b1 b2 b3 b4 => ⟨rfl, hk _ w S⟩) (fun h' b1 b2 b3 b4 b5 => ?_) (fun h' b1 b2 b3 b4 b5 => ?_) (fun h' b1 b2 b3 => ?_) (fun h' b1 b2 b3 => ?_) (fun hd => ?_)
    · have := same a1 b1 a2 b2; subst this; exact absurd ((h64 _ a1).1.mpr a4) b4
    · have := same a1 b1 a2 b2; subst this; exact absurd ((h64 _ a1).1.mpr a4) b4
    · exact absurd (a3.symm.trans b3) (by decide)
    · exact absurd (a3.symm.trans b3) (by decide)
    · rw [a3] at hd; exact absurd hd (by decide)
  · refine x_124 (d := d + 38) (σ := nw w) (fun hf => absurd ⟨h, by omega, by omega, a2⟩ hf) (fun h' b1 b2 b3 b4 => ?_) (fun h' b1 b2 b3 b4 b5 => ⟨rfl, hk _ w S⟩) (fun h' b1 b2 b3 b4 b5 => ?_) (fun h' b1 b2 b3 => ?_) (fun h' b1 b2 b3 => ?_) (fun hd => ?_)
    · have := same a1 b1 a2 b2; subst this; exact absurd a4 ((h64 _ a1).1.mp b4)
    · have := same a1 b1 a2 b2; subst this; rw [(h64 _ a1).2 a4, e1] at b5; exact absurd b5 a5
    · exact absurd (a3.symm.trans b3) (by decide)
    · exact absurd (a3.symm.trans b3) (by decide)
    · rw [a3] at hd; exact absurd hd (by decide)
  · refine x_124 (d := d + 38) (σ := nw w) (fun hf => absurd ⟨h, by omega, by omega, a2⟩ hf) (fun h' b1 b2 b3 b4 => ?_) (fun h' b1 b2 b3 b4 b5 => ?_) (fun h' b1 b2 b3 b4 b5 => ⟨rfl, hk _ w S⟩) (fun h' b1 b2 b3 => ?_) (fun h' b1 b2 b3 => ?_) (fun hd => ?_)
    · have := same a1 b1 a2 b2; subst this; exact absurd a4 ((h64 _ a1).1.mp b4)
    · have := same a1 b1 a2 b2; subst this; rw [(h64 _ a1).2 a4, e1] at b5; exact absurd b5 a5
    · exact absurd (a3.symm.trans b3) (by decide)
    · exact absurd (a3.symm.trans b3) (by decide)
    · rw [a3] at hd; exact absurd hd (by decide)
  · refine x_124 (d := d + 38) (σ := nw w) (fun hf => absurd ⟨h, by omega, by omega, a2⟩ hf) (fun h' b1 b2 b3 b4 => ?_) (fun h' b1 b2 b3 b4 b5 => ?_) (fun h' b1 b2 b3 b4 b5 => ?_) (fun h' b1 b2 b3 => ⟨?_, hk _ w S⟩) (fun h' b1 b2 b3 => ?_) (fun hd => ?_)
    · exact absurd (a3.symm.trans b3) (by decide)
    · exact absurd (a3.symm.trans b3) (by decide)
    · exact absurd (a3.symm.trans b3) (by decide)
    · have := same a1 b1 a2 b2; subst this; rw [show nw w 63 h' = nw w (11 + h') 6 from congrArg nI (hRH h' a1).1]
    · exact absurd (a3.symm.trans b3) (by decide)
    · rw [a3] at hd; exact absurd hd (by decide)
  · refine x_124 (d := d + 38) (σ := nw w) (fun hf => absurd ⟨h, by omega, by omega, a2⟩ hf) (fun h' b1 b2 b3 b4 => ?_) (fun h' b1 b2 b3 b4 b5 => ?_) (fun h' b1 b2 b3 b4 b5 => ?_) (fun h' b1 b2 b3 => ?_) (fun h' b1 b2 b3 => ⟨?_, hk _ w S⟩) (fun hd => ?_)
    · exact absurd (a3.symm.trans b3) (by decide)
    · exact absurd (a3.symm.trans b3) (by decide)
    · exact absurd (a3.symm.trans b3) (by decide)
    · exact absurd (a3.symm.trans b3) (by decide)
    · have := same a1 b1 a2 b2; subst this; rw [(h64 _ a1).2 a4]
    · rw [a3] at hd; exact absurd hd (by decide)
  · refine x_124 (d := d + 38) (σ := nw w) (fun hf => absurd ⟨h, by omega, by omega, a2⟩ hf) (fun h' b1 b2 b3 b4 => ?_) (fun h' b1 b2 b3 b4 b5 => ?_) (fun h' b1 b2 b3 b4 b5 => ?_) (fun h' b1 b2 b3 => ?_) (fun h' b1 b2 b3 => ⟨?_, hk _ w S⟩) (fun hd => ?_)
    · exact absurd (a3.symm.trans b3) (by decide)
    · exact absurd (a3.symm.trans b3) (by decide)
    · exact absurd (a3.symm.trans b3) (by decide)
    · exact absurd (a3.symm.trans b3) (by decide)
    · have := same a1 b1 a2 b2; subst this; rw [(h64 _ a1).1.mpr a4]
    · rw [a3] at hd; exact absurd hd (by decide)
  · refine x_124 (d := d + 38) (σ := nw w) (fun hf => ⟨rfl, hk _ w S⟩) (fun h' b1 b2 b3 b4 => ?_) (fun h' b1 b2 b3 b4 b5 => ?_) (fun h' b1 b2 b3 b4 b5 => ?_) (fun h' b1 b2 b3 => ?_) (fun h' b1 b2 b3 => ?_) (fun _ => ⟨rfl, hk _ w S⟩)
    all_goals (rw [b3] at hd; exact absurd hd (by decide))
