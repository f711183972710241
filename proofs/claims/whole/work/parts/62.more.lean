/-! ===== call, count, feed ===== -/
theorem pr_call {d : Nat} {w : WW} {τ : Nat → Nat → Int64} {K : Int32 → Sto → Prop} {x1 x2 : Int32} (S : Sim w) (hk : ∀ r w', Sim w' → K r (stt (nw w') τ)) : PR d 75 123 [.ref 0, .int x1, .int x2] [.ref 57, .int x1, .int x2] w τ K := by
  obtain ⟨s0, s1, s2, s3, s4, s5, s6, s7, s8, s9, s10, s11, s12, s13, s14, s15, s16, s17, s18, s19, s20, s21⟩ := S
  have ec := s16.1
  have e51 := s16.2.1
  have e7 := s16.2.2
  have hC := s20
  have S : Sim w := ⟨s0, s1, s2, s3, s4, s5, s6, s7, s8, s9, s10, s11, s12, s13, s14, s15, s16, s17, s18, s19, s20, s21⟩
  have hw1 : ∀ k, k < w 42 5 → ∃ z s : Nat, nw w 46 k = nI z ∧ nw w 48 k = nI s ∧ s + z ≤ 192 := fun k h => ⟨w 46 k, w 48 k, rfl, rfl, (hC.2 k h).2⟩
  have hw2 : ∀ k, k < w 42 5 → ∃ z : Nat, nw w 101 k = nI z ∧ z ≤ 8 := fun k h => ⟨w 46 k, congrArg nI (congrFun ec.2.2.2.1 k), (hC.2 k h).1⟩
  have h192 := hC.1
  have same : ∀ {x : Int32} {h h' : Nat}, h < w 42 5 → h' < w 42 5 → x = nI h → x = nI h' → h' = h := fun a b c d => nI_inj (by omega) (by omega) (c.symm.trans d)
  have zz : ∀ {k z z' : Nat}, k < w 42 5 → z ≤ 192 → z' ≤ 8 → nw w 46 k = nI z → nw w 101 k = nI z' → z' = w 46 k ∧ z = w 46 k := fun {k z z'} hk hz hz' q1 q2 => by
    have b := (hC.2 k hk).1
    have q2 : nI (w 46 k) = nI z' := by rw [← q2]; exact (congrArg nI (congrFun ec.2.2.2.1 k)).symm
    exact ⟨nI_inj (by omega) (by omega) q2, nI_inj (by omega) (by omega) q1⟩
  refine y_75 (d := d + 37) (σ := nw w) (n := w 42 5) rfl h192 hw1 (fun hf => ⟨_, rfl, ?_⟩) (fun k a1 a2 a3 => ⟨_, rfl, ?_⟩) (fun k a1 a2 a3 => ⟨_, rfl, ?_⟩) (fun k a1 a2 a3 => ⟨_, rfl, ?_⟩) (fun k a1 a2 a3 => ⟨_, rfl, ?_⟩) (fun k a1 a2 a3 => ⟨_, rfl, ?_⟩) (fun k z s j a1 a3 hzs a4 a5 a2 a6 => ⟨_, rfl, ?_⟩) (fun k z s a1 hzs a4 a5 a2 a6 a7 => ⟨_, rfl, ?_⟩)
  · exact y_123 (d := d + 38) (σ := nw w) (n := w 42 5) (congrArg nI e51) h192 hw2 (fun hf => ⟨rfl, hk _ w S⟩) (fun k b1 b2 _ => absurd ⟨k, b1, b2⟩ hf) (fun k b1 b2 _ => absurd ⟨k, b1, b2⟩ hf) (fun k b1 b2 _ => absurd ⟨k, b1, b2⟩ hf) (fun k b1 b2 _ => absurd ⟨k, b1, b2⟩ hf) (fun k b1 b2 _ => absurd ⟨k, b1, b2⟩ hf) (fun k z j b1 _ _ _ b5 _ => absurd ⟨k, b1, b5⟩ hf) (fun k z b1 _ _ b4 _ _ => absurd ⟨k, b1, b4⟩ hf)
  · exact y_123 (d := d + 38) (σ := nw w) (n := w 42 5) (congrArg nI e51) h192 hw2 (fun hf => absurd ⟨k, a1, a2⟩ hf) (fun k' b1 b2 b3 => ⟨by have q := same a1 b1 a2 b2; subst q; rw [show nw w 98 k' = nw w 43 k' from congrArg nI (congrFun ec.1 k')], hk _ w S⟩) (fun k' b1 b2 b3 => absurd (a3.symm.trans b3) (by decide)) (fun k' b1 b2 b3 => absurd (a3.symm.trans b3) (by decide)) (fun k' b1 b2 b3 => absurd (a3.symm.trans b3) (by decide)) (fun k' b1 b2 b3 => absurd (a3.symm.trans b3) (by decide)) (fun k' z j b1 b2 b3 b4 b5 b6 => absurd (nI_inj (a := 0) (b := j + 10) (by omega) (by omega) (a3.symm.trans b6)) (by omega)) (fun k' z b1 b2 b3 b4 b5 b6 => absurd b6 (by rw [a3]; decide))
  · exact y_123 (d := d + 38) (σ := nw w) (n := w 42 5) (congrArg nI e51) h192 hw2 (fun hf => absurd ⟨k, a1, a2⟩ hf) (fun k' b1 b2 b3 => absurd (a3.symm.trans b3) (by decide)) (fun k' b1 b2 b3 => ⟨by have q := same a1 b1 a2 b2; subst q; rw [show nw w 99 k' = nw w 44 k' from congrArg nI (congrFun ec.2.1 k')], hk _ w S⟩) (fun k' b1 b2 b3 => absurd (a3.symm.trans b3) (by decide)) (fun k' b1 b2 b3 => absurd (a3.symm.trans b3) (by decide)) (fun k' b1 b2 b3 => absurd (a3.symm.trans b3) (by decide)) (fun k' z j b1 b2 b3 b4 b5 b6 => absurd (nI_inj (a := 1) (b := j + 10) (by omega) (by omega) (a3.symm.trans b6)) (by omega)) (fun k' z b1 b2 b3 b4 b5 b6 => absurd b6 (by rw [a3]; decide))
  · exact y_123 (d := d + 38) (σ := nw w) (n := w 42 5) (congrArg nI e51) h192 hw2 (fun hf => absurd ⟨k, a1, a2⟩ hf) (fun k' b1 b2 b3 => absurd (a3.symm.trans b3) (by decide)) (fun k' b1 b2 b3 => absurd (a3.symm.trans b3) (by decide)) (fun k' b1 b2 b3 => ⟨by have q := same a1 b1 a2 b2; subst q; rw [show nw w 100 k' = nw w 45 k' from congrArg nI (congrFun ec.2.2.1 k')], hk _ w S⟩) (fun k' b1 b2 b3 => absurd (a3.symm.trans b3) (by decide)) (fun k' b1 b2 b3 => absurd (a3.symm.trans b3) (by decide)) (fun k' z j b1 b2 b3 b4 b5 b6 => absurd (nI_inj (a := 2) (b := j + 10) (by omega) (by omega) (a3.symm.trans b6)) (by omega)) (fun k' z b1 b2 b3 b4 b5 b6 => absurd b6 (by rw [a3]; decide))
  · exact y_123 (d := d + 38) (σ := nw w) (n := w 42 5) (congrArg nI e51) h192 hw2 (fun hf => absurd ⟨k, a1, a2⟩ hf) (fun k' b1 b2 b3 => absurd (a3.symm.trans b3) (by decide)) (fun k' b1 b2 b3 => absurd (a3.symm.trans b3) (by decide)) (fun k' b1 b2 b3 => absurd (a3.symm.trans b3) (by decide)) (fun k' b1 b2 b3 => ⟨by have q := same a1 b1 a2 b2; subst q; rw [show nw w 101 k' = nw w 46 k' from congrArg nI (congrFun ec.2.2.2.1 k')], hk _ w S⟩) (fun k' b1 b2 b3 => absurd (a3.symm.trans b3) (by decide)) (fun k' z j b1 b2 b3 b4 b5 b6 => absurd (nI_inj (a := 3) (b := j + 10) (by omega) (by omega) (a3.symm.trans b6)) (by omega)) (fun k' z b1 b2 b3 b4 b5 b6 => absurd b6 (by rw [a3]; decide))
  · exact y_123 (d := d + 38) (σ := nw w) (n := w 42 5) (congrArg nI e51) h192 hw2 (fun hf => absurd ⟨k, a1, a2⟩ hf) (fun k' b1 b2 b3 => absurd (a3.symm.trans b3) (by decide)) (fun k' b1 b2 b3 => absurd (a3.symm.trans b3) (by decide)) (fun k' b1 b2 b3 => absurd (a3.symm.trans b3) (by decide)) (fun k' b1 b2 b3 => absurd (a3.symm.trans b3) (by decide)) (fun k' b1 b2 b3 => ⟨by have q := same a1 b1 a2 b2; subst q; rw [show nw w 102 k' = nw w 47 k' from congrArg nI (congrFun ec.2.2.2.2 k')], hk _ w S⟩) (fun k' z j b1 b2 b3 b4 b5 b6 => absurd (nI_inj (a := 4) (b := j + 10) (by omega) (by omega) (a3.symm.trans b6)) (by omega)) (fun k' z b1 b2 b3 b4 b5 b6 => absurd b6 (by rw [a3]; decide))
  · refine y_123 (d := d + 38) (σ := nw w) (n := w 42 5) (congrArg nI e51) h192 hw2 (fun hf => absurd ⟨k, a1, a2⟩ hf) (fun k' b1 b2 b3 => absurd (nI_inj (a := 0) (b := j + 10) (by omega) (by omega) (b3.symm.trans a6)) (by omega)) (fun k' b1 b2 b3 => absurd (nI_inj (a := 1) (b := j + 10) (by omega) (by omega) (b3.symm.trans a6)) (by omega)) (fun k' b1 b2 b3 => absurd (nI_inj (a := 2) (b := j + 10) (by omega) (by omega) (b3.symm.trans a6)) (by omega)) (fun k' b1 b2 b3 => absurd (nI_inj (a := 3) (b := j + 10) (by omega) (by omega) (b3.symm.trans a6)) (by omega)) (fun k' b1 b2 b3 => absurd (nI_inj (a := 4) (b := j + 10) (by omega) (by omega) (b3.symm.trans a6)) (by omega)) (fun k' z' j' b1 b2 b3 b4 b5 b6 => ⟨?_, hk _ w S⟩) (fun k' z' b1 b2 b3 b4 b5 b6 => by
      have q := same a1 b1 a2 b4
      subst q
      have q2 := zz a1 (by omega) b2 a4 b3
      exact absurd a6 (b5 j (by omega)))
    have q := same a1 b1 a2 b5
    subst q
    have q2 := zz a1 (by omega) b3 a4 b4
    have q3 := nI_inj (a := j + 10) (b := j' + 10) (by omega) (by omega) (a6.symm.trans b6)
    have q4 : j' = j := by omega
    subst q4
    have b := (hC.2 k' a1).2
    have q5 := nI_inj (a := w 48 k') (b := s) (by omega) (by omega) a5
    rw [q5, show nw w 103 (8 * k' + j') = nw w 49 (w 48 k' + j') from congrArg nI (e7 k' a1 j' (by omega))]
  · exact y_123 (d := d + 38) (σ := nw w) (n := w 42 5) (congrArg nI e51) h192 hw2 (fun hf => absurd ⟨k, a1, a2⟩ hf) (fun k' b1 b2 b3 => absurd a7 (by rw [b3]; decide)) (fun k' b1 b2 b3 => absurd a7 (by rw [b3]; decide)) (fun k' b1 b2 b3 => absurd a7 (by rw [b3]; decide)) (fun k' b1 b2 b3 => absurd a7 (by rw [b3]; decide)) (fun k' b1 b2 b3 => absurd a7 (by rw [b3]; decide)) (fun k' z' j' b1 b2 b3 b4 b5 b6 => by
      have q := same a1 b1 a2 b5
      subst q
      have q2 := zz a1 (by omega) b3 a4 b4
      exact absurd b6 (a6 j' (by omega))) (fun k' z' b1 b2 b3 b4 b5 b6 => ⟨rfl, hk _ w S⟩)
theorem pr_count {d : Nat} {w : WW} {τ : Nat → Nat → Int64} {K : Int32 → Sto → Prop} {x1 : Int32} (S : Sim w) (hk : ∀ r w', Sim w' → K r (stt (nw w') τ)) : PR d 78 126 [.ref 0, .int x1] [.ref 57, .int x1] w τ K := by
  obtain ⟨s0, s1, s2, s3, s4, s5, s6, s7, s8, s9, s10, s11, s12, s13, s14, s15, s16, s17, s18, s19, s20, s21⟩ := S
  have S : Sim w := ⟨s0, s1, s2, s3, s4, s5, s6, s7, s8, s9, s10, s11, s12, s13, s14, s15, s16, s17, s18, s19, s20, s21⟩
  have hcnt : cntP (fun j => nw w 94 j = 4) 192 = cntP (fun j => rg (nw w 51 j) 1 5) 192 := by
    refine cntP_c 192 (fun i hi => ?_)
    have f := s21 i hi
    have e := (s18 i hi).1
    have b := sOf_le (w 51 i)
    have e1 : nw w 94 i = 4 ↔ sOf (w 51 i) = 4 := by
      show nI (w 94 i) = nI 4 ↔ _
      rw [e, nI_eq (by omega) (by omega)]
    have e2 : rg (nw w 51 i) 1 5 ↔ (1 ≤ w 51 i ∧ w 51 i ≤ 5) := by
      constructor
      · rintro ⟨j, j1, j2, j3⟩
        have := nI_inj (a := w 51 i) (b := j) (by omega) (by omega) j3
        omega
      · intro h
        exact ⟨w 51 i, h.1, h.2, rfl⟩
    rw [e1, e2]
    unfold sOf
    (repeat' split) <;> omega
  have v0 : nw w 57 1 = nw w 1 4 := congrArg nI s13.1
  have v1 : nw w 57 32 = nw w 30 1 := congrArg nI s9.1
  have v2 : nw w 57 51 = nw w 42 5 := congrArg nI s16.2.1
  have v3 : nw w 57 59 = nw w 55 1 := congrArg nI s19.2.1
  have v4 : nw w 57 50 = nw w 50 1 := congrArg nI s17.2.2
  have v6 : nw w 57 10 = nw w 6 1 := congrArg nI s11
  have v85 : ∀ a, nw w 85 a = nw w 5 a := fun a => congrArg nI (congrFun s13.2 a)
  refine x_78 (d := d + 37) (σ := nw w) (fun e => ⟨_, rfl, ?_⟩) (fun e => ⟨_, rfl, ?_⟩) (fun e => ⟨_, rfl, ?_⟩) (fun e => ⟨_, rfl, ?_⟩) (fun e => ⟨_, rfl, ?_⟩) (fun e => ⟨_, rfl, ?_⟩) (fun e => ⟨_, rfl, ?_⟩) (fun a a1 a2 e => ⟨_, rfl, ?_⟩) (fun h1 h2 => ⟨_, rfl, ?_⟩)
  · exact x_126 (d := d + 38) (σ := nw w) (fun _ => ⟨by rw [v0], hk _ w S⟩) (fun b => absurd (e.symm.trans b) (by decide)) (fun b => absurd (e.symm.trans b) (by decide)) (fun b => absurd (e.symm.trans b) (by decide)) (fun b => absurd (e.symm.trans b) (by decide)) (fun b => absurd (e.symm.trans b) (by decide)) (fun b => absurd (e.symm.trans b) (by decide)) (fun a b1 b2 b3 => absurd (nI_inj (a := 0) (b := a) (by omega) (by omega) (e.symm.trans b3)) (by omega)) (fun _ b => absurd b (by rw [e]; decide))
  · exact x_126 (d := d + 38) (σ := nw w) (fun b => absurd (e.symm.trans b) (by decide)) (fun _ => ⟨by rw [v1], hk _ w S⟩) (fun b => absurd (e.symm.trans b) (by decide)) (fun b => absurd (e.symm.trans b) (by decide)) (fun b => absurd (e.symm.trans b) (by decide)) (fun b => absurd (e.symm.trans b) (by decide)) (fun b => absurd (e.symm.trans b) (by decide)) (fun a b1 b2 b3 => absurd (nI_inj (a := 1) (b := a) (by omega) (by omega) (e.symm.trans b3)) (by omega)) (fun _ b => absurd b (by rw [e]; decide))
  · exact x_126 (d := d + 38) (σ := nw w) (fun b => absurd (e.symm.trans b) (by decide)) (fun b => absurd (e.symm.trans b) (by decide)) (fun _ => ⟨by rw [v2], hk _ w S⟩) (fun b => absurd (e.symm.trans b) (by decide)) (fun b => absurd (e.symm.trans b) (by decide)) (fun b => absurd (e.symm.trans b) (by decide)) (fun b => absurd (e.symm.trans b) (by decide)) (fun a b1 b2 b3 => absurd (nI_inj (a := 2) (b := a) (by omega) (by omega) (e.symm.trans b3)) (by omega)) (fun _ b => absurd b (by rw [e]; decide))
  · exact x_126 (d := d + 38) (σ := nw w) (fun b => absurd (e.symm.trans b) (by decide)) (fun b => absurd (e.symm.trans b) (by decide)) (fun b => absurd (e.symm.trans b) (by decide)) (fun _ => ⟨by rw [v3], hk _ w S⟩) (fun b => absurd (e.symm.trans b) (by decide)) (fun b => absurd (e.symm.trans b) (by decide)) (fun b => absurd (e.symm.trans b) (by decide)) (fun a b1 b2 b3 => absurd (nI_inj (a := 3) (b := a) (by omega) (by omega) (e.symm.trans b3)) (by omega)) (fun _ b => absurd b (by rw [e]; decide))
  · exact x_126 (d := d + 38) (σ := nw w) (fun b => absurd (e.symm.trans b) (by decide)) (fun b => absurd (e.symm.trans b) (by decide)) (fun b => absurd (e.symm.trans b) (by decide)) (fun b => absurd (e.symm.trans b) (by decide)) (fun _ => ⟨by rw [v4], hk _ w S⟩) (fun b => absurd (e.symm.trans b) (by decide)) (fun b => absurd (e.symm.trans b) (by decide)) (fun a b1 b2 b3 => absurd (nI_inj (a := 4) (b := a) (by omega) (by omega) (e.symm.trans b3)) (by omega)) (fun _ b => absurd b (by rw [e]; decide))
  · exact x_126 (d := d + 38) (σ := nw w) (fun b => absurd (e.symm.trans b) (by decide)) (fun b => absurd (e.symm.trans b) (by decide)) (fun b => absurd (e.symm.trans b) (by decide)) (fun b => absurd (e.symm.trans b) (by decide)) (fun b => absurd (e.symm.trans b) (by decide)) (fun _ => ⟨by rw [hcnt], hk _ w S⟩) (fun b => absurd (e.symm.trans b) (by decide)) (fun a b1 b2 b3 => absurd (nI_inj (a := 5) (b := a) (by omega) (by omega) (e.symm.trans b3)) (by omega)) (fun _ b => absurd b (by rw [e]; decide))
  · exact x_126 (d := d + 38) (σ := nw w) (fun b => absurd (e.symm.trans b) (by decide)) (fun b => absurd (e.symm.trans b) (by decide)) (fun b => absurd (e.symm.trans b) (by decide)) (fun b => absurd (e.symm.trans b) (by decide)) (fun b => absurd (e.symm.trans b) (by decide)) (fun b => absurd (e.symm.trans b) (by decide)) (fun _ => ⟨by rw [v6], hk _ w S⟩) (fun a b1 b2 b3 => absurd (nI_inj (a := 6) (b := a) (by omega) (by omega) (e.symm.trans b3)) (by omega)) (fun _ b => absurd b (by rw [e]; decide))
  · exact x_126 (d := d + 38) (σ := nw w) (fun b => absurd (nI_inj (a := 0) (b := a) (by omega) (by omega) (b.symm.trans e)) (by omega)) (fun b => absurd (nI_inj (a := 1) (b := a) (by omega) (by omega) (b.symm.trans e)) (by omega)) (fun b => absurd (nI_inj (a := 2) (b := a) (by omega) (by omega) (b.symm.trans e)) (by omega)) (fun b => absurd (nI_inj (a := 3) (b := a) (by omega) (by omega) (b.symm.trans e)) (by omega)) (fun b => absurd (nI_inj (a := 4) (b := a) (by omega) (by omega) (b.symm.trans e)) (by omega)) (fun b => absurd (nI_inj (a := 5) (b := a) (by omega) (by omega) (b.symm.trans e)) (by omega)) (fun b => absurd (nI_inj (a := 6) (b := a) (by omega) (by omega) (b.symm.trans e)) (by omega)) (fun a' b1 b2 b3 => ⟨by have q := nI_inj (a := a) (b := a') (by omega) (by omega) (e.symm.trans b3); subst q; rw [v85], hk _ w S⟩) (fun b _ => absurd ⟨a, a1, a2, e⟩ b)
  · exact x_126 (d := d + 38) (σ := nw w) (fun b => absurd h2 (by rw [b]; decide)) (fun b => absurd h2 (by rw [b]; decide)) (fun b => absurd h2 (by rw [b]; decide)) (fun b => absurd h2 (by rw [b]; decide)) (fun b => absurd h2 (by rw [b]; decide)) (fun b => absurd h2 (by rw [b]; decide)) (fun b => absurd h2 (by rw [b]; decide)) (fun a b1 b2 b3 => absurd ⟨a, b1, b2, b3⟩ h1) (fun _ _ => ⟨rfl, hk _ w S⟩)
/-! ===== feed ===== -/
theorem SO.fr2' {w v : WW} (h : SO w) (e : ∀ k, k ≠ 30 → k ≠ 31 → k ≠ 57 → k ≠ 86 → v k = w k) : SO v := by
  unfold SO
  rw [e 17 (by decide) (by decide) (by decide) (by decide), e 19 (by decide) (by decide) (by decide) (by decide), e 20 (by decide) (by decide) (by decide) (by decide), e 21 (by decide) (by decide) (by decide) (by decide), e 22 (by decide) (by decide) (by decide) (by decide), e 27 (by decide) (by decide) (by decide) (by decide), e 28 (by decide) (by decide) (by decide) (by decide)]
  exact h
theorem sh8 (x s : Int32) (k : Nat) (hs : (s.toBitVec.smod 32).toNat = k) (hk : k = 0 ∨ k = 8 ∨ k = 16 ∨ k = 24) : (x >>> s).toBitVec.toNat % 256 = x.toBitVec.toNat / 2 ^ k % 256 := by
  have h1 := pk_shr x s k hs
  generalize x >>> s = y at h1 ⊢
  have hy := BitVec.toInt_eq_toNat_cond y.toBitVec
  have hr := BitVec.toInt_eq_toNat_cond x.toBitVec
  have b1 := y.toBitVec.isLt
  have b2 := x.toBitVec.isLt
  rw [Int.shiftRight_eq_div_pow] at h1
  have h1 : y.toBitVec.toInt = x.toBitVec.toInt / _ := h1
  rw [hy, hr] at h1
  generalize y.toBitVec.toNat = Y at *
  generalize x.toBitVec.toNat = N at *
  rcases hk with rfl | rfl | rfl | rfl <;> (split at h1 <;> split at h1 <;> simp at h1 ⊢ <;> omega)
theorem se8 : ∀ b : BitVec 8, (b.signExtend 32 &&& 255#32) = BitVec.ofNat 32 b.toNat ∧ (b.signExtend 32 = 32#32 ↔ b.toNat = 32) := by decide +kernel
/-- a byte as the two sides keep it -/
theorem byt (x s : Int32) (k : Nat) (hs : (s.toBitVec.smod 32).toNat = k) (hk : k = 0 ∨ k = 8 ∨ k = 16 ∨ k = 24) : (vp_nar .byte (x >>> s).toInt8.toInt32 &&& 255 = nI (x.toBitVec.toNat / 2 ^ k % 256)) ∧ (vp_nar .byte (x >>> s).toInt8.toInt32 = 32 ↔ x.toBitVec.toNat / 2 ^ k % 256 = 32) := by
  have e : vp_nar .byte (x >>> s).toInt8.toInt32 = (x >>> s).toInt8.toInt32 := by
    unfold vp_nar
    rw [pk_nb]
  rw [e, ← sh8 x s k hs hk]
  generalize x >>> s = y
  have hb : y.toInt8.toBitVec.toNat = y.toBitVec.toNat % 256 := by
    show (y.toBitVec.signExtend 8).toNat = _
    rw [BitVec.signExtend_eq_setWidth_of_le _ (by decide)]
    simp
  have q := se8 y.toInt8.toBitVec
  rw [hb] at q
  constructor
  · apply Int32.toBitVec_inj.1
    exact q.1
  · rw [← q.2]
    constructor
    · intro h
      have := congrArg Int32.toBitVec h
      exact this
    · intro h
      apply Int32.toBitVec_inj.1
      exact h
theorem cby (x : Int32) (s : Int32) (k : Nat) (hs : ((s.toUInt32 &&& Int32.toUInt32 31).toBitVec % 32).toNat = k) : (x.toUInt32 >>> (s.toUInt32 &&& Int32.toUInt32 31)).toInt32 &&& 255 = nI (x.toBitVec.toNat / 2 ^ k % 256) := by
  rw [pk_and _ 8 rfl, pk_ushr x s k hs]
def bC (x : Int32) (k : Nat) : Nat := x.toBitVec.toNat / 2 ^ k % 256
def bM (x : Int32) (s : Int32) : Nat := (vp_nar .byte (x >>> (s &&& 31)).toInt8.toInt32).toBitVec.toNat
def wC (w : WW) (n : Nat) (x : Int32) : WW := up2 (up2 (up2 (up2 (up2 (up2 (up2 (up2 w 31 n (bC x 24)) 30 1 (n + 1)) 31 (n + 1) (bC x 16)) 30 1 (n + 2)) 31 (n + 2) (bC x 8)) 30 1 (n + 3)) 31 (n + 3) (bC x 0)) 30 1 (n + 4)
def wM (w : WW) (n : Nat) (x : Int32) : WW := up2 (up2 (up2 (up2 (up2 (up2 (up2 (up2 w 86 n (bM x 24)) 57 32 (n + 1)) 86 (n + 1) (bM x 16)) 57 32 (n + 2)) 86 (n + 2) (bM x 8)) 57 32 (n + 3)) 86 (n + 3) (bM x 0)) 57 32 (n + 4)
theorem nw_wC (w : WW) (n : Nat) (x : Int32) : c_word (nw w) n x = nw (wC w n x) := by
  unfold c_word wC
  rw [nw_up (n := bC x 24) (cby x 24 24 rfl), nw_up (n := n + 1) rfl, nw_up (n := bC x 16) (cby x 16 16 rfl), nw_up (n := n + 2) rfl, nw_up (n := bC x 8) (cby x 8 8 rfl), nw_up (n := n + 3) rfl, nw_up (n := bC x 0) (cby x 0 0 rfl), nw_up (n := n + 4) rfl]
theorem nw_wM (w : WW) (n : Nat) (x : Int32) : m_word (nw w) n x = nw (wM w n x) := by
  unfold m_word wM
  rw [nw_up (n := bM x 24) (ub_n _), nw_up (n := n + 1) rfl, nw_up (n := bM x 16) (ub_n _), nw_up (n := n + 2) rfl, nw_up (n := bM x 8) (ub_n _), nw_up (n := n + 3) rfl, nw_up (n := bM x 0) (ub_n _), nw_up (n := n + 4) rfl]
def BY (w v : WW) : Prop := ∀ i, i < 200 → w 31 i < 256 ∧ (nI (v 86 i) &&& 255 = nI (w 31 i)) ∧ (nI (v 86 i) = 32 ↔ w 31 i = 32)
theorem BY.one {f g : Nat → Nat} (h : ∀ i, i < 200 → f i < 256 ∧ (nI (g i) &&& 255 = nI (f i)) ∧ (nI (g i) = 32 ↔ f i = 32)) {n : Nat} {x s : Int32} (k : Nat) (hs : ((s &&& 31).toBitVec.smod 32).toNat = k) (hk : k = 0 ∨ k = 8 ∨ k = 16 ∨ k = 24) : ∀ i, i < 200 → va_up f n (bC x k) i < 256 ∧ (nI (va_up g n (bM x s) i) &&& 255 = nI (va_up f n (bC x k) i)) ∧ (nI (va_up g n (bM x s) i) = 32 ↔ va_up f n (bC x k) i = 32) := by
  intro i hi
  unfold va_up
  by_cases z : i = n
  · simp only [z, if_true]
    have b := byt x (s &&& 31) k hs hk
    have e : nI (bM x s) = vp_nar .byte (x >>> (s &&& 31)).toInt8.toInt32 := (ub_n _).symm
    rw [e]
    exact ⟨Nat.mod_lt _ (by decide), b⟩
  · simp only [z, if_false]; exact h i hi
theorem BY.word {w v : WW} (h : BY w v) (n : Nat) (x : Int32) : BY (wC w n x) (wM v n x) := by
  have h1 := BY.one (n := n) (x := x) (s := 24) h 24 rfl (by decide)
  have h2 := BY.one (n := n + 1) (x := x) (s := 16) h1 16 rfl (by decide)
  have h3 := BY.one (n := n + 2) (x := x) (s := 8) h2 8 rfl (by decide)
  exact BY.one (n := n + 3) (x := x) (s := 0) h3 0 rfl (by decide)
theorem wC_k (w : WW) (n : Nat) (x : Int32) {k : Nat} (h : k ≠ 30 ∧ k ≠ 31) : wC w n x k = w k := by
  unfold wC
  rw [up2_k _ _ _ _ h.1, up2_k _ _ _ _ h.2, up2_k _ _ _ _ h.1, up2_k _ _ _ _ h.2, up2_k _ _ _ _ h.1, up2_k _ _ _ _ h.2, up2_k _ _ _ _ h.1, up2_k _ _ _ _ h.2]
theorem wM_k (w : WW) (n : Nat) (x : Int32) {k : Nat} (h : k ≠ 57 ∧ k ≠ 86) : wM w n x k = w k := by
  unfold wM
  rw [up2_k _ _ _ _ h.1, up2_k _ _ _ _ h.2, up2_k _ _ _ _ h.1, up2_k _ _ _ _ h.2, up2_k _ _ _ _ h.1, up2_k _ _ _ _ h.2, up2_k _ _ _ _ h.1, up2_k _ _ _ _ h.2]
theorem wM_57 (w : WW) (n : Nat) (x : Int32) {i : Nat} (h : i ≠ 32) : wM w n x 57 i = w 57 i := by
  show va_up (va_up (va_up (va_up (w 57) 32 _) 32 _) 32 _) 32 _ i = _
  rw [va_up_ne _ _ h, va_up_ne _ _ h, va_up_ne _ _ h, va_up_ne _ _ h]
def fC (w : WW) (n : Nat) (x1 x2 x3 x4 x5 : Int32) : WW := wC (wC (wC (wC (wC w n x1) (n + 4) x2) (n + 8) x3) (n + 12) x4) (n + 16) x5
def fM (w : WW) (n : Nat) (x1 x2 x3 x4 x5 : Int32) : WW := wM (wM (wM (wM (wM w n x1) (n + 4) x2) (n + 8) x3) (n + 12) x4) (n + 16) x5
theorem sim_feed {w : WW} (S : Sim w) {x1 x2 x3 x4 x5 : Int32} (hn : w 30 1 ≤ 180) : Sim (fM (fC w (w 30 1) x1 x2 x3 x4 x5) (w 30 1) x1 x2 x3 x4 x5) := by
  obtain ⟨s0, s1, s2, s3, s4, s5, s6, s7, s8, s9, s10, s11, s12, s13, s14, s15, s16, s17, s18, s19, s20, s21⟩ := S
  have eC : ∀ k, k ≠ 30 ∧ k ≠ 31 → fC w (w 30 1) x1 x2 x3 x4 x5 k = w k := fun k hk => by unfold fC; rw [wC_k _ _ _ hk, wC_k _ _ _ hk, wC_k _ _ _ hk, wC_k _ _ _ hk, wC_k _ _ _ hk]
  have eM : ∀ u k, k ≠ 57 ∧ k ≠ 86 → fM u (w 30 1) x1 x2 x3 x4 x5 k = u k := fun u k hk => by unfold fM; rw [wM_k _ _ _ hk, wM_k _ _ _ hk, wM_k _ _ _ hk, wM_k _ _ _ hk, wM_k _ _ _ hk]
  have e57 : ∀ u i, i ≠ 32 → fM u (w 30 1) x1 x2 x3 x4 x5 57 i = u 57 i := fun u i hi => by unfold fM; rw [wM_57 _ _ _ hi, wM_57 _ _ _ hi, wM_57 _ _ _ hi, wM_57 _ _ _ hi, wM_57 _ _ _ hi]
  have hby : BY w (fC w (w 30 1) x1 x2 x3 x4 x5) := fun i hi => by rw [eC 86 (by decide)]; exact ⟨s8.2 i hi, s9.2 i hi⟩
  have h5 : BY (fC w (w 30 1) x1 x2 x3 x4 x5) (fM (fC w (w 30 1) x1 x2 x3 x4 x5) (w 30 1) x1 x2 x3 x4 x5) := ((((hby.word _ x1).word _ x2).word _ x3).word _ x4).word _ x5
  have l1 : fC w (w 30 1) x1 x2 x3 x4 x5 30 1 = w 30 1 + 16 + 4 := rfl
  have l2 : fM (fC w (w 30 1) x1 x2 x3 x4 x5) (w 30 1) x1 x2 x3 x4 x5 57 32 = w 30 1 + 16 + 4 := rfl
  have e : ∀ k, k ≠ 30 → k ≠ 31 → k ≠ 57 → k ≠ 86 → fM (fC w (w 30 1) x1 x2 x3 x4 x5) (w 30 1) x1 x2 x3 x4 x5 k = w k := fun k k1 k2 k3 k4 => (eM _ k ⟨k3, k4⟩).trans (eC k ⟨k1, k2⟩)
  have e5 : ∀ i, i ≠ 32 → fM (fC w (w 30 1) x1 x2 x3 x4 x5) (w 30 1) x1 x2 x3 x4 x5 57 i = w 57 i := fun i hi => (e57 _ i hi).trans (by rw [eC 57 (by decide)])
  have e30 : fM (fC w (w 30 1) x1 x2 x3 x4 x5) (w 30 1) x1 x2 x3 x4 x5 30 = fC w (w 30 1) x1 x2 x3 x4 x5 30 := eM _ 30 (by decide)
  have e31 : fM (fC w (w 30 1) x1 x2 x3 x4 x5) (w 30 1) x1 x2 x3 x4 x5 31 = fC w (w 30 1) x1 x2 x3 x4 x5 31 := eM _ 31 (by decide)
  generalize fM (fC w (w 30 1) x1 x2 x3 x4 x5) (w 30 1) x1 x2 x3 x4 x5 = X at *
  refine ⟨s0.fr2' e, s1.fr2 (e 1 (by decide) (by decide) (by decide) (by decide)) (e 25 (by decide) (by decide) (by decide) (by decide)), s2.fr (fun k hk => e k (by omega) (by omega) (by omega) (by omega)), s3.fr (fun k hk => e k (by omega) (by omega) (by omega) (by omega)), s4.fr (fun k hk => e k (by omega) (by omega) (by omega) (by omega)), ?_, ?_, ?_, ?_, ?_, ?_, ?_, s12.fr (fun k hk => e k (by omega) (by omega) (by omega) (by omega)) (fun k hk => e k (by omega) (by omega) (by omega) (by omega)), ?_, s14.fr (fun k hk => e k (by omega) (by omega) (by omega) (by omega)) (fun k hk => e k (by omega) (by omega) (by omega) (by omega)), ?_, ?_, ?_, ?_, ?_, ?_, ?_⟩
  · unfold AO; rw [e 2 (by decide) (by decide) (by decide) (by decide), e 3 (by decide) (by decide) (by decide) (by decide), e 4 (by decide) (by decide) (by decide) (by decide), e 5 (by decide) (by decide) (by decide) (by decide)]; exact s5
  · unfold ZO; rw [e 24 (by decide) (by decide) (by decide) (by decide), e 23 (by decide) (by decide) (by decide) (by decide)]; exact s6
  · unfold PO; rw [e 18 (by decide) (by decide) (by decide) (by decide)]; exact s7
  · refine ⟨by rw [e30, l1]; omega, fun i hi => ?_⟩
    rw [e31]; exact (h5 i hi).1
  · refine ⟨by rw [e30, l1, l2], fun i hi => ?_⟩
    rw [e31]; exact (h5 i hi).2
  · intro p hp
    have hb : ∀ p, p ∈ EQA → (p.1 ≠ 30 ∧ p.1 ≠ 31 ∧ p.1 ≠ 57 ∧ p.1 ≠ 86) ∧ p.2 ≠ 30 ∧ p.2 ≠ 31 ∧ p.2 ≠ 57 ∧ p.2 ≠ 86 := by decide
    have q := hb p hp
    rw [e p.1 q.1.1 q.1.2.1 q.1.2.2.1 q.1.2.2.2, e p.2 q.2.1 q.2.2.1 q.2.2.2.1 q.2.2.2.2]
    exact s10 p hp
  · rw [e5 10 (by decide), e 6 (by decide) (by decide) (by decide) (by decide)]; exact s11
  · unfold RT; rw [e5 1 (by decide), e 1 (by decide) (by decide) (by decide) (by decide), e 85 (by decide) (by decide) (by decide) (by decide), e 5 (by decide) (by decide) (by decide) (by decide)]; exact s13
  · rw [e 25 (by decide) (by decide) (by decide) (by decide), e 81 (by decide) (by decide) (by decide) (by decide), e 1 (by decide) (by decide) (by decide) (by decide)]; exact s15
  · unfold RC; rw [e5 51 (by decide), e 98 (by decide) (by decide) (by decide) (by decide), e 99 (by decide) (by decide) (by decide) (by decide), e 100 (by decide) (by decide) (by decide) (by decide), e 101 (by decide) (by decide) (by decide) (by decide), e 102 (by decide) (by decide) (by decide) (by decide), e 103 (by decide) (by decide) (by decide) (by decide), e 42 (by decide) (by decide) (by decide) (by decide), e 43 (by decide) (by decide) (by decide) (by decide), e 44 (by decide) (by decide) (by decide) (by decide), e 45 (by decide) (by decide) (by decide) (by decide), e 46 (by decide) (by decide) (by decide) (by decide), e 47 (by decide) (by decide) (by decide) (by decide), e 48 (by decide) (by decide) (by decide) (by decide), e 49 (by decide) (by decide) (by decide) (by decide)]; exact s16
  · unfold RQ; rw [e5 47 (by decide), e5 50 (by decide), e 97 (by decide) (by decide) (by decide) (by decide), e 53 (by decide) (by decide) (by decide) (by decide), e 50 (by decide) (by decide) (by decide) (by decide)]; exact s17
  · rw [e 51 (by decide) (by decide) (by decide) (by decide), e 94 (by decide) (by decide) (by decide) (by decide), e 95 (by decide) (by decide) (by decide) (by decide)]; exact s18
  · unfold AR; rw [e5 58 (by decide), e5 59 (by decide), e 0 (by decide) (by decide) (by decide) (by decide), e 55 (by decide) (by decide) (by decide) (by decide), e 104 (by decide) (by decide) (by decide) (by decide), e 56 (by decide) (by decide) (by decide) (by decide)]; exact s19
  · unfold CK; rw [e 42 (by decide) (by decide) (by decide) (by decide), e 46 (by decide) (by decide) (by decide) (by decide), e 48 (by decide) (by decide) (by decide) (by decide)]; exact s20
  · unfold FV0; rw [e 51 (by decide) (by decide) (by decide) (by decide)]; exact s21
theorem pr_feed {d : Nat} {w : WW} {τ : Nat → Nat → Int64} {K : Int32 → Sto → Prop} {x1 x2 x3 x4 x5 : Int32} (S : Sim w) (hk : ∀ r w', Sim w' → K r (stt (nw w') τ)) : PR d 69 93 [.ref 0, .int x1, .int x2, .int x3, .int x4, .int x5] [.ref 57, .int x1, .int x2, .int x3, .int x4, .int x5] w τ K := by
  have hT : TPc w := S.2.2.2.2.2.2.2.2.1
  have e32 : w 57 32 = w 30 1 := S.2.2.2.2.2.2.2.2.2.1.1
  refine x_69 (d := d + 38) (σ := nw w) (n := w 30 1) rfl hT.1 (fun h => ⟨_, rfl, ?_⟩) (fun h => ⟨_, rfl, ?_⟩)
  · unfold c_feed
    rw [nw_wC, nw_wC, nw_wC, nw_wC, nw_wC]
    refine x_93 (d := d + 38) (n := w 30 1) (show nI (fC w (w 30 1) x1 x2 x3 x4 x5 57 32) = nI (w 30 1) from congrArg nI e32) hT.1 (fun _ => ⟨rfl, ?_⟩) (fun q => absurd h q)
    unfold m_feed
    rw [nw_wM, nw_wM, nw_wM, nw_wM, nw_wM]
    exact hk _ _ (sim_feed S h)
  · exact x_93 (d := d + 38) (σ := nw w) (n := w 30 1) (congrArg nI e32) hT.1 (fun q => absurd q h) (fun _ => ⟨rfl, hk _ w S⟩)
