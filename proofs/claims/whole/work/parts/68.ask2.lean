/-! ===== ask, in one ===== -/
theorem Sim.rdq {w r v0 v1 u : WW} {τ τ1 : Nat → Nat → Int64} (S : Sim w) (F : FRD w r) (e0 : ∀ k, k ≠ 0 ∧ k ≠ 30 → v0 k = r k) (V : FRV v0 v1 τ τ1) (eu : ∀ k, k ≠ 57 → u k = v1 k) (eu2 : ∀ i, i ≠ 32 ∧ i ≠ 58 → u 57 i = v1 57 i) (h30 : v0 30 1 = 0) (h32 : u 57 32 = 0) (h9 : u 57 58 = v0 0 9) : Sim u := by
  refine S.keep (fun k hk => ?_) (fun i hi => ?_) ?_ ?_
  · rw [eu k (by omega), V.1 k (by omega) (by omega), e0 k (by omega), F.1 k (by omega)]
  · rw [eu2 i (by omega), V.2.1 i (by omega) (by omega) (by omega), e0 57 (by decide), F.1 57 (by decide)]
  · rw [eu 30 (by decide), V.1 30 (by decide) (by decide), h30, h32]
    exact ⟨Nat.zero_le _, rfl⟩
  · rw [eu 0 (by decide), V.1 0 (by decide) (by decide), h9]
theorem pr_ask {d : Nat} {w : WW} {τ : Nat → Nat → Int64} {K : Int32 → Sto → Prop} {x1 x2 x3 x4 : Int32} (S : Sim w) (hk : ∀ r w' τ', Sim w' → K r (stt (nw w') τ')) : PR d 71 102 [.ref 0, .int x1, .int x2, .int x3, .int x4] [.ref 57, .int x1, .int x2, .int x3, .int x4] w τ K := by
  have S0 := S
  obtain ⟨s0, s1, s2, s3, s4, s5, s6, s7, s8, s9, s10, s11, s12, s13, s14, s15, s16, s17, s18, s19, s20, s21⟩ := S
  have e571 := s13.1
  have hw1 : w 1 4 ≤ 100000 := s1.1
  have h500 : ∀ a, a < 4 → w 5 a ≤ 500 := fun a ha => (s5 a ha).2.2.2
  have hF : ∀ {ty f : Nat} {r : WW}, ty < 6 → aRead w ty = (r, f) → FRD w r := fun {ty f r} hty hr => by
    have q := (aRead_ok s0 hty).1
    rw [hr] at q
    exact q
  have hPS : ∀ (r : WW) (n : Nat), PS (up2 r 30 1 0) n = PS r n := fun r n => PS_fr (a := up2 r 30 1 0) (w := r) rfl rfl rfl n
  refine c_71 (d := d + 23) ⟨s0, s1, s2, s3, s4, s5, s6⟩ s7 s8 (fun hf => ⟨_, rfl, ?_⟩) (fun a ty ke tk r f h1 h2 h3 h4 h5 h6 e1 e2 e3 e4 hr hf0 => ⟨_, rfl, ?_⟩) (fun a ty ke tk r k h1 h2 h3 h4 h5 h6 e1 e2 e3 e4 hr k1 k2 k3 => ⟨_, rfl, ?_⟩) (fun a ty ke tk r h1 h2 h3 h4 h5 h6 e1 e2 e3 e4 hr hp t T => ?_)
  · refine m_102a (d := d + 19) (v := w) (by omega) (fun _ => ⟨rfl, hk _ w τ S0⟩) (fun as ty ke tk b1 b2 b3 b4 b5 b6 e1 e2 e3 e4 => ?_)
    have hq : ∀ t, t ≤ 200 → x4 = nI t → w 1 4 + t ≤ 100000 := by
      intro t ht e
      have := nI_inj (a := tk) (b := t) (by omega) (by omega) (e4.symm.trans e)
      omega
    exact absurd ⟨⟨as, by omega, by omega, e1⟩, ⟨ty, by omega, by omega, e2⟩, ⟨ke, by omega, by omega, e3⟩, ⟨tk, b4, b5, e4⟩, hq⟩ hf
  · subst e1; subst e2; subst e3; subst e4
    have F := hF h2 hr
    obtain ⟨m1, m2, m3, m4, m5⟩ := S0.mk_rd (v := up2 r 30 1 0) (fun k hk => by rw [up2_k _ _ _ _ (show k ≠ 30 by omega), F.1 k (by omega)])
    refine m_102g (d := d + 19) h1 h2 h3 h4 h5 (by rw [m5]; exact h6) ?_
    refine m_102b (d := d + 19) h1 h2 s0 s7 s8 m1 m2 m3 hr m4 (h500 a h1) (fun v1 τ1 hO q => ⟨rfl, hk _ _ _ ?_⟩) (fun v1 τ1 k hO q => absurd q hf0) (fun v1 τ1 hO q => absurd q hf0)
    refine S0.rdq F (fun k hk => up2_k _ _ _ _ hk.2) hO.2.1 (fun k hk => up2_k _ _ _ _ hk) (fun i hi => up2_o _ _ _ _ hi.1) rfl rfl ?_
    show v1 57 58 = r 0 9
    rw [hO.2.1.2.1 58 (by decide) (by decide) (by decide), up2_k _ _ _ _ (show 57 ≠ 30 by decide), F.1 57 (by decide), F.1 0 (by decide)]
    exact s19.1
  · subst e1; subst e2; subst e3; subst e4
    have F := hF h2 hr
    obtain ⟨m1, m2, m3, m4, m5⟩ := S0.mk_rd (v := up2 (up2 r 30 1 0) 0 9 (r 34 k)) (fun k hk => by rw [up2_k _ _ _ _ (show k ≠ 0 by omega), up2_k _ _ _ _ (show k ≠ 30 by omega), F.1 k (by omega)])
    rw [hPS] at k2
    have k3 : ∀ j, j < k → PS r (j + 1) ≤ r 5 a := fun j hj => by rw [← hPS]; exact k3 j hj
    refine m_102g (d := d + 19) h1 h2 h3 h4 h5 (by rw [m5]; exact h6) ?_
    refine m_102b (d := d + 19) h1 h2 s0 s7 s8 m1 m2 m3 hr m4 (h500 a h1) (fun v1 τ1 hO q => absurd rfl q) (fun v1 τ1 k' hO q l1 l2 l3 => ⟨rfl, hk _ _ _ ?_⟩) (fun v1 τ1 hO q k0 => ?_)
    · have ek : k' = k := by
        rcases Nat.lt_trichotomy k' k with y | y | y
        · have := k3 k' y; omega
        · exact y
        · have := l3 k y; omega
      refine S0.rdq F (fun k hk => by rw [up2_k _ _ _ _ hk.1, up2_k _ _ _ _ hk.2]) hO.2.1 (fun k hk => by rw [up2_k _ _ _ _ hk, up2_k _ _ _ _ hk]) (fun i hi => by rw [up2_o _ _ _ _ hi.2, up2_o _ _ _ _ hi.1]) rfl rfl ?_
      rw [ek]
      rfl
    · have z := PS_mono r (k + 1) (r 32 7 - (k + 1))
      rw [show k + 1 + (r 32 7 - (k + 1)) = r 32 7 by omega] at z
      omega
  · subst e1; subst e2; subst e3; subst e4
    rw [hPS] at hp T ⊢
    exact ⟨_, rfl, ask_full (d := d) S0 h1 h2 h3 h4 h5 h6 hr hp T hk⟩
