/-! ===== cost on both sides ===== -/
theorem MI.ck {w : WW} (M : MI w) : CK w := by
  have n := M.2.2.2.1
  have k := n.2.2.2.2.2.2.2.1
  have l := n.2.2.2.2.2.2.2.2
  have k : w 42 9 + fb_ct (fun x => w 51 x == 0 || w 51 x == 11) 192 ≤ 192 := k
  have l1 : w 42 5 ≤ w 42 9 := l.1
  refine ⟨by omega, fun c hc => ?_⟩
  have q := (l.2 c hc).1
  have q2 : w 48 c + w 46 c ≤ w 42 9 := q.2.2
  exact ⟨q.2.1, by omega⟩
theorem rlp_ck : ∀ (m : Nat) (w : WW), MI w → w 1 4 + m ≤ 100000 → CK (rlp m w)
  | 0, w, M, _ => by
    have f := (aForget_ok M).2.2
    have q := M.ck
    show CK (aForget w)
    unfold CK
    rw [f 42 (by decide) (by decide) (by decide), f 46 (by decide) (by decide) (by decide), f 48 (by decide) (by decide) (by decide)]
    exact q
  | m + 1, w, M, hn => by
    have M2 := aCalls_mi M
    have e1 : aCalls w 1 4 = w 1 4 := by rw [aCalls_k M (show 1 < 42 by decide) (by decide)]
    rw [rlp_s]
    split
    · exact M2.ck
    · have M3 := aGo_mi M2 (t := 1) (by omega)
      have M4 := aBack_mi M3
      refine rlp_ck m _ M4 ?_
      rw [aBack_k M3 (by decide) (by decide) (by decide), show aGo 1 (aCalls w) 1 4 = aCalls w 1 4 + 1 from rfl]
      omega
/-- what is left as it was, where an ask or a cost read and no more -/
def KP (k : Nat) : Prop := k ≠ 0 ∧ k ≠ 30 ∧ k ≠ 57 ∧ (k < 32 ∨ 41 < k) ∧ (k < 87 ∨ 93 < k)
theorem eqa_kp : ∀ p, p ∈ EQA → (p.1 ≠ 0 ∧ p.1 ≠ 30 ∧ p.1 ≠ 57 ∧ (p.1 < 32 ∨ 41 < p.1) ∧ (p.1 < 87 ∨ 93 < p.1)) ∧ (p.2 ≠ 0 ∧ p.2 ≠ 30 ∧ p.2 ≠ 57 ∧ (p.2 < 32 ∨ 41 < p.2) ∧ (p.2 < 87 ∨ 93 < p.2)) := by decide
theorem Sim.keep {w u : WW} (S : Sim w) (E : ∀ k, k ≠ 0 ∧ k ≠ 30 ∧ k ≠ 57 ∧ (k < 32 ∨ 41 < k) ∧ (k < 87 ∨ 93 < k) → u k = w k) (e57 : ∀ i, i = 1 ∨ i = 10 ∨ i = 47 ∨ i = 50 ∨ i = 51 ∨ i = 59 → u 57 i = w 57 i) (h30 : u 30 1 ≤ w 30 1 ∧ u 57 32 = u 30 1) (h9 : u 57 58 = u 0 9) : Sim u := by
  obtain ⟨s0, s1, s2, s3, s4, s5, s6, s7, s8, s9, s10, s11, s12, s13, s14, s15, s16, s17, s18, s19, s20, s21⟩ := S
  refine ⟨?_, ?_, s2.fr (fun k hk => E k (by omega)), ?_, fun g hg => ?_, ?_, ?_, ?_, ⟨?_, fun i hi => ?_⟩, ⟨h30.2, fun i hi => ?_⟩, fun p hp => ?_, ?_, fun h hh => ?_, ?_, s14.fr (fun k hk => E k (by omega)) (fun k hk => E k (by omega)), ?_, ?_, ?_, ?_, ⟨h9, ?_, ?_, ?_⟩, ?_, ?_⟩
  · unfold SO; rw [E 17 (by decide), E 19 (by decide), E 20 (by decide), E 21 (by decide), E 22 (by decide), E 27 (by decide), E 28 (by decide)]; exact s0
  · unfold KO; rw [E 1 (by decide), E 25 (by decide)]; exact s1
  · unfold SP; rw [E 6 (by decide), E 8 (by decide), E 9 (by decide), E 10 (by decide)]; exact s3
  · rw [E (11 + g) (by omega)]; exact s4 g hg
  · unfold AO; rw [E 2 (by decide), E 3 (by decide), E 4 (by decide), E 5 (by decide)]; exact s5
  · unfold ZO; rw [E 24 (by decide), E 23 (by decide)]; exact s6
  · unfold PO; rw [E 18 (by decide)]; exact s7
  · have := s8.1; omega
  · rw [E 31 (by decide)]; exact s8.2 i hi
  · rw [E 86 (by decide), E 31 (by decide)]; exact s9.2 i hi
  · rw [E p.1 (eqa_kp p hp).1, E p.2 (eqa_kp p hp).2]; exact s10 p hp
  · rw [e57 10 (by decide), E 6 (by decide)]; exact s11
  · rw [E 58 (by decide), E 59 (by decide), E 60 (by decide), E 61 (by decide), E 62 (by decide), E (11 + h) (by omega)]; exact s12 h hh
  · unfold RT; rw [e57 1 (by decide), E 85 (by decide), E 1 (by decide), E 5 (by decide)]; exact s13
  · rw [E 25 (by decide), E 81 (by decide), E 1 (by decide)]; exact s15
  · unfold RC; rw [e57 51 (by decide), E 98 (by decide), E 99 (by decide), E 100 (by decide), E 101 (by decide), E 102 (by decide), E 43 (by decide), E 44 (by decide), E 45 (by decide), E 46 (by decide), E 47 (by decide), E 42 (by decide), E 103 (by decide), E 49 (by decide), E 48 (by decide)]; exact s16
  · unfold RQ; rw [e57 47 (by decide), e57 50 (by decide), E 97 (by decide), E 53 (by decide), E 50 (by decide)]; exact s17
  · rw [E 51 (by decide), E 94 (by decide), E 95 (by decide)]; exact s18
  · rw [e57 59 (by decide), E 55 (by decide)]; exact s19.2.1
  · rw [E 55 (by decide)]; exact s19.2.2.1
  · rw [E 55 (by decide), E 104 (by decide), E 56 (by decide)]; exact s19.2.2.2
  · unfold CK; rw [E 42 (by decide), E 46 (by decide), E 48 (by decide)]; exact s20
  · unfold FV0; rw [E 51 (by decide)]; exact s21
set_option maxRecDepth 20000 in
theorem m_96f {d : Nat} {v : WW} {τ : Nat → Nat → Int64} {x1 : Int32} {Post : Option Value → Sto → Prop} (hf : ¬ rg x1 0 5) (hp : Post (some (.int (-1))) (stt (nw v) τ)) : Ex (d + 4) 96 [.ref 57, .int x1] (stt (nw v) τ) 0 0 Post := by
  refine en_96 (Nat.le_of_ble_eq_true rfl) ?_
  show RU_96 (d + 3) (0, 0) Post 0 ([(0, .ref 57), (1, .int x1)]) ([]) (stt (nw v) τ) 0 0
  refine R_seg sg_96_0 sk_96_0 (pc' := 3) (lv' := [(0, .ref 57), (1, .int x1)]) (st' := [.int 5, .int 0, .int x1]) (S' := stt (nw v) τ) (kc' := 0) (ks' := 0) rfl ⟨trivial, trivial, trivial, trivial⟩ ?_
  refine R_stat ck_96_3 (by decide) [.int x1, .int 0, .int 5] 0 0 (r := []) rfl rfl (Nat.le_of_ble_eq_true rfl) (Nat.le_refl _) (Nat.le_refl _) ?_
  refine xn_81 (d := d + 2) 0 5 (by decide) (by decide) (fun j j1 j2 j3 => absurd ⟨j, j1, j2, j3⟩ hf) (fun _ => ?_)
  show RU_96 (d + 3) (0, 0) Post 6 ([(0, .ref 57), (1, .int x1)]) ([.int 0]) (stt (nw v) τ) 0 0
  refine R_if ck_96_6 (fun c => absurd c (show ¬ ¬ (0 : Int32) = 0 from by decide)) (fun _ => ?_)
  refine R_seg sg_96_9 sk_96_9 (pc' := 10) (lv' := [(0, .ref 57), (1, .int x1)]) (st' := [.int (-1)]) (S' := stt (nw v) τ) (kc' := 0) (ks' := 0) rfl ⟨trivial, trivial⟩ ?_
  refine R_iret ck_96_10 rfl rfl ?_
  exact hp
theorem Sim.rd {w r v1 : WW} {τ τ1 : Nat → Nat → Int64} (S : Sim w) (F : FRD w r) (V : FRV r v1 τ τ1) : Sim v1 := by
  refine S.keep (fun k hk => ?_) (fun i hi => ?_) ?_ ?_
  · rw [V.1 k (by omega) (by omega), F.1 k (by omega)]
  · rw [V.2.1 i (by omega) (by omega) (by omega), F.1 57 (by decide)]
  · rw [V.1 30 (by decide) (by decide), V.2.1 32 (by decide) (by decide) (by decide), F.1 57 (by decide), F.1 30 (by decide)]
    exact ⟨Nat.le_refl _, S.2.2.2.2.2.2.2.2.2.1.1⟩
  · rw [V.1 0 (by decide) (by decide), V.2.1 58 (by decide) (by decide) (by decide), F.1 57 (by decide), F.1 0 (by decide)]
    obtain ⟨s0, s1, s2, s3, s4, s5, s6, s7, s8, s9, s10, s11, s12, s13, s14, s15, s16, s17, s18, s19, s20, s21⟩ := S
    exact s19.1
theorem pr_cost {d : Nat} {w : WW} {τ : Nat → Nat → Int64} {K : Int32 → Sto → Prop} {x1 : Int32} (S : Sim w) (hk : ∀ r w' τ', Sim w' → K r (stt (nw w') τ')) : PR d 72 96 [.ref 0, .int x1] [.ref 57, .int x1] w τ K := by
  have S0 := S
  obtain ⟨s0, s1, s2, s3, s4, s5, s6, s7, s8, s9, s10, s11, s12, s13, s14, s15, s16, s17, s18, s19, s20, s21⟩ := S
  have eK : ∀ r, FRD w r → TPR w r ∧ (r 72 = w 20 ∧ r 73 = w 21 ∧ r 74 = w 22) ∧ r 70 = w 18 := by
    intro r F
    refine ⟨?_, ⟨?_, ?_, ?_⟩, ?_⟩
    · unfold TPR; rw [F.1 57 (by decide), F.1 86 (by decide)]; exact s9
    · rw [F.1 72 (by decide)]; exact s10 (72, 20) (by decide)
    · rw [F.1 73 (by decide)]; exact s10 (73, 21) (by decide)
    · rw [F.1 74 (by decide)]; exact s10 (74, 22) (by decide)
    · rw [F.1 70 (by decide)]; exact s10 (70, 18) (by decide)
  refine c_72 (d := d + 36) s0 s7 s8 (fun hf => ⟨_, rfl, ?_⟩) (fun ty r f hty hx hr hf0 => ⟨_, rfl, ?_⟩) (fun ty r hty hx hr => ⟨_, rfl, ?_⟩)
  · exact m_96f (d := d + 36) hf ⟨rfl, hk _ w τ S0⟩
  · subst hx
    have F : FRD w r := by have q := (aRead_ok s0 hty).1; rw [hr] at q; exact q
    have q := eK r F
    exact m_96 (d := d + 36) (v := r) hty s0 s7 s8 q.1 q.2.1 q.2.2 hr (fun v1 τ1 hO _ => ⟨rfl, hk _ v1 τ1 (S0.rd F hO.2.1)⟩) (fun v1 τ1 hO h => absurd h hf0)
  · subst hx
    have F : FRD w r := by have q := (aRead_ok s0 hty).1; rw [hr] at q; exact q
    have q := eK r F
    exact m_96 (d := d + 36) (v := r) hty s0 s7 s8 q.1 q.2.1 q.2.2 hr (fun v1 τ1 hO h => absurd rfl h) (fun v1 τ1 hO h => ⟨rfl, hk _ v1 _ (S0.rd F hO.2.1)⟩)
