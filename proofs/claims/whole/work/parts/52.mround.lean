/-! ===== the model's rounds ===== -/
theorem aBB_skip : ∀ (m q : Nat) (w : WW) (f : Nat), q ≤ f → f ≤ q + m → (∀ c, q ≤ c → c < f → w 47 c ≠ 3) → aBB m q w = aBB (q + m - f) f w
  | 0, q, w, f, h1, h2, _ => by rw [show f = q by omega, show q + 0 - q = 0 by omega]
  | m + 1, q, w, f, h1, h2, h3 => by
    by_cases e : q = f
    · subst e; rw [show q + (m + 1) - q = m + 1 by omega]
    · rw [aBB_s, if_neg (fun z => h3 q (Nat.le_refl _) (by omega) z.1), aBB_skip m (q + 1) w f (by omega) (by omega) (fun j j1 j2 => h3 j (by omega) j2), show q + 1 + m - f = q + (m + 1) - f by omega]
theorem aFG1_skip : ∀ (m q : Nat) (w : WW) (f : Nat), q ≤ f → f ≤ q + m → (∀ c, q ≤ c → c < f → w 47 c ≠ 3) → aFG1 m q w = aFG1 (q + m - f) f w
  | 0, q, w, f, h1, h2, _ => by rw [show f = q by omega, show q + 0 - q = 0 by omega]
  | m + 1, q, w, f, h1, h2, h3 => by
    by_cases e : q = f
    · subst e; rw [show q + (m + 1) - q = m + 1 by omega]
    · rw [aFG1_s, if_neg (h3 q (Nat.le_refl _) (by omega)), aFG1_skip m (q + 1) w f (by omega) (by omega) (fun j j1 j2 => h3 j (by omega) j2), show q + 1 + m - f = q + (m + 1) - f by omega]
theorem aBack_0 {w : WW} (M : MI w) : aBB (w 42 5) 0 w = aBack w := by
  have h := M.2.2.2.2.2.1
  rw [aBB_skip (w 42 5) 0 w (w 42 6) (Nat.zero_le _) (by have := h.1; omega) (fun c _ hc => h.2.2.1 c hc), show 0 + w 42 5 - w 42 6 = w 42 5 - w 42 6 by omega]
  rfl
theorem aForget_0 {w : WW} (M : MI w) : aFG2 (w 50 1) 0 (aFG1 (w 42 5) 0 w) = aForget w := by
  have h := M.2.2.2.2.2.1
  rw [aFG1_skip (w 42 5) 0 w (w 42 6) (Nat.zero_le _) (by have := h.1; omega) (fun c _ hc => h.2.2.1 c hc), show 0 + w 42 5 - w 42 6 = w 42 5 - w 42 6 by omega]
  rfl
theorem aTB_24 {w : WW} (M : MI w) {k : Nat} (hk : k < w 42 5) (h3 : w 47 k = 3) : aTB k w 24 = w 24 := aTB_k M hk h3 (by decide) (by decide) (by decide) (by decide) (by decide)
set_option maxRecDepth 20000 in
theorem ml_108 {d n ky : Nat} {v0 : WW} {τ : Nat → Nat → Int64} {Post : Option Value → Sto → Prop} : ∀ (nn : Nat) (c : Nat) (u v : WW), MI u → CI u ky → (∀ x, x < 192 → u 24 x ≤ 1) → u 42 5 = n → Rl u v → FV v0 v → c ≤ n → (∀ v, Rl (aBB (n - c) c u) v → FV v0 v → Post none (stt (nw v) τ)) → n - c < nn → RU_108 (d + 12) (0, 0) Post 7 [(2, .int (nI c)), (1, .int (nI n)), (0, .ref 57)] [] (stt (nw v) τ) 0 0 := by
  intro nn
  induction nn with
  | zero => intro c u v M hI h24 hn hR hV hcn hp hms; exact absurd hms (by omega)
  | succ nn ih =>
    intro c u v M hI h24 hn hR hV hcn hp hms
    have hl := M.2.2.2.1.2.2.2.2.2.2.2.2.1
    have hkk := M.2.2.2.1.2.2.2.2.2.2.2.1
    have hk3 : u 42 9 ≤ 192 := by unfold NIk at hkk; omega
    have e102 : v 102 c = u 47 c := by rw [hR.2.2.2.2.1.1.2.2.2.2]
    have e98 : v 98 c = u 43 c := by rw [hR.2.2.2.2.1.1.1]
    have e100 : v 100 c = u 45 c := by rw [hR.2.2.2.2.1.1.2.2.1]
    have e57 := hR.2.1.1
    refine R_seg sg_108_7 sk_108_7 (pc' := 9) (lv' := [(2, .int (nI c)), (1, .int (nI n)), (0, .ref 57)]) (st' := [.int (nI n), .int (nI c)]) (S' := stt (nw v) τ) (kc' := 0) (ks' := 0) rfl ⟨trivial, trivial, trivial⟩ ?_
    refine R_icmp ck_108_9 (fun (c_9 : (nI n) ≤ (nI c)) => ?_) (fun (c_9 : ¬ (nI n) ≤ (nI c)) => ?_)
    · have c_9 : n ≤ c := (nI_leI (a := n) (b := c) (by omega) (by omega)).mp c_9
      refine R_ret ck_108_58 rfl ?_
      rw [show n - c = 0 by omega] at hp
      exact hp v hR hV
    · have c_9 : c < n := Nat.not_le.mp (fun zq => c_9 ((nI_leI (a := n) (b := c) (by omega) (by omega)).mpr zq))
      obtain ⟨m, em⟩ : ∃ m, n - c = m + 1 := ⟨n - c - 1, by omega⟩
      rw [em] at hp
      have em2 : m = n - (c + 1) := by omega
      subst em2
      have hc := M.2.2.2.2.2.1.2.1 c (by omega)
      have hh := hc.1
      have hH := (M.2.2.2.2.1 (u 43 c) hh).1
      have hK := M.2.2.1.1
      have e58 : v 58 (u 43 c) = u (11 + u 43 c) 0 := (hR.1.2.2.1 (u 43 c) hh).1
      refine R_seg sg_108_12 sk_108_12 (pc' := 17) (lv' := [(2, .int (nI c)), (1, .int (nI n)), (0, .ref 57)]) (st' := [.int (nI c), .ref 102]) (S' := stt (nw v) τ) (kc' := 0) (ks' := 0) rfl ⟨trivial, rfl, trivial, trivial⟩ ?_
      refine R_iald ca_108_17 (j := c) rfl rfl (by omega) ?_
      show RU_108 (d + 12) (0, 0) Post 18 ([(2, .int (nI c)), (1, .int (nI n)), (0, .ref 57)]) ([.int (nI (v 102 c))]) (stt (nw v) τ) 0 0
      rw [e102]
      refine R_seg sg_108_18 sk_108_18 (pc' := 19) (lv' := [(2, .int (nI c)), (1, .int (nI n)), (0, .ref 57)]) (st' := [.int 3, .int (nI (u 47 c))]) (S' := stt (nw v) τ) (kc' := 0) (ks' := 0) rfl ⟨trivial, trivial⟩ ?_
      refine R_icmp ck_108_19 (fun (c_19 : ¬ (nI (u 47 c)) = 3) => ?_) (fun (c_19 : ¬ ¬ (nI (u 47 c)) = 3) => ?_)
      · have c_19 : ¬ (u 47 c) = 3 := fun zq => c_19 ((nI_eq (a := (u 47 c)) (b := 3) (by omega) (by omega)).mpr zq)
        refine R_seg sg_108_52 sk_108_52 (pc' := 55) (lv' := [(2, .int ((nI c) + 1)), (1, .int (nI n)), (0, .ref 57)]) (st' := []) (S' := stt (nw v) τ) (kc' := 0) (ks' := 0) rfl ⟨(by decide), trivial⟩ ?_
        refine R_goto ck_108_55 ?_
        refine Runs.lv (lv := [(2, .int ((nI c) + 1)), (1, .int (nI n)), (0, .ref 57)]) ?_ _ (lvS_l (show ([2, 1, 0] : List Nat).Nodup from by decide) (by intro q hq; simp only [List.mem_cons, List.not_mem_nil, or_false] at hq; rcases hq with rfl | rfl | rfl <;> rfl))
        rw [nI_1 c]
        exact ih (c + 1) u v M hI h24 hn hR hV (by omega) (by first | (rw [aBB_s, if_neg (fun z => c_19 z.1)] at hp; exact hp) | (rw [aBB_s, if_neg (fun z => c_44 z.2)] at hp; exact hp)) (by omega)
      · have c_19 : (u 47 c) = 3 := (nI_eq (a := (u 47 c)) (b := 3) (by omega) (by omega)).mp (Classical.not_not.mp c_19)
        refine R_seg sg_108_22 sk_108_22 (pc' := 27) (lv' := [(2, .int (nI c)), (1, .int (nI n)), (0, .ref 57)]) (st' := [.int (nI c), .ref 100]) (S' := stt (nw v) τ) (kc' := 0) (ks' := 0) rfl ⟨trivial, rfl, trivial, trivial⟩ ?_
        refine R_iald ca_108_27 (j := c) rfl rfl (by omega) ?_
        show RU_108 (d + 12) (0, 0) Post 28 ([(2, .int (nI c)), (1, .int (nI n)), (0, .ref 57)]) ([.int (nI (v 100 c))]) (stt (nw v) τ) 0 0
        rw [e100]
        refine R_seg sg_108_28 sk_108_28 (pc' := 37) (lv' := [(2, .int (nI c)), (1, .int (nI n)), (0, .ref 57)]) (st' := [.int (nI c), .ref 98, .ref 58, .int (nI (u 45 c))]) (S' := stt (nw v) τ) (kc' := 0) (ks' := 0) rfl ⟨trivial, rfl, trivial, rfl, trivial, trivial⟩ ?_
        refine R_iald ca_108_37 (j := c) rfl rfl (by omega) ?_
        show RU_108 (d + 12) (0, 0) Post 38 ([(2, .int (nI c)), (1, .int (nI n)), (0, .ref 57)]) ([.int (nI (v 98 c)), .ref 58, .int (nI (u 45 c))]) (stt (nw v) τ) 0 0
        rw [e98]
        refine R_iald ca_108_38 (j := u 43 c) rfl rfl (by omega) ?_
        show RU_108 (d + 12) (0, 0) Post 39 ([(2, .int (nI c)), (1, .int (nI n)), (0, .ref 57)]) ([.int (nI (v 58 (u 43 c))), .int (nI (u 45 c))]) (stt (nw v) τ) 0 0
        rw [e58]
        refine R_seg sg_108_39 sk_108_39 (pc' := 44) (lv' := [(2, .int (nI c)), (1, .int (nI n)), (0, .ref 57)]) (st' := [.int (nI (v 57 1)), .int ((nI (u 45 c)) + (nI (u (11 + u 43 c) 0)))]) (S' := stt (nw v) τ) (kc' := 0) (ks' := 0) rfl ⟨trivial, trivial, rfl, trivial⟩ ?_
        rw [nI_add (u 45 c)]
        rw [e57]
        refine R_icmp ck_108_44 (fun (c_44 : ¬ (nI (u 45 c + u (11 + u 43 c) 0)) = (nI (u 1 4))) => ?_) (fun (c_44 : ¬ ¬ (nI (u 45 c + u (11 + u 43 c) 0)) = (nI (u 1 4))) => ?_)
        · have c_44 : ¬ (u 45 c + u (11 + u 43 c) 0) = (u 1 4) := fun zq => c_44 ((nI_eq (a := (u 45 c + u (11 + u 43 c) 0)) (b := (u 1 4)) (by omega) (by omega)).mpr zq)
          refine R_seg sg_108_52 sk_108_52 (pc' := 55) (lv' := [(2, .int ((nI c) + 1)), (1, .int (nI n)), (0, .ref 57)]) (st' := []) (S' := stt (nw v) τ) (kc' := 0) (ks' := 0) rfl ⟨(by decide), trivial⟩ ?_
          refine R_goto ck_108_55 ?_
          refine Runs.lv (lv := [(2, .int ((nI c) + 1)), (1, .int (nI n)), (0, .ref 57)]) ?_ _ (lvS_l (show ([2, 1, 0] : List Nat).Nodup from by decide) (by intro q hq; simp only [List.mem_cons, List.not_mem_nil, or_false] at hq; rcases hq with rfl | rfl | rfl <;> rfl))
          rw [nI_1 c]
          exact ih (c + 1) u v M hI h24 hn hR hV (by omega) (by first | (rw [aBB_s, if_neg (fun z => c_19 z.1)] at hp; exact hp) | (rw [aBB_s, if_neg (fun z => c_44 z.2)] at hp; exact hp)) (by omega)
        · have c_44 : (u 45 c + u (11 + u 43 c) 0) = (u 1 4) := (nI_eq (a := (u 45 c + u (11 + u 43 c) 0)) (b := (u 1 4)) (by omega) (by omega)).mp (Classical.not_not.mp c_44)
          refine R_seg sg_108_47 sk_108_47 (pc' := 49) (lv' := [(2, .int (nI c)), (1, .int (nI n)), (0, .ref 57)]) (st' := [.int (nI c), .ref 57]) (S' := stt (nw v) τ) (kc' := 0) (ks' := 0) rfl ⟨trivial, trivial, trivial⟩ ?_
          refine R_virt ck_108_49 57 [.int (nI c)] 0 0 (r := []) rfl rfl rfl (Nat.le_of_ble_eq_true rfl) (Nat.le_refl _) (Nat.le_refl _) ?_
          refine m_109 (d := d) M hI h24 (by omega) c_19 hR (fun v2 hR2 hV2 => ?_)
          show RU_108 (d + 12) (0, 0) Post 52 ([(2, .int (nI c)), (1, .int (nI n)), (0, .ref 57)]) ([]) (stt (nw v2) τ) 0 0
          refine R_seg sg_108_52 sk_108_52 (pc' := 55) (lv' := [(2, .int ((nI c) + 1)), (1, .int (nI n)), (0, .ref 57)]) (st' := []) (S' := stt (nw v2) τ) (kc' := 0) (ks' := 0) rfl ⟨(by decide), trivial⟩ ?_
          refine R_goto ck_108_55 ?_
          refine Runs.lv (lv := [(2, .int ((nI c) + 1)), (1, .int (nI n)), (0, .ref 57)]) ?_ _ (lvS_l (show ([2, 1, 0] : List Nat).Nodup from by decide) (by intro q hq; simp only [List.mem_cons, List.not_mem_nil, or_false] at hq; rcases hq with rfl | rfl | rfl <;> rfl))
          rw [nI_1 c]
          exact ih (c + 1) _ v2 (aTB_mi M (by omega) c_19) (aTB_ci M hI (by omega) c_19) (by rw [aTB_24 M (by omega) c_19]; exact h24) (by rw [aTB_42 M (by omega) c_19]; exact hn) hR2 (hV.tr hV2) (by omega) (by rw [aBB_s, if_pos ⟨c_19, c_44⟩] at hp; exact hp) (by omega)
set_option maxRecDepth 20000 in
theorem m_108 {d ky : Nat} {a v : WW} {τ : Nat → Nat → Int64} {Post : Option Value → Sto → Prop} (M : MI a) (hI : CI a ky) (h24 : ∀ x, x < 192 → a 24 x ≤ 1) (hR : Rl a v) (hp : ∀ v', Rl (aBack a) v' → FV v v' → Post none (stt (nw v') τ)) : Ex (d + 13) 108 [.ref 57] (stt (nw v) τ) 0 0 Post := by
  refine en_108 (Nat.le_of_ble_eq_true rfl) ?_
  show RU_108 (d + 12) (0, 0) Post 0 ([(0, .ref 57)]) ([]) (stt (nw v) τ) 0 0
  refine R_seg [(.aload_n 0, 1, 0, 0, 0, 0), (.getfield 254, 3, 11, 51, 0, 0), (.istore_n 1, 1, 0, 0, 0, 0)] (by decide +kernel) (pc' := 5) (lv' := [(1, .int (nI (v 57 51))), (0, .ref 57)]) (st' := []) (S' := stt (nw v) τ) (kc' := 0) (ks' := 0) rfl ⟨trivial, rfl, (by decide), trivial⟩ ?_
  rw [hR.2.2.2.2.1.2.1]
  skip
  refine R_seg [(.iconst 0, 1, 0, 0, 0, 0), (.istore_n 2, 1, 0, 0, 0, 0)] (by decide +kernel) (pc' := 7) (lv' := [(2, .int 0), (1, .int (nI (a 42 5))), (0, .ref 57)]) (st' := []) (S' := stt (nw v) τ) (kc' := 0) (ks' := 0) rfl ⟨trivial, (by decide), trivial⟩ ?_
  rw [← nI_0]
  exact ml_108 (a 42 5 + 1) 0 a v M hI h24 rfl hR (FV.rf v) (Nat.zero_le _) (by rw [Nat.sub_zero, aBack_0 M]; exact hp) (by omega)
theorem FGI.weak {u : WW} {k k' n : Nat} (H : FGI u k n) (h : k' ≤ k) : FGI u k' n := by
  obtain ⟨a1, a2, a3, a4, a5, a6⟩ := H
  refine ⟨a1, a2, a3, a4, a5, fun h' hh => ?_⟩
  rcases a6 h' hh with t | ⟨t1, t2⟩
  · exact Or.inl t
  · exact Or.inr ⟨by omega, t2⟩
theorem Rl.end1 {a v : WW} (hR : Rl a v) (c : Nat) : Rl (up2 a 47 c 2) (up2 v 102 c 2) := by
  obtain ⟨h1, h2, h3, h4, ⟨⟨r1, r2, r3, r4, r5⟩, r6, r7⟩, h6, h7, h8⟩ := hR
  refine ⟨h1.fr ((FA.rf a).up (Or.inl (by decide))) ((FV.rf v).up rfl), h2, h3.fr (fun k hk => up2_k _ _ _ _ (by omega)) (fun k hk => up2_k _ _ _ _ (by omega)), h4, ⟨⟨r1, r2, r3, r4, ?_⟩, r6, r7⟩, h6, h7, h8⟩
  show va_up (v 102) c 2 = va_up (a 47) c 2
  rw [r5]
set_option maxRecDepth 20000 in
theorem ml_115a {d n : Nat} {v0 : WW} {τ : Nat → Nat → Int64} {Post : Option Value → Sto → Prop} : ∀ (nn : Nat) (c : Nat) (u v : WW), FGI u c n → TF u → Rl u v → FV v0 v → c ≤ n → (∀ v, Rl (aFG1 (n - c) c u) v → FV v0 v → RU_115 (d + 1) (0, 0) Post 58 [(0, .ref 57)] [] (stt (nw v) τ) 0 0) → n - c < nn → RU_115 (d + 1) (0, 0) Post 2 [(1, .int (nI c)), (0, .ref 57)] [] (stt (nw v) τ) 0 0 := by
  intro nn
  induction nn with
  | zero => intro c u v H T hR hV hcn hp hms; exact absurd hms (by omega)
  | succ nn ih =>
    intro c u v H T hR hV hcn hp hms
    have h5 := H.2.2.1
    have h192 := H.2.2.2.1
    have e51 : v 57 51 = n := by rw [hR.2.2.2.2.1.2.1]; exact h5
    have e102 : v 102 c = u 47 c := by rw [hR.2.2.2.2.1.1.2.2.2.2]
    have e98 : v 98 c = u 43 c := by rw [hR.2.2.2.2.1.1.1]
    refine R_seg sg_115_2 sk_115_2 (pc' := 7) (lv' := [(1, .int (nI c)), (0, .ref 57)]) (st' := [.int (nI (v 57 51)), .int (nI c)]) (S' := stt (nw v) τ) (kc' := 0) (ks' := 0) rfl ⟨trivial, trivial, rfl, trivial⟩ ?_
    rw [e51]
    refine R_icmp ck_115_7 (fun (c_7 : (nI n) ≤ (nI c)) => ?_) (fun (c_7 : ¬ (nI n) ≤ (nI c)) => ?_)
    · have c_7 : n ≤ c := (nI_leI (a := n) (b := c) (by omega) (by omega)).mp c_7
      refine Runs.lv (lv := [(0, .ref 57)]) ?_ _ (lvS_l (show ([0] : List Nat).Nodup from by decide) (by intro q hq; simp only [List.mem_cons, List.not_mem_nil, or_false] at hq; rcases hq with rfl <;> rfl))
      rw [show n - c = 0 by omega] at hp
      exact hp v hR hV
    · have c_7 : c < n := Nat.not_le.mp (fun zq => c_7 ((nI_leI (a := n) (b := c) (by omega) (by omega)).mpr zq))
      obtain ⟨m, em⟩ : ∃ m, n - c = m + 1 := ⟨n - c - 1, by omega⟩
      rw [em] at hp
      have em2 : m = n - (c + 1) := by omega
      subst em2
      have hc := H.2.2.2.2.1 c (by omega)
      have hh := hc.1
      have e65 : v 65 (u 43 c) = u (11 + u 43 c) 8 := (hR.2.2.1 (u 43 c) hh).2.1
      have hiff : nI (u (11 + u 43 c) 8) = nI c ↔ u (11 + u 43 c) 8 = c := by
        rcases H.2.2.2.2.2 (u 43 c) hh with z | z
        · rw [z]; exact ⟨fun q => absurd q.symm (nI_m1 (by omega)), fun q => absurd (show 4294967295 = c from q) (by omega)⟩
        · exact nI_eq (by omega) (by omega)
      refine R_seg sg_115_10 sk_115_10 (pc' := 15) (lv' := [(1, .int (nI c)), (0, .ref 57)]) (st' := [.int (nI c), .ref 102]) (S' := stt (nw v) τ) (kc' := 0) (ks' := 0) rfl ⟨trivial, rfl, trivial, trivial⟩ ?_
      refine R_iald ca_115_15 (j := c) rfl rfl (by omega) ?_
      show RU_115 (d + 1) (0, 0) Post 16 ([(1, .int (nI c)), (0, .ref 57)]) ([.int (nI (v 102 c))]) (stt (nw v) τ) 0 0
      rw [e102]
      refine R_seg sg_115_16 sk_115_16 (pc' := 17) (lv' := [(1, .int (nI c)), (0, .ref 57)]) (st' := [.int 3, .int (nI (u 47 c))]) (S' := stt (nw v) τ) (kc' := 0) (ks' := 0) rfl ⟨trivial, trivial⟩ ?_
      refine R_icmp ck_115_17 (fun (c_17 : ¬ (nI (u 47 c)) = 3) => ?_) (fun (c_17 : ¬ ¬ (nI (u 47 c)) = 3) => ?_)
      · have c_17 : ¬ (u 47 c) = 3 := fun zq => c_17 ((nI_eq (a := (u 47 c)) (b := 3) (by omega) (by omega)).mpr zq)
        refine R_seg sg_115_52 sk_115_52 (pc' := 55) (lv' := [(1, .int ((nI c) + 1)), (0, .ref 57)]) (st' := []) (S' := stt (nw v) τ) (kc' := 0) (ks' := 0) rfl ⟨(by decide), trivial⟩ ?_
        refine R_goto ck_115_55 ?_
        refine Runs.lv (lv := [(1, .int ((nI c) + 1)), (0, .ref 57)]) ?_ _ (lvS_l (show ([1, 0] : List Nat).Nodup from by decide) (by intro q hq; simp only [List.mem_cons, List.not_mem_nil, or_false] at hq; rcases hq with rfl | rfl <;> rfl))
        rw [nI_1 c]
        exact ih (c + 1) u v (H.no c_17) T hR hV (by omega) (by rw [aFG1_s, if_neg c_17] at hp; exact hp) (by omega)
      · have c_17 : (u 47 c) = 3 := (nI_eq (a := (u 47 c)) (b := 3) (by omega) (by omega)).mp (Classical.not_not.mp c_17)
        refine R_seg sg_115_20 sk_115_20 (pc' := 26) (lv' := [(1, .int (nI c)), (0, .ref 57)]) (st' := [.int 2, .int (nI c), .ref 102]) (S' := stt (nw v) τ) (kc' := 0) (ks' := 0) rfl ⟨trivial, rfl, trivial, trivial, trivial⟩ ?_
        refine R_iast ca_115_26 (j := c) rfl rfl (by omega) ?_
        show RU_115 (d + 1) (0, 0) Post 27 ([(1, .int (nI c)), (0, .ref 57)]) ([]) (stt (up2 (nw v) 102 c 2) τ) 0 0
        rw [nw_up (w := v) (k := 102) (i := c) (v := 2) (n := 2) rfl]
        refine R_seg sg_115_27 sk_115_27 (pc' := 36) (lv' := [(1, .int (nI c)), (0, .ref 57)]) (st' := [.int (nI c), .ref 98, .ref 65]) (S' := stt (nw (up2 v 102 c 2)) τ) (kc' := 0) (ks' := 0) rfl ⟨trivial, rfl, trivial, rfl, trivial, trivial⟩ ?_
        refine R_iald ca_115_36 (j := c) rfl rfl (by omega) ?_
        show RU_115 (d + 1) (0, 0) Post 37 ([(1, .int (nI c)), (0, .ref 57)]) ([.int (nI (v 98 c)), .ref 65]) (stt (nw (up2 v 102 c 2)) τ) 0 0
        rw [e98]
        refine R_iald ca_115_37 (j := u 43 c) rfl rfl (by omega) ?_
        show RU_115 (d + 1) (0, 0) Post 38 ([(1, .int (nI c)), (0, .ref 57)]) ([.int (nI (v 65 (u 43 c)))]) (stt (nw (up2 v 102 c 2)) τ) 0 0
        rw [e65]
        refine R_seg sg_115_38 sk_115_38 (pc' := 39) (lv' := [(1, .int (nI c)), (0, .ref 57)]) (st' := [.int (nI c), .int (nI (u (11 + u 43 c) 8))]) (S' := stt (nw (up2 v 102 c 2)) τ) (kc' := 0) (ks' := 0) rfl ⟨trivial, trivial⟩ ?_
        refine R_icmp ck_115_39 (fun (c_39 : ¬ (nI (u (11 + u 43 c) 8)) = (nI c)) => ?_) (fun (c_39 : ¬ ¬ (nI (u (11 + u 43 c) 8)) = (nI c)) => ?_)
        · have c_39 : ¬ u (11 + u 43 c) 8 = c := fun z => c_39 (hiff.mpr z)
          refine R_seg sg_115_52 sk_115_52 (pc' := 55) (lv' := [(1, .int ((nI c) + 1)), (0, .ref 57)]) (st' := []) (S' := stt (nw (up2 v 102 c 2)) τ) (kc' := 0) (ks' := 0) rfl ⟨(by decide), trivial⟩ ?_
          refine R_goto ck_115_55 ?_
          refine Runs.lv (lv := [(1, .int ((nI c) + 1)), (0, .ref 57)]) ?_ _ (lvS_l (show ([1, 0] : List Nat).Nodup from by decide) (by intro q hq; simp only [List.mem_cons, List.not_mem_nil, or_false] at hq; rcases hq with rfl | rfl <;> rfl))
          rw [nI_1 c]
          exact ih (c + 1) _ _ (H.mark c_39) (T.mark c) (hR.end1 c) (hV.up rfl) (by omega) (by rw [aFG1_s, if_pos c_17, if_neg c_39] at hp; exact hp) (by omega)
        · have c_39 : u (11 + u 43 c) 8 = c := hiff.mp (Classical.not_not.mp c_39)
          refine R_seg sg_115_42 sk_115_42 (pc' := 48) (lv' := [(1, .int (nI c)), (0, .ref 57)]) (st' := [.int (nI c), .ref 98, .ref 57]) (S' := stt (nw (up2 v 102 c 2)) τ) (kc' := 0) (ks' := 0) rfl ⟨trivial, trivial, rfl, trivial, trivial⟩ ?_
          refine R_iald ca_115_48 (j := c) rfl rfl (by omega) ?_
          show RU_115 (d + 1) (0, 0) Post 49 ([(1, .int (nI c)), (0, .ref 57)]) ([.int (nI (v 98 c)), .ref 57]) (stt (nw (up2 v 102 c 2)) τ) 0 0
          rw [e98]
          refine R_virt ck_115_49 57 [.int (nI (u 43 c))] 0 0 (r := []) rfl rfl rfl (Nat.le_of_ble_eq_true rfl) (Nat.le_refl _) (Nat.le_refl _) ?_
          refine m_111 (d := d) (v := up2 v 102 c 2) hh ?_
          show RU_115 (d + 1) (0, 0) Post 52 ([(1, .int (nI c)), (0, .ref 57)]) ([]) (stt (nw (mOpen (u 43 c) (up2 v 102 c 2))) τ) 0 0
          refine R_seg sg_115_52 sk_115_52 (pc' := 55) (lv' := [(1, .int ((nI c) + 1)), (0, .ref 57)]) (st' := []) (S' := stt (nw (mOpen (u 43 c) (up2 v 102 c 2))) τ) (kc' := 0) (ks' := 0) rfl ⟨(by decide), trivial⟩ ?_
          refine R_goto ck_115_55 ?_
          refine Runs.lv (lv := [(1, .int ((nI c) + 1)), (0, .ref 57)]) ?_ _ (lvS_l (show ([1, 0] : List Nat).Nodup from by decide) (by intro q hq; simp only [List.mem_cons, List.not_mem_nil, or_false] at hq; rcases hq with rfl | rfl <;> rfl))
          rw [nI_1 c]
          exact ih (c + 1) _ _ (H.opn (by omega) c_39 (T.get H (by omega) c_39)) ((T.mark c).opn _) ((hR.end1 c).opn hh (fun _ _ => rfl) (fun _ _ => rfl)) ((((hV.up rfl).up rfl).up rfl).up rfl) (by omega) (by rw [aFG1_s, if_pos c_17, if_pos c_39] at hp; exact hp) (by omega)
set_option maxRecDepth 20000 in
theorem ml_115b {d n : Nat} {v0 : WW} {τ : Nat → Nat → Int64} {Post : Option Value → Sto → Prop} (hn : n ≤ 192) : ∀ (nn : Nat) (q : Nat) (u v : WW), (∀ i, i < n → u 53 i < 192) → u 50 1 = n → Rl u v → FV v0 v → q ≤ n → (∀ v, Rl (aFG2 (n - q) q u) v → FV v0 v → Post none (stt (nw v) τ)) → n - q < nn → RU_115 (d + 1) (0, 0) Post 60 [(1, .int (nI q)), (0, .ref 57)] [] (stt (nw v) τ) 0 0 := by
  intro nn
  induction nn with
  | zero => intro q u v hc ha hR hV hqn hp hms; exact absurd hms (by omega)
  | succ nn ih =>
    intro q u v hc ha hR hV hqn hp hms
    have e47 : v 57 47 = n := by rw [hR.2.2.2.2.2.1.2.1]; exact ha
    have e97 : v 97 q = u 53 q := by rw [hR.2.2.2.2.2.1.1]
    refine R_seg sg_115_60 sk_115_60 (pc' := 65) (lv' := [(1, .int (nI q)), (0, .ref 57)]) (st' := [.int (nI (v 57 47)), .int (nI q)]) (S' := stt (nw v) τ) (kc' := 0) (ks' := 0) rfl ⟨trivial, trivial, rfl, trivial⟩ ?_
    rw [e47]
    refine R_icmp ck_115_65 (fun (c_65 : (nI n) ≤ (nI q)) => ?_) (fun (c_65 : ¬ (nI n) ≤ (nI q)) => ?_)
    · have c_65 : n ≤ q := (nI_leI (a := n) (b := q) (by omega) (by omega)).mp c_65
      refine R_ret ck_115_115 rfl ?_
      rw [show n - q = 0 by omega] at hp
      exact hp v hR hV
    · have c_65 : q < n := Nat.not_le.mp (fun zq => c_65 ((nI_leI (a := n) (b := q) (by omega) (by omega)).mpr zq))
      obtain ⟨m, em⟩ : ∃ m, n - q = m + 1 := ⟨n - q - 1, by omega⟩
      rw [em] at hp
      have em2 : m = n - (q + 1) := by omega
      subst em2
      have hxq := hc q (by omega)
      have e94 := (hR.2.2.2.2.2.2.1 (u 53 q) hxq).1
      have b94 := sOf_le (u 51 (u 53 q))
      refine R_seg sg_115_68 sk_115_68 (pc' := 77) (lv' := [(1, .int (nI q)), (0, .ref 57)]) (st' := [.int (nI q), .ref 97, .ref 94]) (S' := stt (nw v) τ) (kc' := 0) (ks' := 0) rfl ⟨trivial, rfl, trivial, rfl, trivial, trivial⟩ ?_
      refine R_iald ca_115_77 (j := q) rfl rfl (by omega) ?_
      show RU_115 (d + 1) (0, 0) Post 78 ([(1, .int (nI q)), (0, .ref 57)]) ([.int (nI (v 97 q)), .ref 94]) (stt (nw v) τ) 0 0
      rw [e97]
      refine R_iald ca_115_78 (j := u 53 q) rfl rfl (by omega) ?_
      refine R_seg sg_115_79 sk_115_79 (pc' := 80) (lv' := [(1, .int (nI q)), (0, .ref 57)]) (st' := [.int 1, .int (nI (v 94 (u 53 q)))]) (S' := stt (nw v) τ) (kc' := 0) (ks' := 0) rfl ⟨trivial, trivial⟩ ?_
      refine R_icmp ck_115_80 (fun (c_80 : (nI (v 94 (u 53 q))) = 1) => ?_) (fun (c_80 : ¬ (nI (v 94 (u 53 q))) = 1) => ?_)
      · have c_80 : (v 94 (u 53 q)) = 1 := (nI_eq (a := (v 94 (u 53 q))) (b := 1) (by omega) (by omega)).mp c_80
        have c_80 : u 51 (u 53 q) = 11 := sOf_1.mp (by rw [← e94]; exact c_80)
        refine R_seg sg_115_98 sk_115_98 (pc' := 104) (lv' := [(1, .int (nI q)), (0, .ref 57)]) (st' := [.int (nI q), .ref 97, .ref 57]) (S' := stt (nw v) τ) (kc' := 0) (ks' := 0) rfl ⟨trivial, trivial, rfl, trivial, trivial⟩ ?_
        refine R_iald ca_115_104 (j := q) rfl rfl (by omega) ?_
        show RU_115 (d + 1) (0, 0) Post 105 ([(1, .int (nI q)), (0, .ref 57)]) ([.int (nI (v 97 q)), .ref 57]) (stt (nw v) τ) 0 0
        rw [e97]
        refine R_seg sg_115_105 sk_115_105 (pc' := 106) (lv' := [(1, .int (nI q)), (0, .ref 57)]) (st' := [.int 5, .int (nI (u 53 q)), .ref 57]) (S' := stt (nw v) τ) (kc' := 0) (ks' := 0) rfl ⟨trivial, trivial⟩ ?_
        refine R_virt ck_115_106 57 [.int (nI (u 53 q)), .int 5] 0 0 (r := []) rfl rfl rfl (Nat.le_of_ble_eq_true rfl) (Nat.le_refl _) (Nat.le_refl _) ?_
        refine x_104 (d := d) (σ := nw v) (x := u 53 q) hxq ?_
        rw [nw_up (v := 4) (n := 4) rfl, nw_up (v := 5) (n := 5) rfl]
        show RU_115 (d + 1) (0, 0) Post 109 ([(1, .int (nI q)), (0, .ref 57)]) ([]) (stt (nw (up2 (up2 v 94 (u 53 q) 4) 95 (u 53 q) 5)) τ) 0 0
        refine R_seg sg_115_109 sk_115_109 (pc' := 112) (lv' := [(1, .int ((nI q) + 1)), (0, .ref 57)]) (st' := []) (S' := stt (nw (up2 (up2 v 94 (u 53 q) 4) 95 (u 53 q) 5)) τ) (kc' := 0) (ks' := 0) rfl ⟨(by decide), trivial⟩ ?_
        refine R_goto ck_115_112 ?_
        refine Runs.lv (lv := [(1, .int ((nI q) + 1)), (0, .ref 57)]) ?_ _ (lvS_l (show ([1, 0] : List Nat).Nodup from by decide) (by intro q hq; simp only [List.mem_cons, List.not_mem_nil, or_false] at hq; rcases hq with rfl | rfl <;> rfl))
        rw [nI_1 q]
        exact ih (q + 1) (up2 u 51 (u 53 q) 5) _ hc ha (hR.null (u 53 q) rfl) ((hV.up rfl).up rfl) (by omega) (by first | (rw [aFG2_s, if_pos (Or.inl c_80)] at hp; exact hp) | (rw [aFG2_s, if_pos (Or.inr c_95)] at hp; exact hp)) (by omega)
      · have c_80 : ¬ (v 94 (u 53 q)) = 1 := fun zq => c_80 ((nI_eq (a := (v 94 (u 53 q))) (b := 1) (by omega) (by omega)).mpr zq)
        have c_80 : ¬ u 51 (u 53 q) = 11 := fun z => c_80 (by rw [e94]; exact sOf_1.mpr z)
        refine R_seg sg_115_83 sk_115_83 (pc' := 92) (lv' := [(1, .int (nI q)), (0, .ref 57)]) (st' := [.int (nI q), .ref 97, .ref 94]) (S' := stt (nw v) τ) (kc' := 0) (ks' := 0) rfl ⟨trivial, rfl, trivial, rfl, trivial, trivial⟩ ?_
        refine R_iald ca_115_92 (j := q) rfl rfl (by omega) ?_
        show RU_115 (d + 1) (0, 0) Post 93 ([(1, .int (nI q)), (0, .ref 57)]) ([.int (nI (v 97 q)), .ref 94]) (stt (nw v) τ) 0 0
        rw [e97]
        refine R_iald ca_115_93 (j := u 53 q) rfl rfl (by omega) ?_
        refine R_seg sg_115_94 sk_115_94 (pc' := 95) (lv' := [(1, .int (nI q)), (0, .ref 57)]) (st' := [.int 2, .int (nI (v 94 (u 53 q)))]) (S' := stt (nw v) τ) (kc' := 0) (ks' := 0) rfl ⟨trivial, trivial⟩ ?_
        refine R_icmp ck_115_95 (fun (c_95 : ¬ (nI (v 94 (u 53 q))) = 2) => ?_) (fun (c_95 : ¬ ¬ (nI (v 94 (u 53 q))) = 2) => ?_)
        · have c_95 : ¬ (v 94 (u 53 q)) = 2 := fun zq => c_95 ((nI_eq (a := (v 94 (u 53 q))) (b := 2) (by omega) (by omega)).mpr zq)
          have c_95 : ¬ u 51 (u 53 q) = 12 := fun z => c_95 (by rw [e94]; exact sOf_2.mpr z)
          refine R_seg sg_115_109 sk_115_109 (pc' := 112) (lv' := [(1, .int ((nI q) + 1)), (0, .ref 57)]) (st' := []) (S' := stt (nw v) τ) (kc' := 0) (ks' := 0) rfl ⟨(by decide), trivial⟩ ?_
          refine R_goto ck_115_112 ?_
          refine Runs.lv (lv := [(1, .int ((nI q) + 1)), (0, .ref 57)]) ?_ _ (lvS_l (show ([1, 0] : List Nat).Nodup from by decide) (by intro q hq; simp only [List.mem_cons, List.not_mem_nil, or_false] at hq; rcases hq with rfl | rfl <;> rfl))
          rw [nI_1 q]
          exact ih (q + 1) u v hc ha hR hV (by omega) (by rw [aFG2_s, if_neg (fun z => by rcases z with z | z; exact c_80 z; exact c_95 z)] at hp; exact hp) (by omega)
        · have c_95 : (v 94 (u 53 q)) = 2 := (nI_eq (a := (v 94 (u 53 q))) (b := 2) (by omega) (by omega)).mp (Classical.not_not.mp c_95)
          have c_95 : u 51 (u 53 q) = 12 := sOf_2.mp (by rw [← e94]; exact c_95)
          refine R_seg sg_115_98 sk_115_98 (pc' := 104) (lv' := [(1, .int (nI q)), (0, .ref 57)]) (st' := [.int (nI q), .ref 97, .ref 57]) (S' := stt (nw v) τ) (kc' := 0) (ks' := 0) rfl ⟨trivial, trivial, rfl, trivial, trivial⟩ ?_
          refine R_iald ca_115_104 (j := q) rfl rfl (by omega) ?_
          show RU_115 (d + 1) (0, 0) Post 105 ([(1, .int (nI q)), (0, .ref 57)]) ([.int (nI (v 97 q)), .ref 57]) (stt (nw v) τ) 0 0
          rw [e97]
          refine R_seg sg_115_105 sk_115_105 (pc' := 106) (lv' := [(1, .int (nI q)), (0, .ref 57)]) (st' := [.int 5, .int (nI (u 53 q)), .ref 57]) (S' := stt (nw v) τ) (kc' := 0) (ks' := 0) rfl ⟨trivial, trivial⟩ ?_
          refine R_virt ck_115_106 57 [.int (nI (u 53 q)), .int 5] 0 0 (r := []) rfl rfl rfl (Nat.le_of_ble_eq_true rfl) (Nat.le_refl _) (Nat.le_refl _) ?_
          refine x_104 (d := d) (σ := nw v) (x := u 53 q) hxq ?_
          rw [nw_up (v := 4) (n := 4) rfl, nw_up (v := 5) (n := 5) rfl]
          show RU_115 (d + 1) (0, 0) Post 109 ([(1, .int (nI q)), (0, .ref 57)]) ([]) (stt (nw (up2 (up2 v 94 (u 53 q) 4) 95 (u 53 q) 5)) τ) 0 0
          refine R_seg sg_115_109 sk_115_109 (pc' := 112) (lv' := [(1, .int ((nI q) + 1)), (0, .ref 57)]) (st' := []) (S' := stt (nw (up2 (up2 v 94 (u 53 q) 4) 95 (u 53 q) 5)) τ) (kc' := 0) (ks' := 0) rfl ⟨(by decide), trivial⟩ ?_
          refine R_goto ck_115_112 ?_
          refine Runs.lv (lv := [(1, .int ((nI q) + 1)), (0, .ref 57)]) ?_ _ (lvS_l (show ([1, 0] : List Nat).Nodup from by decide) (by intro q hq; simp only [List.mem_cons, List.not_mem_nil, or_false] at hq; rcases hq with rfl | rfl <;> rfl))
          rw [nI_1 q]
          exact ih (q + 1) (up2 u 51 (u 53 q) 5) _ hc ha (hR.null (u 53 q) rfl) ((hV.up rfl).up rfl) (by omega) (by first | (rw [aFG2_s, if_pos (Or.inl c_80)] at hp; exact hp) | (rw [aFG2_s, if_pos (Or.inr c_95)] at hp; exact hp)) (by omega)
set_option maxRecDepth 20000 in
theorem m_115 {d : Nat} {a v : WW} {τ : Nat → Nat → Int64} {Post : Option Value → Sto → Prop} (M : MI a) (hR : Rl a v) (hp : ∀ v', Rl (aForget a) v' → FV v v' → Post none (stt (nw v') τ)) : Ex (d + 2) 115 [.ref 57] (stt (nw v) τ) 0 0 Post := by
  have h1 := M.2.2.2.2.2.1.1
  have hN := M.2.2.2.1
  have hc := hN.2.2.1
  have ha := hN.2.1
  have ha3 : a 50 1 ≤ 192 := by unfold NIb at ha; omega
  have q := aFG1_ok (a 42 5) 0 a ((FGI.beg M).weak (Nat.zero_le _)) (TF.beg M) (by omega)
  refine en_115 (Nat.le_of_ble_eq_true rfl) ?_
  show RU_115 (d + 1) (0, 0) Post 0 ([(0, .ref 57)]) ([]) (stt (nw v) τ) 0 0
  refine R_seg sg_115_0 sk_115_0 (pc' := 2) (lv' := [(1, .int 0), (0, .ref 57)]) (st' := []) (S' := stt (nw v) τ) (kc' := 0) (ks' := 0) rfl ⟨trivial, (by decide), trivial⟩ ?_
  rw [← nI_0]
  refine ml_115a (n := a 42 5) (a 42 5 + 1) 0 a v ((FGI.beg M).weak (Nat.zero_le _)) (TF.beg M) hR (FV.rf v) (Nat.zero_le _) (fun v2 hR2 hV2 => ?_) (by omega)
  refine R_seg sg_115_58 sk_115_58 (pc' := 60) (lv' := [(1, .int 0), (0, .ref 57)]) (st' := []) (S' := stt (nw v2) τ) (kc' := 0) (ks' := 0) rfl ⟨trivial, (by decide), trivial⟩ ?_
  rw [← nI_0]
  rw [Nat.sub_zero] at hR2
  exact ml_115b (n := a 50 1) (by omega) (a 50 1 + 1) 0 _ v2 (by rw [q.2 53 (by decide) (by decide)]; exact fun i hi => (hc i hi).1) (by rw [q.2 50 (by decide) (by decide)]) hR2 hV2 (Nat.zero_le _) (by rw [Nat.sub_zero, aForget_0 M]; exact hp) (by omega)
def ovr (a : WW) : Prop := (∀ c, c < a 42 5 → a 47 c ≠ 3) ∧ ∀ i, i < a 50 1 → a 51 (a 53 i) ≠ 11
set_option maxRecDepth 20000 in
theorem ml_116b {d : Nat} {a v : WW} {τ : Nat → Nat → Int64} {Post : Option Value → Sto → Prop} (hQ : QO a) (hR : Rl a v) (h1 : ovr a → Post (some (.int 1)) (stt (nw v) τ)) (h0 : ¬ ovr a → Post (some (.int 0)) (stt (nw v) τ)) : ∀ (nn : Nat) (i f : Nat), i ≤ a 50 1 → f ≤ 1 → (f = 1 ↔ (∀ c, c < a 42 5 → a 47 c ≠ 3) ∧ ∀ j, j < i → a 51 (a 53 j) ≠ 11) → a 50 1 - i < nn → RU_116 d (0, 0) Post 40 [(2, .int (nI i)), (1, .int (nI f)), (0, .ref 57)] [] (stt (nw v) τ) 0 0 := by
  intro nn
  induction nn with
  | zero => intro i f hi hf2 hf hms; exact absurd hms (by omega)
  | succ nn ih =>
    intro i f hi hf2 hf hms
    have e47 := hR.2.2.2.2.2.1.2.1
    have e97 : v 97 i = a 53 i := by rw [hR.2.2.2.2.2.1.1]
    have hQ1 := hQ.1
    refine R_seg sg_116_40 sk_116_40 (pc' := 45) (lv' := [(2, .int (nI i)), (1, .int (nI f)), (0, .ref 57)]) (st' := [.int (nI (v 57 47)), .int (nI i)]) (S' := stt (nw v) τ) (kc' := 0) (ks' := 0) rfl ⟨trivial, trivial, rfl, trivial⟩ ?_
    rw [e47]
    refine R_icmp ck_116_45 (fun (c_45 : (nI (a 50 1)) ≤ (nI i)) => ?_) (fun (c_45 : ¬ (nI (a 50 1)) ≤ (nI i)) => ?_)
    · have c_45 : (a 50 1) ≤ i := (nI_leI (a := (a 50 1)) (b := i) (by omega) (by omega)).mp c_45
      refine R_seg sg_116_79 sk_116_79 (pc' := 80) (lv' := [(2, .int (nI i)), (1, .int (nI f)), (0, .ref 57)]) (st' := [.int (nI f)]) (S' := stt (nw v) τ) (kc' := 0) (ks' := 0) rfl ⟨trivial, trivial⟩ ?_
      refine R_iret ck_116_80 rfl (by rcases (show f = 0 ∨ f = 1 by omega) with z | z <;> rw [z] <;> rfl) ?_
      have ei : i = a 50 1 := by omega
      subst ei
      by_cases z : f = 1
      · rw [z]; exact h1 (hf.mp z)
      · rw [show f = 0 by omega]; exact h0 (fun y => z (hf.mpr y))
    · have c_45 : i < (a 50 1) := Nat.not_le.mp (fun zq => c_45 ((nI_leI (a := (a 50 1)) (b := i) (by omega) (by omega)).mpr zq))
      have hxq := hQ.2.1 i c_45
      have e94 := (hR.2.2.2.2.2.2.1 (a 53 i) hxq).1
      have b94 := sOf_le (a 51 (a 53 i))
      refine R_seg sg_116_48 sk_116_48 (pc' := 49) (lv' := [(2, .int (nI i)), (1, .int (nI f)), (0, .ref 57)]) (st' := [.int (nI f)]) (S' := stt (nw v) τ) (kc' := 0) (ks' := 0) rfl ⟨trivial, trivial⟩ ?_
      refine R_if ck_116_49 (fun (c_49 : (nI f) = 0) => ?_) (fun (c_49 : ¬ (nI f) = 0) => ?_)
      · have c_49 : f = 0 := (nI_eq (a := f) (b := 0) (by omega) (by omega)).mp c_49
        refine R_seg sg_116_71 sk_116_71 (pc' := 72) (lv' := [(2, .int (nI i)), (1, .int (nI f)), (0, .ref 57)]) (st' := [.int 0]) (S' := stt (nw v) τ) (kc' := 0) (ks' := 0) rfl ⟨trivial, trivial⟩ ?_
        refine R_seg sg_116_72 sk_116_72 (pc' := 76) (lv' := [(2, .int ((nI i) + 1)), (1, .int 0), (0, .ref 57)]) (st' := []) (S' := stt (nw v) τ) (kc' := 0) (ks' := 0) rfl ⟨(by decide), (by decide), trivial⟩ ?_
        refine R_goto ck_116_76 ?_
        refine Runs.lv (lv := [(2, .int ((nI i) + 1)), (1, .int 0), (0, .ref 57)]) ?_ _ (lvS_l (show ([2, 1, 0] : List Nat).Nodup from by decide) (by intro q hq; simp only [List.mem_cons, List.not_mem_nil, or_false] at hq; rcases hq with rfl | rfl | rfl <;> rfl))
        rw [nI_1 i]
        exact ih (i + 1) 0 (by omega) (by omega) ⟨fun z => absurd z (by decide), fun z => by first | exact absurd c_64 (z.2 i (by omega)) | exact absurd (hf.mpr ⟨z.1, fun j hj => z.2 j (by omega)⟩) (by omega)⟩ (by omega)
      · have c_49 : ¬ f = 0 := fun zq => c_49 ((nI_eq (a := f) (b := 0) (by omega) (by omega)).mpr zq)
        have hf1 : f = 1 := by omega
        refine R_seg sg_116_52 sk_116_52 (pc' := 61) (lv' := [(2, .int (nI i)), (1, .int (nI f)), (0, .ref 57)]) (st' := [.int (nI i), .ref 97, .ref 94]) (S' := stt (nw v) τ) (kc' := 0) (ks' := 0) rfl ⟨trivial, rfl, trivial, rfl, trivial, trivial⟩ ?_
        refine R_iald ca_116_61 (j := i) rfl rfl (by omega) ?_
        show RU_116 d (0, 0) Post 62 ([(2, .int (nI i)), (1, .int (nI f)), (0, .ref 57)]) ([.int (nI (v 97 i)), .ref 94]) (stt (nw v) τ) 0 0
        rw [e97]
        refine R_iald ca_116_62 (j := a 53 i) rfl rfl (by omega) ?_
        refine R_seg sg_116_63 sk_116_63 (pc' := 64) (lv' := [(2, .int (nI i)), (1, .int (nI f)), (0, .ref 57)]) (st' := [.int 1, .int (nI (v 94 (a 53 i)))]) (S' := stt (nw v) τ) (kc' := 0) (ks' := 0) rfl ⟨trivial, trivial⟩ ?_
        refine R_icmp ck_116_64 (fun (c_64 : (nI (v 94 (a 53 i))) = 1) => ?_) (fun (c_64 : ¬ (nI (v 94 (a 53 i))) = 1) => ?_)
        · have c_64 : (v 94 (a 53 i)) = 1 := (nI_eq (a := (v 94 (a 53 i))) (b := 1) (by omega) (by omega)).mp c_64
          have c_64 : a 51 (a 53 i) = 11 := sOf_1.mp (by rw [← e94]; exact c_64)
          refine R_seg sg_116_71 sk_116_71 (pc' := 72) (lv' := [(2, .int (nI i)), (1, .int (nI f)), (0, .ref 57)]) (st' := [.int 0]) (S' := stt (nw v) τ) (kc' := 0) (ks' := 0) rfl ⟨trivial, trivial⟩ ?_
          refine R_seg sg_116_72 sk_116_72 (pc' := 76) (lv' := [(2, .int ((nI i) + 1)), (1, .int 0), (0, .ref 57)]) (st' := []) (S' := stt (nw v) τ) (kc' := 0) (ks' := 0) rfl ⟨(by decide), (by decide), trivial⟩ ?_
          refine R_goto ck_116_76 ?_
          refine Runs.lv (lv := [(2, .int ((nI i) + 1)), (1, .int 0), (0, .ref 57)]) ?_ _ (lvS_l (show ([2, 1, 0] : List Nat).Nodup from by decide) (by intro q hq; simp only [List.mem_cons, List.not_mem_nil, or_false] at hq; rcases hq with rfl | rfl | rfl <;> rfl))
          rw [nI_1 i]
          exact ih (i + 1) 0 (by omega) (by omega) ⟨fun z => absurd z (by decide), fun z => by first | exact absurd c_64 (z.2 i (by omega)) | exact absurd (hf.mpr ⟨z.1, fun j hj => z.2 j (by omega)⟩) (by omega)⟩ (by omega)
        · have c_64 : ¬ (v 94 (a 53 i)) = 1 := fun zq => c_64 ((nI_eq (a := (v 94 (a 53 i))) (b := 1) (by omega) (by omega)).mpr zq)
          have c_64 : ¬ a 51 (a 53 i) = 11 := fun z => c_64 (by rw [e94]; exact sOf_1.mpr z)
          refine R_seg sg_116_67 sk_116_67 (pc' := 68) (lv' := [(2, .int (nI i)), (1, .int (nI f)), (0, .ref 57)]) (st' := [.int 1]) (S' := stt (nw v) τ) (kc' := 0) (ks' := 0) rfl ⟨trivial, trivial⟩ ?_
          refine R_goto ck_116_68 ?_
          refine R_seg sg_116_72 sk_116_72 (pc' := 76) (lv' := [(2, .int ((nI i) + 1)), (1, .int 1), (0, .ref 57)]) (st' := []) (S' := stt (nw v) τ) (kc' := 0) (ks' := 0) rfl ⟨(by decide), (by decide), trivial⟩ ?_
          refine R_goto ck_116_76 ?_
          refine Runs.lv (lv := [(2, .int ((nI i) + 1)), (1, .int 1), (0, .ref 57)]) ?_ _ (lvS_l (show ([2, 1, 0] : List Nat).Nodup from by decide) (by intro q hq; simp only [List.mem_cons, List.not_mem_nil, or_false] at hq; rcases hq with rfl | rfl | rfl <;> rfl))
          rw [nI_1 i]
          exact ih (i + 1) 1 (by omega) (by omega) ⟨fun _ => ⟨(hf.mp hf1).1, fun j hj => by rcases Nat.lt_or_ge j i with z | z; exact (hf.mp hf1).2 j z; rw [show j = i by omega]; exact c_64⟩, fun _ => rfl⟩ (by omega)
set_option maxRecDepth 20000 in
theorem ml_116a {d : Nat} {a v : WW} {τ : Nat → Nat → Int64} {Post : Option Value → Sto → Prop} (hQ : QO a) (h192 : a 42 5 ≤ 192) (h47 : ∀ c, c < a 42 5 → a 47 c ≤ 3) (hR : Rl a v) (h1 : ovr a → Post (some (.int 1)) (stt (nw v) τ)) (h0 : ¬ ovr a → Post (some (.int 0)) (stt (nw v) τ)) : ∀ (nn : Nat) (i f : Nat), i ≤ a 42 5 → f ≤ 1 → (f = 1 ↔ ∀ c, c < i → a 47 c ≠ 3) → a 42 5 - i < nn → RU_116 d (0, 0) Post 4 [(2, .int (nI i)), (1, .int (nI f)), (0, .ref 57)] [] (stt (nw v) τ) 0 0 := by
  intro nn
  induction nn with
  | zero => intro i f hi hf2 hf hms; exact absurd hms (by omega)
  | succ nn ih =>
    intro i f hi hf2 hf hms
    have e51 := hR.2.2.2.2.1.2.1
    have e102 : v 102 i = a 47 i := by rw [hR.2.2.2.2.1.1.2.2.2.2]
    refine R_seg sg_116_4 sk_116_4 (pc' := 9) (lv' := [(2, .int (nI i)), (1, .int (nI f)), (0, .ref 57)]) (st' := [.int (nI (v 57 51)), .int (nI i)]) (S' := stt (nw v) τ) (kc' := 0) (ks' := 0) rfl ⟨trivial, trivial, rfl, trivial⟩ ?_
    rw [e51]
    refine R_icmp ck_116_9 (fun (c_9 : (nI (a 42 5)) ≤ (nI i)) => ?_) (fun (c_9 : ¬ (nI (a 42 5)) ≤ (nI i)) => ?_)
    · have c_9 : (a 42 5) ≤ i := (nI_leI (a := (a 42 5)) (b := i) (by omega) (by omega)).mp c_9
      refine R_seg sg_116_38 sk_116_38 (pc' := 40) (lv' := [(2, .int 0), (1, .int (nI f)), (0, .ref 57)]) (st' := []) (S' := stt (nw v) τ) (kc' := 0) (ks' := 0) rfl ⟨trivial, (by decide), trivial⟩ ?_
      refine Runs.lv (lv := [(2, .int 0), (1, .int (nI f)), (0, .ref 57)]) ?_ _ (lvS_l (show ([2, 1, 0] : List Nat).Nodup from by decide) (by intro q hq; simp only [List.mem_cons, List.not_mem_nil, or_false] at hq; rcases hq with rfl | rfl | rfl <;> rfl))
      rw [← nI_0]
      have ei : i = a 42 5 := by omega
      subst ei
      exact ml_116b hQ hR h1 h0 (a 50 1 + 1) 0 f (Nat.zero_le _) hf2 ⟨fun z => ⟨hf.mp z, fun j hj => absurd hj (Nat.not_lt_zero j)⟩, fun z => hf.mpr z.1⟩ (by omega)
    · have c_9 : i < (a 42 5) := Nat.not_le.mp (fun zq => c_9 ((nI_leI (a := (a 42 5)) (b := i) (by omega) (by omega)).mpr zq))
      have b47 := h47 i c_9
      refine R_seg sg_116_12 sk_116_12 (pc' := 13) (lv' := [(2, .int (nI i)), (1, .int (nI f)), (0, .ref 57)]) (st' := [.int (nI f)]) (S' := stt (nw v) τ) (kc' := 0) (ks' := 0) rfl ⟨trivial, trivial⟩ ?_
      refine R_if ck_116_13 (fun (c_13 : (nI f) = 0) => ?_) (fun (c_13 : ¬ (nI f) = 0) => ?_)
      · have c_13 : f = 0 := (nI_eq (a := f) (b := 0) (by omega) (by omega)).mp c_13
        refine R_seg sg_116_30 sk_116_30 (pc' := 31) (lv' := [(2, .int (nI i)), (1, .int (nI f)), (0, .ref 57)]) (st' := [.int 0]) (S' := stt (nw v) τ) (kc' := 0) (ks' := 0) rfl ⟨trivial, trivial⟩ ?_
        refine R_seg sg_116_31 sk_116_31 (pc' := 35) (lv' := [(2, .int ((nI i) + 1)), (1, .int 0), (0, .ref 57)]) (st' := []) (S' := stt (nw v) τ) (kc' := 0) (ks' := 0) rfl ⟨(by decide), (by decide), trivial⟩ ?_
        refine R_goto ck_116_35 ?_
        refine Runs.lv (lv := [(2, .int ((nI i) + 1)), (1, .int 0), (0, .ref 57)]) ?_ _ (lvS_l (show ([2, 1, 0] : List Nat).Nodup from by decide) (by intro q hq; simp only [List.mem_cons, List.not_mem_nil, or_false] at hq; rcases hq with rfl | rfl | rfl <;> rfl))
        rw [nI_1 i]
        exact ih (i + 1) 0 (by omega) (by omega) ⟨fun z => absurd z (by decide), fun z => by first | exact absurd c_23 (z i (by omega)) | exact absurd (hf.mpr (fun j hj => z j (by omega))) (by omega)⟩ (by omega)
      · have c_13 : ¬ f = 0 := fun zq => c_13 ((nI_eq (a := f) (b := 0) (by omega) (by omega)).mpr zq)
        have hf1 : f = 1 := by omega
        refine R_seg sg_116_16 sk_116_16 (pc' := 21) (lv' := [(2, .int (nI i)), (1, .int (nI f)), (0, .ref 57)]) (st' := [.int (nI i), .ref 102]) (S' := stt (nw v) τ) (kc' := 0) (ks' := 0) rfl ⟨trivial, rfl, trivial, trivial⟩ ?_
        refine R_iald ca_116_21 (j := i) rfl rfl (by omega) ?_
        show RU_116 d (0, 0) Post 22 ([(2, .int (nI i)), (1, .int (nI f)), (0, .ref 57)]) ([.int (nI (v 102 i))]) (stt (nw v) τ) 0 0
        rw [e102]
        refine R_seg sg_116_22 sk_116_22 (pc' := 23) (lv' := [(2, .int (nI i)), (1, .int (nI f)), (0, .ref 57)]) (st' := [.int 3, .int (nI (a 47 i))]) (S' := stt (nw v) τ) (kc' := 0) (ks' := 0) rfl ⟨trivial, trivial⟩ ?_
        refine R_icmp ck_116_23 (fun (c_23 : (nI (a 47 i)) = 3) => ?_) (fun (c_23 : ¬ (nI (a 47 i)) = 3) => ?_)
        · have c_23 : (a 47 i) = 3 := (nI_eq (a := (a 47 i)) (b := 3) (by omega) (by omega)).mp c_23
          refine R_seg sg_116_30 sk_116_30 (pc' := 31) (lv' := [(2, .int (nI i)), (1, .int (nI f)), (0, .ref 57)]) (st' := [.int 0]) (S' := stt (nw v) τ) (kc' := 0) (ks' := 0) rfl ⟨trivial, trivial⟩ ?_
          refine R_seg sg_116_31 sk_116_31 (pc' := 35) (lv' := [(2, .int ((nI i) + 1)), (1, .int 0), (0, .ref 57)]) (st' := []) (S' := stt (nw v) τ) (kc' := 0) (ks' := 0) rfl ⟨(by decide), (by decide), trivial⟩ ?_
          refine R_goto ck_116_35 ?_
          refine Runs.lv (lv := [(2, .int ((nI i) + 1)), (1, .int 0), (0, .ref 57)]) ?_ _ (lvS_l (show ([2, 1, 0] : List Nat).Nodup from by decide) (by intro q hq; simp only [List.mem_cons, List.not_mem_nil, or_false] at hq; rcases hq with rfl | rfl | rfl <;> rfl))
          rw [nI_1 i]
          exact ih (i + 1) 0 (by omega) (by omega) ⟨fun z => absurd z (by decide), fun z => by first | exact absurd c_23 (z i (by omega)) | exact absurd (hf.mpr (fun j hj => z j (by omega))) (by omega)⟩ (by omega)
        · have c_23 : ¬ (a 47 i) = 3 := fun zq => c_23 ((nI_eq (a := (a 47 i)) (b := 3) (by omega) (by omega)).mpr zq)
          refine R_seg sg_116_26 sk_116_26 (pc' := 27) (lv' := [(2, .int (nI i)), (1, .int (nI f)), (0, .ref 57)]) (st' := [.int 1]) (S' := stt (nw v) τ) (kc' := 0) (ks' := 0) rfl ⟨trivial, trivial⟩ ?_
          refine R_goto ck_116_27 ?_
          refine R_seg sg_116_31 sk_116_31 (pc' := 35) (lv' := [(2, .int ((nI i) + 1)), (1, .int 1), (0, .ref 57)]) (st' := []) (S' := stt (nw v) τ) (kc' := 0) (ks' := 0) rfl ⟨(by decide), (by decide), trivial⟩ ?_
          refine R_goto ck_116_35 ?_
          refine Runs.lv (lv := [(2, .int ((nI i) + 1)), (1, .int 1), (0, .ref 57)]) ?_ _ (lvS_l (show ([2, 1, 0] : List Nat).Nodup from by decide) (by intro q hq; simp only [List.mem_cons, List.not_mem_nil, or_false] at hq; rcases hq with rfl | rfl | rfl <;> rfl))
          rw [nI_1 i]
          exact ih (i + 1) 1 (by omega) (by omega) ⟨fun _ => fun j hj => by rcases Nat.lt_or_ge j i with z | z; exact hf.mp hf1 j z; rw [show j = i by omega]; exact c_23, fun _ => rfl⟩ (by omega)
set_option maxRecDepth 20000 in
theorem m_116 {d : Nat} {a v : WW} {τ : Nat → Nat → Int64} {Post : Option Value → Sto → Prop} (hQ : QO a) (h192 : a 42 5 ≤ 192) (h47 : ∀ c, c < a 42 5 → a 47 c ≤ 3) (hR : Rl a v) (h1 : ovr a → Post (some (.int 1)) (stt (nw v) τ)) (h0 : ¬ ovr a → Post (some (.int 0)) (stt (nw v) τ)) : Ex (d + 1) 116 [.ref 57] (stt (nw v) τ) 0 0 Post := by
  refine en_116 (Nat.le_of_ble_eq_true rfl) ?_
  show RU_116 d (0, 0) Post 0 ([(0, .ref 57)]) ([]) (stt (nw v) τ) 0 0
  refine R_seg sg_116_0 sk_116_0 (pc' := 4) (lv' := [(2, .int 0), (1, .int 1), (0, .ref 57)]) (st' := []) (S' := stt (nw v) τ) (kc' := 0) (ks' := 0) rfl ⟨trivial, (by decide), trivial, (by decide), trivial⟩ ?_
  exact ml_116a hQ h192 h47 hR h1 h0 (a 42 5 + 1) 0 1 (Nat.zero_le _) (by decide) ⟨fun _ c hc => absurd hc (Nat.not_lt_zero c), fun _ => rfl⟩ (by omega)
/-! ===== a tick ===== -/
def mGo (t : Nat) (v : WW) : WW := up2 (up2 (up2 (up2 (up2 v 57 1 (v 57 1 + t)) 85 0 (gbw (v 83 0) (v 85 0 + t * v 84 0))) 85 1 (gbw (v 83 1) (v 85 1 + t * v 84 1))) 85 2 (gbw (v 83 2) (v 85 2 + t * v 84 2))) 85 3 (gbw (v 83 3) (v 85 3 + t * v 84 3))
def AV (v : WW) : Prop := ∀ a, a < 4 → v 83 a ≤ 500 ∧ v 84 a ≤ 50 ∧ v 85 a ≤ 500
theorem mg_n {v : WW} (hA : AV v) {t a : Nat} (ht : t ≤ 1000) (ha : a < 4) : mg (nw v 85 a) (nw v 83 a) (nw v 84 a) (nI t) = nI (gbw (v 83 a) (v 85 a + t * v 84 a)) := by
  have h := hA a ha
  have hm : t * v 84 a ≤ 1000 * 50 := Nat.mul_le_mul ht h.2.1
  unfold mg gbw
  rw [show nw v 85 a = nI (v 85 a) from rfl, show nw v 83 a = nI (v 83 a) from rfl, show nw v 84 a = nI (v 84 a) from rfl, nI_l (by omega), nI_l (by omega), nI_l (by omega), nI_l (by omega), lN_mul, lN_add, lN_i]
  by_cases z : v 85 a + t * v 84 a ≤ v 83 a
  · rw [if_pos ((lg_cmp_le _ _).mpr ((lN_le (by omega) (by omega)).mpr z))]
    split
    · rfl
    · congr 1; omega
  · rw [if_neg (fun q => z ((lN_le (by omega) (by omega)).mp ((lg_cmp_le _ _).mp q))), if_neg (by omega)]
theorem nw_mgo {v : WW} (hA : AV v) {t : Nat} (ht : t ≤ 1000) : m_goesOn (nw v) (nI t) = nw (mGo t v) := by
  unfold m_goesOn mGo
  rw [mg_n hA ht (show 0 < 4 by decide), mg_n hA ht (show 1 < 4 by decide), mg_n hA ht (show 2 < 4 by decide), mg_n hA ht (show 3 < 4 by decide)]
  rw [show nw v 57 1 = nI (v 57 1) from rfl, nw_up (n := v 57 1 + t) (nI_add _ _), nw_up (n := gbw (v 83 0) (v 85 0 + t * v 84 0)) rfl, nw_up (n := gbw (v 83 1) (v 85 1 + t * v 84 1)) rfl, nw_up (n := gbw (v 83 2) (v 85 2 + t * v 84 2)) rfl, nw_up (n := gbw (v 83 3) (v 85 3 + t * v 84 3)) rfl]
theorem mGo_fv (t : Nat) (v : WW) : FV v (mGo t v) := (((((FV.rf v).up rfl).up rfl).up rfl).up rfl).up rfl
theorem RK.tick {k u : Nat → Nat} {n t : Nat} (h : RK k u n) : RK k u (n + t) := by
  intro x hx
  rcases h x hx with e | ⟨e1, e2⟩
  · exact Or.inl e
  · exact Or.inr ⟨by omega, by rcases e2 with z | z; exact Or.inl z; exact Or.inr (by omega)⟩
theorem RT.tick {a v : WW} (h : RT a v) (e3 : v 83 = a 3) (e4 : v 84 = a 4) (t : Nat) : RT (aGo t a) (mGo t v) := by
  obtain ⟨h1, h2⟩ := h
  refine ⟨show v 57 1 + t = a 1 4 + t by rw [h1], ?_⟩
  unfold mGo aGo
  rw [h2, e3, e4]
  show va_up (va_up (va_up (va_up (v 85) 0 _) 1 _) 2 _) 3 _ = va_up (va_up (va_up (va_up (a 5) 0 _) 1 _) 2 _) 3 _
  rw [h2]
theorem Rl.tick {a v : WW} (hR : Rl a v) (t : Nat) : Rl (aGo t a) (mGo t v) := by
  have e3 := hR.1.q (83, 3) (by decide)
  have e4 := hR.1.q (84, 4) (by decide)
  obtain ⟨h1, h2, h3, h4, h5, h6, h7, h8⟩ := hR
  refine ⟨h1.fr ⟨fun k k1 k2 k3 _ _ => aGo_k t a ⟨k2, k3⟩, fun g hg i _ => by rw [aGo_k t a (by omega)], rfl⟩ (mGo_fv t v), h2.tick e3 e4 t, h3.fr (fun k hk => aGo_k t a (by omega)) (fun k hk => ?_), h4.tick, h5, h6, h7, h8⟩
  unfold mGo
  rw [up2_k _ _ _ _ (by omega), up2_k _ _ _ _ (by omega), up2_k _ _ _ _ (by omega), up2_k _ _ _ _ (by omega), up2_k _ _ _ _ (by omega)]
theorem AV.of {a v : WW} (hA : AO a) (hR : Rl a v) : AV v := by
  have e3 := hR.1.q (83, 3) (by decide)
  have e4 := hR.1.q (84, 4) (by decide)
  intro i hi
  rw [show v 83 = a 3 from e3, show v 84 = a 4 from e4, hR.2.1.2]
  exact (hA i hi).2
theorem Rl.calls {a v : WW} (hR : Rl (aTurns 5 a) v) : Rl (aCalls a) v := by
  have e := skp_k (aTurns 5 a) ((aTurns 5 a) 50 1 - (aTurns 5 a) 50 9) (aTurns 5 a) (fun _ _ => rfl) (fun _ _ => rfl)
  exact hR.cong (b := aCalls a) (fun k k1 _ => e.1 k k1) (e.2 1 (by decide)) (e.2 11 (by decide))
theorem ovr_done {w : WW} (M : MI w) : ovr (aCalls w) ↔ done (aCalls w) := by
  have M2 := aCalls_mi M
  obtain ⟨h1, h2, h3, h4, h5, h6, h7, h8, h9⟩ := M2
  have hend : ¬ (aCalls w 50 9 < aCalls w 50 1 ∧ ¬ aCalls w 51 (aCalls w 53 (aCalls w 50 9)) = 11) := by
    have T := aTurns_mi M 5 (Nat.le_refl _)
    exact skp_end _ (aTurns 5 w) rfl T.2.2.2.1.2.2.2.2.2.2.1.1
  constructor
  · rintro ⟨q1, q2⟩
    constructor
    · rcases Nat.lt_or_ge (aCalls w 42 6) (aCalls w 42 5) with z | z
      · exact absurd (h6.2.2.2 z) (q1 _ z)
      · exact z
    · rcases Nat.lt_or_ge (aCalls w 50 9) (aCalls w 50 1) with z | z
      · exact absurd ⟨z, q2 _ z⟩ hend
      · exact z
  · rintro ⟨q1, q2⟩
    refine ⟨fun c hc => h6.2.2.1 c (by omega), fun i hi => h4.2.2.2.2.2.2.1.2 i (by omega)⟩
theorem ovr_forget {w : WW} {ky : Nat} (M : MI w) (h : CI w ky) (hA : AO w) : ovr (aForget w) := by
  have r := forget_res M h hA
  have f := (aForget_ok M).2.2
  have h1 := M.2.2.2.2.2.1.1
  have q := aFG1_ok (w 42 5 - w 42 6) (w 42 6) w (FGI.beg M) (TF.beg M) (by omega)
  constructor
  · intro c hc
    rw [f 42 (by decide) (by decide) (by decide)] at hc
    rw [show aForget w 47 = aFG1 (w 42 5 - w 42 6) (w 42 6) w 47 from aFG2_k _ _ _ (by decide)]
    have key : ∀ (m k : Nat) (u : WW), FGI u k (w 42 5) → TF u → k + m = w 42 5 → (∀ c, c < k → u 47 c ≠ 3) → ∀ c, c < w 42 5 → aFG1 m k u 47 c ≠ 3 := by
      intro m
      induction m with
      | zero => intro k u _ _ e hu c hc; exact hu c (by omega)
      | succ m ih =>
        intro k u H T e hu c hc
        have hh := (H.2.2.2.2.1 k (by omega)).1
        have mk : ∀ c, c < k + 1 → (up2 u 47 k 2) 47 c ≠ 3 := by
          intro c hc
          show va_up (u 47) k 2 c ≠ 3
          unfold va_up
          split
          · decide
          · exact hu c (by omega)
        rw [aFG1_s]
        split
        · split
          · rename_i ht
            refine ih (k + 1) _ (H.opn (by omega) ht (T.get H (by omega) ht)) ((T.mark k).opn _) (by omega) (fun c hc => ?_) c hc
            rw [aOpen_k _ _ (by omega)]
            exact mk c hc
          · rename_i ht
            exact ih (k + 1) _ (H.mark ht) (T.mark k) (by omega) mk c hc
        · rename_i h3
          refine ih (k + 1) u (H.no h3) T (by omega) (fun c hc => ?_) c hc
          rcases Nat.lt_or_ge c k with z | z
          · exact hu c z
          · rw [show c = k by omega]; exact h3
    exact key _ _ w (FGI.beg M) (TF.beg M) (by omega) (fun c hc => M.2.2.2.2.2.1.2.2.1 c hc) c hc
  · intro i hi
    rw [f 50 (by decide) (by decide) (by decide)] at hi
    rw [f 53 (by decide) (by decide) (by decide)]
    have := r.2.2.2.2.1.1 (w 53 i) (M.2.2.2.1.2.2.1 i hi).1
    omega
