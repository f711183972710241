/-! ===== bringBack ===== -/
theorem aTB_k {w : WW} (M : MI w) {k : Nat} (hk : k < w 42 5) (h3 : w 47 k = 3) {j : Nat} (j1 : j < 50) (j2 : j ≠ 25) (j3 : j ≠ 42) (j4 : j ≠ 47) (j5 : j < 11 ∨ 16 ≤ j) : aTB k w j = w j := by
  have hh := (M.2.2.2.2.2.1.2.1 k hk).1
  have q := (tb_itr M hk h3 _ (Nat.le_refl _)).2
  show itr (tbS k w) (w 46 k) _ j = w j
  rw [q.1 j j1 j2]
  unfold aTB0
  rw [aCame_k _ _ _ _ (by omega), aFin_k _ _ _ ⟨j3, j4⟩]
theorem aTB_42 {w : WW} (M : MI w) {k : Nat} (hk : k < w 42 5) (h3 : w 47 k = 3) : aTB k w 42 5 = w 42 5 := by
  have hh := (M.2.2.2.2.2.1.2.1 k hk).1
  have q := (tb_itr M hk h3 _ (Nat.le_refl _)).2
  show itr (tbS k w) (w 46 k) _ 42 5 = w 42 5
  rw [q.1 42 (by decide) (by decide)]
  unfold aTB0
  rw [aCame_k _ _ _ _ (by omega)]
  rfl
noncomputable def aBB : Nat → Nat → WW → WW
  | 0, _, w => w
  | m + 1, k, w => if w 47 k = 3 ∧ w 45 k + w (11 + w 43 k) 0 = w 1 4 then aBB m (k + 1) (aTB k w) else aBB m (k + 1) w
theorem aBB_s (m k : Nat) (w : WW) : aBB (m + 1) k w = if w 47 k = 3 ∧ w 45 k + w (11 + w 43 k) 0 = w 1 4 then aBB m (k + 1) (aTB k w) else aBB m (k + 1) w := rfl
noncomputable def aBack (w : WW) : WW := aBB (w 42 5 - w 42 6) (w 42 6) w
def ZO (w : WW) : Prop := (∀ x, x < 192 → w 24 x ≤ 1) ∧ ∀ p, p < 24 → w 23 p ≤ 1
theorem aBB_mi : ∀ (m k : Nat) (w : WW), MI w → k + m ≤ w 42 5 → MI (aBB m k w) ∧ (∀ j, j < 42 → j ≠ 25 → (j < 11 ∨ 16 ≤ j) → aBB m k w j = w j)
  | 0, _, w, M, _ => ⟨M, fun _ _ _ _ => rfl⟩
  | m + 1, k, w, M, hk => by
    rw [aBB_s]
    split
    · rename_i h
      have q := aBB_mi m (k + 1) _ (aTB_mi M (by omega) h.1) (by rw [aTB_42 M (by omega) h.1]; omega)
      exact ⟨q.1, fun j j1 j2 j3 => (q.2 j j1 j2 j3).trans (aTB_k M (by omega) h.1 (by omega) j2 (by omega) (by omega) j3)⟩
    · exact aBB_mi m (k + 1) w M (by omega)
theorem aBack_mi {w : WW} (M : MI w) : MI (aBack w) := by
  have := M.2.2.2.2.2.1.1
  exact (aBB_mi _ _ w M (by omega)).1
theorem aBack_k {w : WW} (M : MI w) {j : Nat} (j1 : j < 42) (j2 : j ≠ 25) (j3 : j < 11 ∨ 16 ≤ j) : aBack w j = w j := by
  have := M.2.2.2.2.2.1.1
  exact (aBB_mi _ _ w M (by omega)).2 j j1 j2 j3
set_option maxRecDepth 20000 in
theorem l_33 {d n : Nat} {τ : Nat → Nat → Int64} {Post : Option Value → Sto → Prop} : ∀ (nn : Nat) (k : Nat) (w : WW), MI w → (∀ x, x < 192 → w 24 x ≤ 1) → w 42 5 = n → k ≤ n → Post none (stt (nw (aBB (n - k) k w)) τ) → n - k < nn → RU_33 (d + 13) (0, 0) Post 16 [(2, .int (nI k)), (1, .int (nI n)), (0, .ref 50)] [] (stt (nw w) τ) 0 0 := by
  intro nn
  induction nn with
  | zero => intro k w M h24 hn hkn hp hms; exact absurd hms (by omega)
  | succ nn ih =>
    intro k w M h24 hn hkn hp hms
    have hl := M.2.2.2.1.2.2.2.2.2.2.2.2.1
    have hkk := M.2.2.2.1.2.2.2.2.2.2.2.1
    have hk3 : w 42 9 ≤ 192 := by unfold NIk at hkk; omega
    refine R_seg sg_33_16 sk_33_16 (pc' := 18) (lv' := [(2, .int (nI k)), (1, .int (nI n)), (0, .ref 50)]) (st' := [.int (nI n), .int (nI k)]) (S' := stt (nw w) τ) (kc' := 0) (ks' := 0) rfl ⟨trivial, trivial, trivial⟩ ?_
    refine R_icmp ck_33_18 (fun (c_18 : (nI n) ≤ (nI k)) => ?_) (fun (c_18 : ¬ (nI n) ≤ (nI k)) => ?_)
    · have c_18 : n ≤ k := (nI_leI (a := n) (b := k) (by omega) (by omega)).mp c_18
      refine R_ret ck_33_87 rfl ?_
      rw [show n - k = 0 by omega] at hp
      exact hp
    · have c_18 : k < n := Nat.not_le.mp (fun zq => c_18 ((nI_leI (a := n) (b := k) (by omega) (by omega)).mpr zq))
      obtain ⟨m, em⟩ : ∃ m, n - k = m + 1 := ⟨n - k - 1, by omega⟩
      rw [em] at hp
      have em2 : m = n - (k + 1) := by omega
      subst em2
      have hc := M.2.2.2.2.2.1.2.1 k (by omega)
      have hh := hc.1
      have hH := (M.2.2.2.2.1 (w 43 k) hh).1
      have hK := M.2.2.1.1
      refine R_seg sg_33_21 sk_33_21 (pc' := 29) (lv' := [(2, .int (nI k)), (1, .int (nI n)), (0, .ref 50)]) (st' := [.int (nI k), .ref 45]) (S' := stt (nw w) τ) (kc' := 0) (ks' := 0) rfl ⟨trivial, rfl, rfl, trivial, trivial⟩ ?_
      refine R_iald ca_33_29 (j := k) rfl rfl (by omega) ?_
      refine R_seg sg_33_30 sk_33_30 (pc' := 45) (lv' := [(2, .int (nI k)), (1, .int (nI n)), (0, .ref 50)]) (st' := [.int (nI k), .ref 43, .ref 7, .int (nI (w 45 k))]) (S' := stt (nw w) τ) (kc' := 0) (ks' := 0) rfl ⟨trivial, rfl, rfl, trivial, rfl, rfl, trivial, trivial⟩ ?_
      refine R_iald ca_33_45 (j := k) rfl rfl (by omega) ?_
      refine R_aald ca_33_46 (j := w 43 k) (k' := 11 + (w 43 k)) rfl rfl (by omega) (rh_each (by omega)) ?_
      refine R_seg sg_33_47 sk_33_47 (pc' := 60) (lv' := [(3, .int ((nI (w 45 k)) + (nI (w (11 + (w 43 k)) 0)))), (2, .int (nI k)), (1, .int (nI n)), (0, .ref 50)]) (st' := [.int (nI k), .ref 47]) (S' := stt (nw w) τ) (kc' := 0) (ks' := 0) rfl ⟨(kd_help hh), trivial, (by decide), trivial, rfl, rfl, trivial, trivial⟩ ?_
      rw [nI_add (w 45 k)]
      refine R_iald ca_33_60 (j := k) rfl rfl (by omega) ?_
      refine R_seg sg_33_61 sk_33_61 (pc' := 62) (lv' := [(3, .int (nI (w 45 k + w (11 + (w 43 k)) 0))), (2, .int (nI k)), (1, .int (nI n)), (0, .ref 50)]) (st' := [.int 3, .int (nI (w 47 k))]) (S' := stt (nw w) τ) (kc' := 0) (ks' := 0) rfl ⟨trivial, trivial⟩ ?_
      refine R_icmp ck_33_62 (fun (c_62 : ¬ (nI (w 47 k)) = 3) => ?_) (fun (c_62 : ¬ ¬ (nI (w 47 k)) = 3) => ?_)
      · have c_62 : ¬ (w 47 k) = 3 := fun zq => c_62 ((nI_eq (a := (w 47 k)) (b := 3) (by omega) (by omega)).mpr zq)
        refine R_seg sg_33_81 sk_33_81 (pc' := 84) (lv' := [(2, .int ((nI k) + 1)), (3, .int (nI (w 45 k + w (11 + (w 43 k)) 0))), (1, .int (nI n)), (0, .ref 50)]) (st' := []) (S' := stt (nw w) τ) (kc' := 0) (ks' := 0) rfl ⟨(by decide), trivial⟩ ?_
        refine R_goto ck_33_84 ?_
        refine Runs.lv (lv := [(2, .int ((nI k) + 1)), (1, .int (nI n)), (0, .ref 50)]) ?_ _ (lvS_l (show ([2, 1, 0] : List Nat).Nodup from by decide) (by intro q hq; simp only [List.mem_cons, List.not_mem_nil, or_false] at hq; rcases hq with rfl | rfl | rfl <;> rfl))
        rw [nI_1 k]
        exact ih (k + 1) w M h24 hn (by omega) (by first | (rw [aBB_s, if_neg (fun z => c_62 z.1)] at hp; exact hp) | (rw [aBB_s, if_neg (fun z => c_73 z.2)] at hp; exact hp)) (by omega)
      · have c_62 : (w 47 k) = 3 := (nI_eq (a := (w 47 k)) (b := 3) (by omega) (by omega)).mp (Classical.not_not.mp c_62)
        refine R_seg sg_33_65 sk_33_65 (pc' := 73) (lv' := [(3, .int (nI (w 45 k + w (11 + (w 43 k)) 0))), (2, .int (nI k)), (1, .int (nI n)), (0, .ref 50)]) (st' := [.int (nI (w 1 4)), .int (nI (w 45 k + w (11 + (w 43 k)) 0))]) (S' := stt (nw w) τ) (kc' := 0) (ks' := 0) rfl ⟨trivial, trivial, rfl, rfl, trivial⟩ ?_
        refine R_icmp ck_33_73 (fun (c_73 : ¬ (nI (w 45 k + w (11 + (w 43 k)) 0)) = (nI (w 1 4))) => ?_) (fun (c_73 : ¬ ¬ (nI (w 45 k + w (11 + (w 43 k)) 0)) = (nI (w 1 4))) => ?_)
        · have c_73 : ¬ (w 45 k + w (11 + (w 43 k)) 0) = (w 1 4) := fun zq => c_73 ((nI_eq (a := (w 45 k + w (11 + (w 43 k)) 0)) (b := (w 1 4)) (by omega) (by omega)).mpr zq)
          refine R_seg sg_33_81 sk_33_81 (pc' := 84) (lv' := [(2, .int ((nI k) + 1)), (3, .int (nI (w 45 k + w (11 + (w 43 k)) 0))), (1, .int (nI n)), (0, .ref 50)]) (st' := []) (S' := stt (nw w) τ) (kc' := 0) (ks' := 0) rfl ⟨(by decide), trivial⟩ ?_
          refine R_goto ck_33_84 ?_
          refine Runs.lv (lv := [(2, .int ((nI k) + 1)), (1, .int (nI n)), (0, .ref 50)]) ?_ _ (lvS_l (show ([2, 1, 0] : List Nat).Nodup from by decide) (by intro q hq; simp only [List.mem_cons, List.not_mem_nil, or_false] at hq; rcases hq with rfl | rfl | rfl <;> rfl))
          rw [nI_1 k]
          exact ih (k + 1) w M h24 hn (by omega) (by first | (rw [aBB_s, if_neg (fun z => c_62 z.1)] at hp; exact hp) | (rw [aBB_s, if_neg (fun z => c_73 z.2)] at hp; exact hp)) (by omega)
        · have c_73 : (w 45 k + w (11 + (w 43 k)) 0) = (w 1 4) := (nI_eq (a := (w 45 k + w (11 + (w 43 k)) 0)) (b := (w 1 4)) (by omega) (by omega)).mp (Classical.not_not.mp c_73)
          refine R_seg sg_33_76 sk_33_76 (pc' := 78) (lv' := [(3, .int (nI (w 45 k + w (11 + (w 43 k)) 0))), (2, .int (nI k)), (1, .int (nI n)), (0, .ref 50)]) (st' := [.int (nI k), .ref 50]) (S' := stt (nw w) τ) (kc' := 0) (ks' := 0) rfl ⟨trivial, trivial, trivial⟩ ?_
          refine R_virt ck_33_78 50 [.int (nI k)] 0 0 (r := []) rfl rfl rfl (Nat.le_of_ble_eq_true rfl) (Nat.le_refl _) (Nat.le_refl _) ?_
          refine c_34 (d := d) M h24 (by omega) c_62 ?_
          show RU_33 (d + 13) (0, 0) Post 81 ([(3, .int (nI (w 45 k + w (11 + (w 43 k)) 0))), (2, .int (nI k)), (1, .int (nI n)), (0, .ref 50)]) ([]) (stt (nw (aTB k w)) τ) 0 0
          refine R_seg sg_33_81 sk_33_81 (pc' := 84) (lv' := [(2, .int ((nI k) + 1)), (3, .int (nI (w 45 k + w (11 + (w 43 k)) 0))), (1, .int (nI n)), (0, .ref 50)]) (st' := []) (S' := stt (nw (aTB k w)) τ) (kc' := 0) (ks' := 0) rfl ⟨(by decide), trivial⟩ ?_
          refine R_goto ck_33_84 ?_
          refine Runs.lv (lv := [(2, .int ((nI k) + 1)), (1, .int (nI n)), (0, .ref 50)]) ?_ _ (lvS_l (show ([2, 1, 0] : List Nat).Nodup from by decide) (by intro q hq; simp only [List.mem_cons, List.not_mem_nil, or_false] at hq; rcases hq with rfl | rfl | rfl <;> rfl))
          rw [nI_1 k]
          exact ih (k + 1) _ (aTB_mi M (by omega) c_62) (by rw [aTB_k M (by omega) c_62 (by decide) (by decide) (by decide) (by decide) (by decide)]; exact h24) (by rw [aTB_42 M (by omega) c_62]; exact hn) (by omega) (by rw [aBB_s, if_pos ⟨c_62, c_73⟩] at hp; exact hp) (by omega)
set_option maxRecDepth 20000 in
theorem c_33 {d : Nat} {w : WW} {τ : Nat → Nat → Int64} {Post : Option Value → Sto → Prop} (M : MI w) (h24 : ∀ x, x < 192 → w 24 x ≤ 1) (hp : Post none (stt (nw (aBack w)) τ)) : Ex (d + 14) 33 [.ref 50] (stt (nw w) τ) 0 0 Post := by
  refine en_33 (Nat.le_of_ble_eq_true rfl) ?_
  show RU_33 (d + 13) (0, 0) Post 0 ([(0, .ref 50)]) ([]) (stt (nw w) τ) 0 0
  refine R_seg sg_33_0 sk_33_0 (pc' := 16) (lv' := [(2, .int (nI (w 42 6))), (1, .int (nI (w 42 5))), (0, .ref 50)]) (st' := []) (S' := stt (nw w) τ) (kc' := 0) (ks' := 0) rfl ⟨trivial, rfl, rfl, (by decide), trivial, rfl, rfl, (by decide), trivial⟩ ?_
  exact l_33 (w 42 5 - w 42 6 + 1) (w 42 6) w M h24 rfl M.2.2.2.2.2.1.1 hp (by omega)
/-! ===== forgetTheRest ===== -/
def aFG1 : Nat → Nat → WW → WW
  | 0, _, w => w
  | m + 1, k, w => if w 47 k = 3 then (if w (11 + w 43 k) 8 = k then aFG1 m (k + 1) (aOpen (w 43 k) (up2 w 47 k 2)) else aFG1 m (k + 1) (up2 w 47 k 2)) else aFG1 m (k + 1) w
theorem aFG1_s (m k : Nat) (w : WW) : aFG1 (m + 1) k w = if w 47 k = 3 then (if w (11 + w 43 k) 8 = k then aFG1 m (k + 1) (aOpen (w 43 k) (up2 w 47 k 2)) else aFG1 m (k + 1) (up2 w 47 k 2)) else aFG1 m (k + 1) w := rfl
def aFG2 : Nat → Nat → WW → WW
  | 0, _, w => w
  | m + 1, q, w => if w 51 (w 53 q) = 11 ∨ w 51 (w 53 q) = 12 then aFG2 m (q + 1) (up2 w 51 (w 53 q) 5) else aFG2 m (q + 1) w
theorem aFG2_s (m q : Nat) (w : WW) : aFG2 (m + 1) q w = if w 51 (w 53 q) = 11 ∨ w 51 (w 53 q) = 12 then aFG2 m (q + 1) (up2 w 51 (w 53 q) 5) else aFG2 m (q + 1) w := rfl
def aForget (w : WW) : WW := aFG2 (w 50 1) 0 (aFG1 (w 42 5 - w 42 6) (w 42 6) w)
/-- in forgetting the calls -/
def FGI (u : WW) (k n : Nat) : Prop := HO u ∧ u 1 4 ≤ 100000 ∧ u 42 5 = n ∧ n ≤ 192 ∧ (∀ c, c < n → u 43 c < 5 ∧ u 47 c ≤ 3) ∧ ∀ h, h < 5 → u (11 + h) 8 = N1 ∨ (k ≤ u (11 + h) 8 ∧ u (11 + h) 8 < n ∧ u 47 (u (11 + h) 8) = 3 ∧ u 43 (u (11 + h) 8) = h)
theorem aOpen_k (h : Nat) (w : WW) {k : Nat} (hk : k ≠ 11 + h) : aOpen h w k = w k := by
  unfold aOpen
  rw [up2_k _ _ _ _ hk, up2_k _ _ _ _ hk, up2_k _ _ _ _ hk, up2_k _ _ _ _ hk]
theorem HO.opn {w : WW} (H : HO w) (hK : w 1 4 ≤ 100000) {h : Nat} (hh : h < 5) (h3 : 0 < w (11 + h) 3) : HO (aOpen h w) := by
  intro g hg
  by_cases z : g = h
  · subst z
    have q := H g hg
    unfold aOpen
    simp only [up2, va_up, if_true, if_false, reduceIte, reduceCtorEq, Nat.reduceEqDiff]
    omega
  · rw [aOpen_k _ _ (show 11 + g ≠ 11 + h by omega)]
    exact H g hg
theorem FGI.no {u : WW} {k n : Nat} (H : FGI u k n) (h3 : ¬ u 47 k = 3) : FGI u (k + 1) n := by
  obtain ⟨a1, a2, a3, a4, a5, a6⟩ := H
  refine ⟨a1, a2, a3, a4, a5, fun h hh => ?_⟩
  rcases a6 h hh with t | ⟨t1, t2, t3, t4⟩
  · exact Or.inl t
  · right
    refine ⟨?_, t2, t3, t4⟩
    rcases Nat.lt_or_ge k (u (11 + h) 8) with z | z
    · exact z
    · exact absurd (show u 47 k = 3 by rw [show k = u (11 + h) 8 by omega]; exact t3) h3
theorem FGI.mark {u : WW} {k n : Nat} (H : FGI u k n) (ht : ¬ u (11 + u 43 k) 8 = k) : FGI (up2 u 47 k 2) (k + 1) n := by
  obtain ⟨a1, a2, a3, a4, a5, a6⟩ := H
  refine ⟨a1.fr (fun j hj => up2_k _ _ _ _ (by omega)), a2, a3, a4, fun c hc => ⟨(a5 c hc).1, ?_⟩, fun h hh => ?_⟩
  · show va_up (u 47) k 2 c ≤ 3
    unfold va_up
    split
    · omega
    · exact (a5 c hc).2
  · rw [up2_k u 47 k 2 (show 11 + h ≠ 47 by omega)]
    rcases a6 h hh with t | ⟨t1, t2, t3, t4⟩
    · exact Or.inl t
    · right
      have ne : u (11 + h) 8 ≠ k := by
        intro e
        apply ht
        rw [e] at t4
        rw [t4]
        exact e
      refine ⟨by omega, t2, ?_, t4⟩
      show va_up (u 47) k 2 (u (11 + h) 8) = 3
      rw [va_up_ne _ _ ne]
      exact t3
theorem FGI.opn {u : WW} {k n : Nat} (H : FGI u k n) (hk : k < n) (ht : u (11 + u 43 k) 8 = k) (h3 : 0 < u (11 + u 43 k) 3) : FGI (aOpen (u 43 k) (up2 u 47 k 2)) (k + 1) n := by
  obtain ⟨a1, a2, a3, a4, a5, a6⟩ := H
  have hh0 := (a5 k hk).1
  have e : ∀ j, j ≠ 11 + u 43 k → j ≠ 47 → aOpen (u 43 k) (up2 u 47 k 2) j = u j := fun j j1 j2 => by rw [aOpen_k _ _ j1, up2_k _ _ _ _ j2]
  have e47 : aOpen (u 43 k) (up2 u 47 k 2) 47 = va_up (u 47) k 2 := by rw [aOpen_k _ _ (by omega)]; rfl
  refine ⟨(a1.fr (v := up2 u 47 k 2) (fun j hj => up2_k _ _ _ _ (by omega))).opn a2 hh0 (by rw [up2_n _ _ _ _ (by omega)]; exact h3), ?_, ?_, a4, fun c hc => ?_, fun h hh => ?_⟩
  · rw [e 1 (by omega) (by decide)]; exact a2
  · rw [e 42 (by omega) (by decide)]; exact a3
  · rw [e 43 (by omega) (by decide), e47]
    refine ⟨(a5 c hc).1, ?_⟩
    unfold va_up
    split
    · omega
    · exact (a5 c hc).2
  · by_cases z : h = u 43 k
    · left
      rw [z]
      exact up2_c _ _ _ _
    · rw [e (11 + h) (by omega) (by omega), e 43 (by omega) (by decide), e47]
      rcases a6 h hh with t | ⟨t1, t2, t3, t4⟩
      · exact Or.inl t
      · right
        have ne : u (11 + h) 8 ≠ k := by
          intro y
          rw [y] at t4
          exact z t4.symm
        refine ⟨by omega, t2, ?_, t4⟩
        rw [va_up_ne _ _ ne]
        exact t3
theorem FGI.beg {w : WW} (M : MI w) : FGI w (w 42 6) (w 42 5) := by
  obtain ⟨h1, h2, h3, h4, h5, h6, h7, h8, h9⟩ := M
  have hl := h4.2.2.2.2.2.2.2.2.1
  have hkk := h4.2.2.2.2.2.2.2.1
  have hk3 : w 42 9 ≤ 192 := by unfold NIk at hkk; omega
  refine ⟨h5, h3.1, rfl, by omega, fun c hc => ⟨(h6.2.1 c hc).1, (h6.2.1 c hc).2.2⟩, fun h hh => ?_⟩
  rcases h7 h hh with t | ⟨t1, t2, t3, t4⟩
  · exact Or.inl t
  · right
    refine ⟨?_, t1, t2, t3⟩
    rcases Nat.lt_or_ge (w (11 + h) 8) (w 42 6) with z | z
    · exact absurd t2 (h6.2.2.1 _ z)
    · exact z
/-- a helper that has a try has a breaker -/
def TF (u : WW) : Prop := ∀ h, h < 5 → u (11 + h) 8 = N1 ∨ 0 < u (11 + h) 3
theorem TF.beg {w : WW} (M : MI w) : TF w := by
  intro h hh
  rcases M.2.2.2.2.2.2.1 h hh with t | ⟨t1, t2, t3, t4⟩
  · exact Or.inl t
  · exact Or.inr ((M.2.2.2.2.1 h hh).2.2.2.2.2.2.2.2.2 t4)
theorem TF.mark {u : WW} (H : TF u) (k : Nat) : TF (up2 u 47 k 2) := by
  intro h hh
  rw [up2_k _ _ _ _ (by omega)]
  exact H h hh
theorem TF.opn {u : WW} (H : TF u) (h : Nat) : TF (aOpen h u) := by
  intro g hg
  by_cases z : g = h
  · subst z; left; exact up2_c _ _ _ _
  · rw [aOpen_k _ _ (show 11 + g ≠ 11 + h by omega)]; exact H g hg
theorem TF.get {u : WW} (H : TF u) {k n : Nat} (F : FGI u k n) (hk : k < n) (ht : u (11 + u 43 k) 8 = k) : 0 < u (11 + u 43 k) 3 := by
  rcases H (u 43 k) (F.2.2.2.2.1 k hk).1 with z | z
  · have := F.2.2.2.1
    rw [ht] at z
    exact absurd (show k = 4294967295 from z) (by omega)
  · exact z
theorem aFG1_ok {n : Nat} : ∀ (m k : Nat) (u : WW), FGI u k n → TF u → k + m = n → FGI (aFG1 m k u) n n ∧ (∀ j, (j < 11 ∨ 16 ≤ j) → j ≠ 47 → aFG1 m k u j = u j)
  | 0, k, u, H, _, e => by
    have e : k = n := e
    subst e
    exact ⟨H, fun _ _ _ => rfl⟩
  | m + 1, k, u, H, T, e => by
    have hh := (H.2.2.2.2.1 k (by omega)).1
    rw [aFG1_s]
    split
    · split
      · rename_i ht
        have q := aFG1_ok m (k + 1) _ (H.opn (by omega) ht (T.get H (by omega) ht)) ((T.mark k).opn _) (by omega)
        exact ⟨q.1, fun j j1 j2 => by rw [q.2 j j1 j2, aOpen_k _ _ (by omega), up2_k _ _ _ _ j2]⟩
      · rename_i ht
        have q := aFG1_ok m (k + 1) _ (H.mark ht) (T.mark k) (by omega)
        exact ⟨q.1, fun j j1 j2 => by rw [q.2 j j1 j2, up2_k _ _ _ _ j2]⟩
    · rename_i h3
      exact aFG1_ok m (k + 1) u (H.no h3) T (by omega)
theorem aFG2_k : ∀ (m q : Nat) (u : WW) {j : Nat}, j ≠ 51 → aFG2 m q u j = u j
  | 0, _, _, _, _ => rfl
  | m + 1, q, u, j, hj => by
    rw [aFG2_s]
    split
    · rw [aFG2_k m (q + 1) _ hj, up2_k _ _ _ _ hj]
    · exact aFG2_k m (q + 1) u hj
/-- between asks the helpers try nothing -/
def TN1 (w : WW) : Prop := ∀ h, h < 5 → w (11 + h) 8 = N1
theorem aForget_ok {w : WW} (M : MI w) : HO (aForget w) ∧ TN1 (aForget w) ∧ (∀ j, (j < 11 ∨ 16 ≤ j) → j ≠ 47 → j ≠ 51 → aForget w j = w j) := by
  have h1 := M.2.2.2.2.2.1.1
  have q := aFG1_ok (w 42 5 - w 42 6) (w 42 6) w (FGI.beg M) (TF.beg M) (by omega)
  have e : ∀ j, j ≠ 51 → aForget w j = aFG1 (w 42 5 - w 42 6) (w 42 6) w j := fun j hj => aFG2_k _ _ _ hj
  refine ⟨q.1.1.fr (fun j hj => e j (by omega)), fun h hh => ?_, fun j j1 j2 j3 => ?_⟩
  · rw [e (11 + h) (by omega)]
    rcases q.1.2.2.2.2.2 h hh with t | ⟨t1, t2, _⟩
    · exact t
    · omega
  · rw [e j j3]
    exact q.2 j j1 j2
theorem c_12 {d : Nat} {w : WW} {τ : Nat → Nat → Int64} {h : Nat} (hh : h < 5) {Post : Option Value → Sto → Prop} (hp : Post none (stt (nw (aOpen h w)) τ)) : Ex (d + 1) 12 [.ref (11 + h), .int (nI (w 1 4))] (stt (nw w) τ) 0 0 Post := by
  refine x_12 (σ := nw w) (kd_help hh) ?_
  have := nw_open hh w
  unfold h_opn at this
  rw [this]
  exact hp
set_option maxRecDepth 20000 in
theorem l_36a {d n : Nat} {τ : Nat → Nat → Int64} {Post : Option Value → Sto → Prop} {X : WW} : ∀ (nn : Nat) (k : Nat) (w : WW), FGI w k n → TF w → k ≤ n → RU_36 (d + 1) (0, 0) Post 85 [(0, .ref 50)] [] (stt (nw (aFG1 (n - k) k w)) τ) 0 0 → n - k < nn → RU_36 (d + 1) (0, 0) Post 8 [(1, .int (nI k)), (0, .ref 50)] [] (stt (nw w) τ) 0 0 := by
  intro nn
  induction nn with
  | zero => intro k w H T hkn hp hms; exact absurd hms (by omega)
  | succ nn ih =>
    intro k w H T hkn hp hms
    have h5 := H.2.2.1
    have h192 := H.2.2.2.1
    refine R_seg sg_36_8 sk_36_8 (pc' := 16) (lv' := [(1, .int (nI k)), (0, .ref 50)]) (st' := [.int (nI (w 42 5)), .int (nI k)]) (S' := stt (nw w) τ) (kc' := 0) (ks' := 0) rfl ⟨trivial, trivial, rfl, rfl, trivial⟩ ?_
    refine R_icmp ck_36_16 (fun (c_16 : (nI (w 42 5)) ≤ (nI k)) => ?_) (fun (c_16 : ¬ (nI (w 42 5)) ≤ (nI k)) => ?_)
    · have c_16 : (w 42 5) ≤ k := (nI_leI (a := (w 42 5)) (b := k) (by omega) (by omega)).mp c_16
      refine Runs.lv (lv := [(0, .ref 50)]) ?_ _ (lvS_l (show ([0] : List Nat).Nodup from by decide) (by intro q hq; simp only [List.mem_cons, List.not_mem_nil, or_false] at hq; rcases hq with rfl <;> rfl))
      rw [show n - k = 0 by omega] at hp
      exact hp
    · have c_16 : k < (w 42 5) := Nat.not_le.mp (fun zq => c_16 ((nI_leI (a := (w 42 5)) (b := k) (by omega) (by omega)).mpr zq))
      obtain ⟨m, em⟩ : ∃ m, n - k = m + 1 := ⟨n - k - 1, by omega⟩
      rw [em] at hp
      have em2 : m = n - (k + 1) := by omega
      subst em2
      have hc := H.2.2.2.2.1 k (by omega)
      have hh := hc.1
      have hiff : nI (w (11 + w 43 k) 8) = nI k ↔ w (11 + w 43 k) 8 = k := by
        rcases H.2.2.2.2.2 (w 43 k) hh with z | z
        · rw [z]; exact ⟨fun q => absurd q.symm (nI_m1 (by omega)), fun q => absurd (show 4294967295 = k from q) (by omega)⟩
        · exact nI_eq (by omega) (by omega)
      refine R_seg sg_36_19 sk_36_19 (pc' := 27) (lv' := [(1, .int (nI k)), (0, .ref 50)]) (st' := [.int (nI k), .ref 47]) (S' := stt (nw w) τ) (kc' := 0) (ks' := 0) rfl ⟨trivial, rfl, rfl, trivial, trivial⟩ ?_
      refine R_iald ca_36_27 (j := k) rfl rfl (by omega) ?_
      refine R_seg sg_36_28 sk_36_28 (pc' := 29) (lv' := [(1, .int (nI k)), (0, .ref 50)]) (st' := [.int 3, .int (nI (w 47 k))]) (S' := stt (nw w) τ) (kc' := 0) (ks' := 0) rfl ⟨trivial, trivial⟩ ?_
      refine R_icmp ck_36_29 (fun (c_29 : ¬ (nI (w 47 k)) = 3) => ?_) (fun (c_29 : ¬ ¬ (nI (w 47 k)) = 3) => ?_)
      · have c_29 : ¬ (w 47 k) = 3 := fun zq => c_29 ((nI_eq (a := (w 47 k)) (b := 3) (by omega) (by omega)).mpr zq)
        refine R_seg sg_36_79 sk_36_79 (pc' := 82) (lv' := [(1, .int ((nI k) + 1)), (0, .ref 50)]) (st' := []) (S' := stt (nw w) τ) (kc' := 0) (ks' := 0) rfl ⟨(by decide), trivial⟩ ?_
        refine R_goto ck_36_82 ?_
        refine Runs.lv (lv := [(1, .int ((nI k) + 1)), (0, .ref 50)]) ?_ _ (lvS_l (show ([1, 0] : List Nat).Nodup from by decide) (by intro q hq; simp only [List.mem_cons, List.not_mem_nil, or_false] at hq; rcases hq with rfl | rfl <;> rfl))
        rw [nI_1 k]
        exact ih (k + 1) w (H.no c_29) T (by omega) (by rw [aFG1_s, if_neg c_29] at hp; exact hp) (by omega)
      · have c_29 : (w 47 k) = 3 := (nI_eq (a := (w 47 k)) (b := 3) (by omega) (by omega)).mp (Classical.not_not.mp c_29)
        refine R_seg sg_36_32 sk_36_32 (pc' := 41) (lv' := [(1, .int (nI k)), (0, .ref 50)]) (st' := [.int 2, .int (nI k), .ref 47]) (S' := stt (nw w) τ) (kc' := 0) (ks' := 0) rfl ⟨trivial, rfl, rfl, trivial, trivial, trivial⟩ ?_
        refine R_iast ca_36_41 (j := k) rfl rfl (by omega) ?_
        show RU_36 (d + 1) (0, 0) Post 42 ([(1, .int (nI k)), (0, .ref 50)]) ([]) (stt (up2 (nw w) 47 k 2) τ) 0 0
        rw [nw_up (w := w) (k := 47) (i := k) (v := 2) (n := 2) rfl]
        refine R_seg sg_36_42 sk_36_42 (pc' := 57) (lv' := [(1, .int (nI k)), (0, .ref 50)]) (st' := [.int (nI k), .ref 43, .ref 7]) (S' := stt (nw (up2 w 47 k 2)) τ) (kc' := 0) (ks' := 0) rfl ⟨trivial, rfl, rfl, trivial, rfl, rfl, trivial, trivial⟩ ?_
        refine R_iald ca_36_57 (j := k) rfl rfl (by omega) ?_
        refine R_aald ca_36_58 (j := w 43 k) (k' := 11 + (w 43 k)) rfl rfl (by omega) (rh_each (by omega)) ?_
        refine R_seg sg_36_59 sk_36_59 (pc' := 65) (lv' := [(2, .ref (11 + (w 43 k))), (1, .int (nI k)), (0, .ref 50)]) (st' := [.int (nI k), .int (nI ((up2 w 47 k 2) (11 + (w 43 k)) 8))]) (S' := stt (nw (up2 w 47 k 2)) τ) (kc' := 0) (ks' := 0) rfl ⟨(by decide), trivial, (kd_help hh), trivial, trivial⟩ ?_
        rw [up2_n w 47 k 2 (show 11 + w 43 k ≠ 47 by omega)]
        refine R_icmp ck_36_65 (fun (c_65 : ¬ (nI (w (11 + (w 43 k)) 8)) = (nI k)) => ?_) (fun (c_65 : ¬ ¬ (nI (w (11 + (w 43 k)) 8)) = (nI k)) => ?_)
        · have c_65 : ¬ w (11 + w 43 k) 8 = k := fun z => c_65 (hiff.mpr z)
          refine R_seg sg_36_79 sk_36_79 (pc' := 82) (lv' := [(1, .int ((nI k) + 1)), (2, .ref (11 + (w 43 k))), (0, .ref 50)]) (st' := []) (S' := stt (nw (up2 w 47 k 2)) τ) (kc' := 0) (ks' := 0) rfl ⟨(by decide), trivial⟩ ?_
          refine R_goto ck_36_82 ?_
          refine Runs.lv (lv := [(1, .int ((nI k) + 1)), (0, .ref 50)]) ?_ _ (lvS_l (show ([1, 0] : List Nat).Nodup from by decide) (by intro q hq; simp only [List.mem_cons, List.not_mem_nil, or_false] at hq; rcases hq with rfl | rfl <;> rfl))
          rw [nI_1 k]
          exact ih (k + 1) _ (H.mark c_65) (T.mark k) (by omega) (by rw [aFG1_s, if_pos c_29, if_neg c_65] at hp; exact hp) (by omega)
        · have c_65 : w (11 + w 43 k) 8 = k := hiff.mp (Classical.not_not.mp c_65)
          refine R_seg sg_36_68 sk_36_68 (pc' := 76) (lv' := [(2, .ref (11 + (w 43 k))), (1, .int (nI k)), (0, .ref 50)]) (st' := [.int (nI (w 1 4)), .ref (11 + (w 43 k))]) (S' := stt (nw (up2 w 47 k 2)) τ) (kc' := 0) (ks' := 0) rfl ⟨trivial, trivial, rfl, rfl, trivial⟩ ?_
          refine R_virt ck_36_76 (11 + (w 43 k)) [.int (nI (w 1 4))] 0 0 (r := []) rfl rfl (kd_help hh) (Nat.le_of_ble_eq_true rfl) (Nat.le_refl _) (Nat.le_refl _) ?_
          refine c_12 (w := up2 w 47 k 2) hh ?_
          show RU_36 (d + 1) (0, 0) Post 79 ([(2, .ref (11 + (w 43 k))), (1, .int (nI k)), (0, .ref 50)]) ([]) (stt (nw (aOpen (w 43 k) (up2 w 47 k 2))) τ) 0 0
          refine R_seg sg_36_79 sk_36_79 (pc' := 82) (lv' := [(1, .int ((nI k) + 1)), (2, .ref (11 + (w 43 k))), (0, .ref 50)]) (st' := []) (S' := stt (nw (aOpen (w 43 k) (up2 w 47 k 2))) τ) (kc' := 0) (ks' := 0) rfl ⟨(by decide), trivial⟩ ?_
          refine R_goto ck_36_82 ?_
          refine Runs.lv (lv := [(1, .int ((nI k) + 1)), (0, .ref 50)]) ?_ _ (lvS_l (show ([1, 0] : List Nat).Nodup from by decide) (by intro q hq; simp only [List.mem_cons, List.not_mem_nil, or_false] at hq; rcases hq with rfl | rfl <;> rfl))
          rw [nI_1 k]
          exact ih (k + 1) _ (H.opn (by omega) c_65 (T.get H (by omega) c_65)) ((T.mark k).opn _) (by omega) (by rw [aFG1_s, if_pos c_29, if_pos c_65] at hp; exact hp) (by omega)
set_option maxRecDepth 20000 in
theorem l_36b {d n : Nat} {τ : Nat → Nat → Int64} {Post : Option Value → Sto → Prop} (hn : n ≤ 192) : ∀ (nn : Nat) (q : Nat) (w : WW), (∀ i, i < n → w 53 i < 192) → w 50 1 = n → (∀ x, x < 192 → w 51 x ≤ 12) → q ≤ n → Post none (stt (nw (aFG2 (n - q) q w)) τ) → n - q < nn → RU_36 (d + 1) (0, 0) Post 87 [(1, .int (nI q)), (0, .ref 50)] [] (stt (nw w) τ) 0 0 := by
  intro nn
  induction nn with
  | zero => intro q w hc ha hf hqn hp hms; exact absurd hms (by omega)
  | succ nn ih =>
    intro q w hc ha hf hqn hp hms
    refine R_seg sg_36_87 sk_36_87 (pc' := 92) (lv' := [(1, .int (nI q)), (0, .ref 50)]) (st' := [.int (nI (w 50 1)), .int (nI q)]) (S' := stt (nw w) τ) (kc' := 0) (ks' := 0) rfl ⟨trivial, trivial, rfl, trivial⟩ ?_
    refine R_icmp ck_36_92 (fun (c_92 : (nI (w 50 1)) ≤ (nI q)) => ?_) (fun (c_92 : ¬ (nI (w 50 1)) ≤ (nI q)) => ?_)
    · have c_92 : (w 50 1) ≤ q := (nI_leI (a := (w 50 1)) (b := q) (by omega) (by omega)).mp c_92
      refine R_ret ck_36_137 rfl ?_
      rw [show n - q = 0 by omega] at hp
      exact hp
    · have c_92 : q < (w 50 1) := Nat.not_le.mp (fun zq => c_92 ((nI_leI (a := (w 50 1)) (b := q) (by omega) (by omega)).mpr zq))
      obtain ⟨m, em⟩ : ∃ m, n - q = m + 1 := ⟨n - q - 1, by omega⟩
      rw [em] at hp
      have em2 : m = n - (q + 1) := by omega
      subst em2
      have hxq := hc q (by omega)
      have b51 := hf (w 53 q) hxq
      refine R_seg sg_36_95 sk_36_95 (pc' := 100) (lv' := [(1, .int (nI q)), (0, .ref 50)]) (st' := [.int (nI q), .ref 53]) (S' := stt (nw w) τ) (kc' := 0) (ks' := 0) rfl ⟨trivial, rfl, trivial, trivial⟩ ?_
      refine R_iald ca_36_100 (j := q) rfl rfl (by omega) ?_
      refine R_seg sg_36_101 sk_36_101 (pc' := 107) (lv' := [(2, .int (nI (w 53 q))), (1, .int (nI q)), (0, .ref 50)]) (st' := [.int (nI (w 53 q)), .ref 51]) (S' := stt (nw w) τ) (kc' := 0) (ks' := 0) rfl ⟨(by decide), trivial, rfl, trivial, trivial⟩ ?_
      refine R_iald ca_36_107 (j := w 53 q) rfl rfl (by omega) ?_
      refine R_seg sg_36_108 sk_36_108 (pc' := 110) (lv' := [(2, .int (nI (w 53 q))), (1, .int (nI q)), (0, .ref 50)]) (st' := [.int 11, .int (nI (w 51 (w 53 q)))]) (S' := stt (nw w) τ) (kc' := 0) (ks' := 0) rfl ⟨trivial, trivial⟩ ?_
      refine R_icmp ck_36_110 (fun (c_110 : (nI (w 51 (w 53 q))) = 11) => ?_) (fun (c_110 : ¬ (nI (w 51 (w 53 q))) = 11) => ?_)
      · have c_110 : (w 51 (w 53 q)) = 11 := (nI_eq (a := (w 51 (w 53 q))) (b := 11) (by omega) (by omega)).mp c_110
        refine R_seg sg_36_124 sk_36_124 (pc' := 130) (lv' := [(2, .int (nI (w 53 q))), (1, .int (nI q)), (0, .ref 50)]) (st' := [.int 5, .int (nI (w 53 q)), .ref 51]) (S' := stt (nw w) τ) (kc' := 0) (ks' := 0) rfl ⟨trivial, rfl, trivial, trivial, trivial⟩ ?_
        refine R_iast ca_36_130 (j := w 53 q) rfl rfl (by omega) ?_
        show RU_36 (d + 1) (0, 0) Post 131 ([(2, .int (nI (w 53 q))), (1, .int (nI q)), (0, .ref 50)]) ([]) (stt (up2 (nw w) 51 (w 53 q) 5) τ) 0 0
        rw [nw_up (w := w) (k := 51) (i := (w 53 q)) (v := 5) (n := 5) rfl]
        refine R_seg sg_36_131 sk_36_131 (pc' := 134) (lv' := [(1, .int ((nI q) + 1)), (2, .int (nI (w 53 q))), (0, .ref 50)]) (st' := []) (S' := stt (nw (up2 w 51 (w 53 q) 5)) τ) (kc' := 0) (ks' := 0) rfl ⟨(by decide), trivial⟩ ?_
        refine R_goto ck_36_134 ?_
        refine Runs.lv (lv := [(1, .int ((nI q) + 1)), (0, .ref 50)]) ?_ _ (lvS_l (show ([1, 0] : List Nat).Nodup from by decide) (by intro q hq; simp only [List.mem_cons, List.not_mem_nil, or_false] at hq; rcases hq with rfl | rfl <;> rfl))
        rw [nI_1 q]
        exact ih (q + 1) _ hc ha (fun x hx => by show va_up (w 51) (w 53 q) 5 x ≤ 12; unfold va_up; split; decide; exact hf x hx) (by omega) (by first | (rw [aFG2_s, if_pos (Or.inl c_110)] at hp; exact hp) | (rw [aFG2_s, if_pos (Or.inr c_121)] at hp; exact hp)) (by omega)
      · have c_110 : ¬ (w 51 (w 53 q)) = 11 := fun zq => c_110 ((nI_eq (a := (w 51 (w 53 q))) (b := 11) (by omega) (by omega)).mpr zq)
        refine R_seg sg_36_113 sk_36_113 (pc' := 118) (lv' := [(2, .int (nI (w 53 q))), (1, .int (nI q)), (0, .ref 50)]) (st' := [.int (nI (w 53 q)), .ref 51]) (S' := stt (nw w) τ) (kc' := 0) (ks' := 0) rfl ⟨trivial, rfl, trivial, trivial⟩ ?_
        refine R_iald ca_36_118 (j := w 53 q) rfl rfl (by omega) ?_
        refine R_seg sg_36_119 sk_36_119 (pc' := 121) (lv' := [(2, .int (nI (w 53 q))), (1, .int (nI q)), (0, .ref 50)]) (st' := [.int 12, .int (nI (w 51 (w 53 q)))]) (S' := stt (nw w) τ) (kc' := 0) (ks' := 0) rfl ⟨trivial, trivial⟩ ?_
        refine R_icmp ck_36_121 (fun (c_121 : ¬ (nI (w 51 (w 53 q))) = 12) => ?_) (fun (c_121 : ¬ ¬ (nI (w 51 (w 53 q))) = 12) => ?_)
        · have c_121 : ¬ (w 51 (w 53 q)) = 12 := fun zq => c_121 ((nI_eq (a := (w 51 (w 53 q))) (b := 12) (by omega) (by omega)).mpr zq)
          refine R_seg sg_36_131 sk_36_131 (pc' := 134) (lv' := [(1, .int ((nI q) + 1)), (2, .int (nI (w 53 q))), (0, .ref 50)]) (st' := []) (S' := stt (nw w) τ) (kc' := 0) (ks' := 0) rfl ⟨(by decide), trivial⟩ ?_
          refine R_goto ck_36_134 ?_
          refine Runs.lv (lv := [(1, .int ((nI q) + 1)), (0, .ref 50)]) ?_ _ (lvS_l (show ([1, 0] : List Nat).Nodup from by decide) (by intro q hq; simp only [List.mem_cons, List.not_mem_nil, or_false] at hq; rcases hq with rfl | rfl <;> rfl))
          rw [nI_1 q]
          exact ih (q + 1) w hc ha hf (by omega) (by rw [aFG2_s, if_neg (fun z => by rcases z with z | z; exact c_110 z; exact c_121 z)] at hp; exact hp) (by omega)
        · have c_121 : (w 51 (w 53 q)) = 12 := (nI_eq (a := (w 51 (w 53 q))) (b := 12) (by omega) (by omega)).mp (Classical.not_not.mp c_121)
          refine R_seg sg_36_124 sk_36_124 (pc' := 130) (lv' := [(2, .int (nI (w 53 q))), (1, .int (nI q)), (0, .ref 50)]) (st' := [.int 5, .int (nI (w 53 q)), .ref 51]) (S' := stt (nw w) τ) (kc' := 0) (ks' := 0) rfl ⟨trivial, rfl, trivial, trivial, trivial⟩ ?_
          refine R_iast ca_36_130 (j := w 53 q) rfl rfl (by omega) ?_
          show RU_36 (d + 1) (0, 0) Post 131 ([(2, .int (nI (w 53 q))), (1, .int (nI q)), (0, .ref 50)]) ([]) (stt (up2 (nw w) 51 (w 53 q) 5) τ) 0 0
          rw [nw_up (w := w) (k := 51) (i := (w 53 q)) (v := 5) (n := 5) rfl]
          refine R_seg sg_36_131 sk_36_131 (pc' := 134) (lv' := [(1, .int ((nI q) + 1)), (2, .int (nI (w 53 q))), (0, .ref 50)]) (st' := []) (S' := stt (nw (up2 w 51 (w 53 q) 5)) τ) (kc' := 0) (ks' := 0) rfl ⟨(by decide), trivial⟩ ?_
          refine R_goto ck_36_134 ?_
          refine Runs.lv (lv := [(1, .int ((nI q) + 1)), (0, .ref 50)]) ?_ _ (lvS_l (show ([1, 0] : List Nat).Nodup from by decide) (by intro q hq; simp only [List.mem_cons, List.not_mem_nil, or_false] at hq; rcases hq with rfl | rfl <;> rfl))
          rw [nI_1 q]
          exact ih (q + 1) _ hc ha (fun x hx => by show va_up (w 51) (w 53 q) 5 x ≤ 12; unfold va_up; split; decide; exact hf x hx) (by omega) (by first | (rw [aFG2_s, if_pos (Or.inl c_110)] at hp; exact hp) | (rw [aFG2_s, if_pos (Or.inr c_121)] at hp; exact hp)) (by omega)
set_option maxRecDepth 20000 in
theorem c_36 {d : Nat} {w : WW} {τ : Nat → Nat → Int64} {Post : Option Value → Sto → Prop} (M : MI w) (hp : Post none (stt (nw (aForget w)) τ)) : Ex (d + 2) 36 [.ref 50] (stt (nw w) τ) 0 0 Post := by
  have h1 := M.2.2.2.2.2.1.1
  have hN := M.2.2.2.1
  have hc := hN.2.2.1
  have ha := hN.2.1
  have ha3 : w 50 1 ≤ 192 := by unfold NIb at ha; omega
  have q := aFG1_ok (w 42 5 - w 42 6) (w 42 6) w (FGI.beg M) (TF.beg M) (by omega)
  refine en_36 (Nat.le_of_ble_eq_true rfl) ?_
  show RU_36 (d + 1) (0, 0) Post 0 ([(0, .ref 50)]) ([]) (stt (nw w) τ) 0 0
  refine R_seg sg_36_0 sk_36_0 (pc' := 8) (lv' := [(1, .int (nI (w 42 6))), (0, .ref 50)]) (st' := []) (S' := stt (nw w) τ) (kc' := 0) (ks' := 0) rfl ⟨trivial, rfl, rfl, (by decide), trivial⟩ ?_
  refine l_36a (n := w 42 5) (X := w) (w 42 5 - w 42 6 + 1) (w 42 6) w (FGI.beg M) (TF.beg M) h1 ?_ (by omega)
  refine R_seg sg_36_85 sk_36_85 (pc' := 87) (lv' := [(1, .int 0), (0, .ref 50)]) (st' := []) (S' := stt (nw (aFG1 (w 42 5 - w 42 6) (w 42 6) w)) τ) (kc' := 0) (ks' := 0) rfl ⟨trivial, (by decide), trivial⟩ ?_
  rw [← nI_0]
  exact l_36b (n := w 50 1) (by omega) (w 50 1 + 1) 0 _ (by rw [q.2 53 (by decide) (by decide)]; exact fun i hi => (hc i hi).1) (by rw [q.2 50 (by decide) (by decide)]) (by rw [q.2 51 (by decide) (by decide)]; exact hN.1) (Nat.zero_le _) hp (by omega)
/-! ===== goBy ===== -/
def AO (w : WW) : Prop := ∀ a, a < 4 → w 2 a ≤ 63 ∧ w 3 a ≤ 500 ∧ w 4 a ≤ 50 ∧ w 5 a ≤ 500
def gbw (x y : Nat) : Nat := if y < x then y else x
def aGo (t : Nat) (w : WW) : WW := up2 (up2 (up2 (up2 (up2 w 1 4 (w 1 4 + t)) 5 0 (gbw (w 3 0) (w 5 0 + t * w 4 0))) 5 1 (gbw (w 3 1) (w 5 1 + t * w 4 1))) 5 2 (gbw (w 3 2) (w 5 2 + t * w 4 2))) 5 3 (gbw (w 3 3) (w 5 3 + t * w 4 3))
theorem gb_n {w : WW} (hA : AO w) {t a : Nat} (ht : t ≤ 1000) (ha : a < 4) : gb (nw w 3 a) (nw w 5 a + nI t * nw w 4 a) = nI (gbw (w 3 a) (w 5 a + t * w 4 a)) := by
  have h := hA a ha
  have hm : t * w 4 a ≤ 1000 * 50 := Nat.mul_le_mul ht h.2.2.1
  unfold gb gbw
  show (if nI (w 5 a) + nI t * nI (w 4 a) < nI (w 3 a) then _ else _) = _
  rw [pk_mul, nI_add]
  by_cases z : w 5 a + t * w 4 a < w 3 a
  · rw [if_pos z, if_pos ((nI_ltI (by omega) (by omega)).mpr z)]
    show nI (w 5 a) + nI t * nI (w 4 a) = _
    rw [pk_mul, nI_add]
  · rw [if_neg z, if_neg (fun q => z ((nI_ltI (by omega) (by omega)).mp q))]
    rfl
theorem nw_goBy {w : WW} (hA : AO w) {t : Nat} (ht : t ≤ 1000) : c_goBy (nw w) (nI t) = nw (aGo t w) := by
  unfold c_goBy aGo
  rw [gb_n hA ht (show 0 < 4 by decide), gb_n hA ht (show 1 < 4 by decide), gb_n hA ht (show 2 < 4 by decide), gb_n hA ht (show 3 < 4 by decide)]
  rw [show nw w 1 4 = nI (w 1 4) from rfl, nw_up (n := w 1 4 + t) (nI_add _ _), nw_up (n := gbw (w 3 0) (w 5 0 + t * w 4 0)) rfl, nw_up (n := gbw (w 3 1) (w 5 1 + t * w 4 1)) rfl, nw_up (n := gbw (w 3 2) (w 5 2 + t * w 4 2)) rfl, nw_up (n := gbw (w 3 3) (w 5 3 + t * w 4 3)) rfl]
theorem aGo_k (t : Nat) (w : WW) {k : Nat} (hk : k ≠ 1 ∧ k ≠ 5) : aGo t w k = w k := by
  unfold aGo
  rw [up2_k _ _ _ _ hk.2, up2_k _ _ _ _ hk.2, up2_k _ _ _ _ hk.2, up2_k _ _ _ _ hk.2, up2_k _ _ _ _ hk.1]
theorem AO.go {w : WW} (h : AO w) (t : Nat) : AO (aGo t w) := by
  intro a ha
  have q := h a ha
  rw [aGo_k t w (show 2 ≠ 1 ∧ 2 ≠ 5 by decide), aGo_k t w (show 3 ≠ 1 ∧ 3 ≠ 5 by decide), aGo_k t w (show 4 ≠ 1 ∧ 4 ≠ 5 by decide)]
  refine ⟨q.1, q.2.1, q.2.2.1, ?_⟩
  have gl : ∀ x y, gbw x y ≤ x := fun x y => by unfold gbw; split <;> omega
  have h0 := h 0 (by decide)
  have h1 := h 1 (by decide)
  have h2 := h 2 (by decide)
  have h3 := h 3 (by decide)
  rcases (show a = 0 ∨ a = 1 ∨ a = 2 ∨ a = 3 by omega) with rfl | rfl | rfl | rfl
  · exact Nat.le_trans (gl _ _) h0.2.1
  · exact Nat.le_trans (gl _ _) h1.2.1
  · exact Nat.le_trans (gl _ _) h2.2.1
  · exact Nat.le_trans (gl _ _) h3.2.1
theorem aGo_mi {w : WW} (M : MI w) {t : Nat} (ht : w 1 4 + t ≤ 100000) : MI (aGo t w) := by
  obtain ⟨h1, h2, h3, h4, h5, h6, h7, h8, h9⟩ := M
  obtain ⟨a1, a2, a3, a4, a5, a6, a7, a8, a9⟩ := h4
  refine ⟨h1, h2, ⟨ht, h3.2⟩, ⟨a1, a2, a3, a4, ?_, a6, a7, a8, a9.1, ?_⟩, h5.fr (fun k hk => aGo_k _ _ (by omega)), ⟨h6.1, ?_, h6.2.2⟩, h7.fr (fun k hk => aGo_k _ _ (by omega)), h8, h9⟩
  · intro x hx hf
    have q := a5 x hx hf
    exact ⟨q.1, show w 25 x ≤ w 1 4 + t by have := q.2; omega⟩
  · intro c hc
    refine ⟨(a9.2 c hc).1, fun i hi => ?_⟩
    obtain ⟨b1, b2, b3, b4⟩ := (a9.2 c hc).2 i hi
    exact ⟨b1, b2, b3, fun hz => Nat.le_trans (b4 hz) (Nat.le_add_right _ _)⟩
  · intro c hc
    have q := h6.2.1 c hc
    exact ⟨q.1, show w 45 c ≤ w 1 4 + t by have := q.2.1; omega, q.2.2⟩
/-! ===== run ===== -/
def flw (w : WW) (k a b v : Nat) : WW := fun k' => if k' = k then (fun i => if a ≤ i ∧ i < b then v else w k i) else w k'
theorem nw_fl (w : WW) (k a b n : Nat) {v : Int32} (hv : v = nI n) : fl2 (nw w) k a b v = nw (flw w k a b n) := by
  subst hv
  funext k' i
  unfold fl2 flw nw
  by_cases h : k' = k
  · simp only [h, if_true]
    by_cases h2 : a ≤ i ∧ i < b
    · simp only [h2, and_self, if_true]
    · simp only [h2, if_false]
  · simp only [h, if_false]
def aClear (w : WW) : WW := up2 (up2 (up2 (up2 (up2 (flw (flw (flw w 51 0 192 0) 52 0 192 0) 54 0 5 0) 50 1 0) 50 9 0) 42 5 0) 42 6 0) 42 9 0
theorem nw_clear (w : WW) : c_clear (nw w) = nw (aClear w) := by
  unfold c_clear aClear
  rw [nw_fl w 51 0 192 0 (v := 0) rfl, nw_fl _ 52 0 192 0 (v := 0) rfl, nw_fl _ 54 0 5 0 (v := 0) rfl, nw_up (v := 0) (n := 0) rfl, nw_up (v := 0) (n := 0) rfl, nw_up (v := 0) (n := 0) rfl, nw_up (v := 0) (n := 0) rfl, nw_up (v := 0) (n := 0) rfl]
theorem aClear_k (w : WW) {k : Nat} (hk : k ≠ 42 ∧ k ≠ 50 ∧ k ≠ 51 ∧ k ≠ 52 ∧ k ≠ 54) : aClear w k = w k := by
  unfold aClear
  rw [up2_k _ _ _ _ hk.1, up2_k _ _ _ _ hk.1, up2_k _ _ _ _ hk.1, up2_k _ _ _ _ hk.2.1, up2_k _ _ _ _ hk.2.1]
  unfold flw
  simp only [hk.2.2.1, hk.2.2.2.1, hk.2.2.2.2, if_false]
/-- what holds between asks -/
def BI (w : WW) : Prop := SO w ∧ KO w ∧ HO w ∧ SP w ∧ TN1 w ∧ AO w ∧ ZO w
def aSet (r : Nat) (w : WW) : WW := up2 (aClear w) 50 11 r
theorem aSet_k (r : Nat) (w : WW) {k : Nat} (hk : k ≠ 42 ∧ k ≠ 50 ∧ k ≠ 51 ∧ k ≠ 52 ∧ k ≠ 54) : aSet r w k = w k := by
  unfold aSet
  rw [up2_k _ _ _ _ hk.2.1, aClear_k w hk]
theorem aSet_mi {w : WW} (B : BI w) (hT : TO w) (r : Nat) : MI (aSet r w) := by
  obtain ⟨h1, h2, h3, h4, h5, h6, h7⟩ := B
  have e : ∀ k, k ≠ 42 ∧ k ≠ 50 ∧ k ≠ 51 ∧ k ≠ 52 ∧ k ≠ 54 → aSet r w k = w k := fun k hk => aSet_k r w hk
  have e51 : ∀ x, x < 192 → aSet r w 51 x = 0 := fun x hx => if_pos ⟨Nat.zero_le _, hx⟩
  have e52 : ∀ x, x < 192 → aSet r w 52 x = 0 := fun x hx => if_pos ⟨Nat.zero_le _, hx⟩
  have e54 : ∀ x, x < 5 → aSet r w 54 x = 0 := fun x hx => if_pos ⟨Nat.zero_le _, hx⟩
  refine ⟨h1.fr2 (fun k hk => e k (by omega)), hT.fr2 (fun k hk => e k (by omega)), h2.fr2 (e 1 (by decide)) (e 25 (by decide)), ?_, h3.fr (fun k hk => e k (by omega)), ?_, ?_, h4.fr (fun k hk => e k (by omega)), ?_⟩
  · refine ⟨?_, ?_, ?_, ?_, ?_, ?_, ⟨Nat.le_refl 0, ?_⟩, ?_, Nat.le_refl 0, ?_⟩
    · intro x hx; rw [e51 x hx]; omega
    · show 0 + fb_ct _ 192 ≤ 192
      have := fb_ct_le (fun x => aSet r w 51 x == 0) 192
      omega
    · intro i hi; exact absurd hi (Nat.not_lt_zero i)
    · intro h hh
      rw [e54 h hh]
      symm
      refine fb_ct_zero.mpr (fun x hx => ?_)
      rw [e51 x hx]; rfl
    · intro x hx hf; rw [e51 x hx] at hf; omega
    · intro x hx; rw [e52 x hx]; omega
    · intro i hi; exact absurd hi (Nat.not_lt_zero i)
    · show 0 + fb_ct _ 192 ≤ 192
      have := fb_ct_le (fun x => aSet r w 51 x == 0 || aSet r w 51 x == 11) 192
      omega
    · intro c hc; exact absurd hc (Nat.not_lt_zero c)
  · exact ⟨Nat.le_refl 0, fun c hc => absurd hc (Nat.not_lt_zero c), fun c hc => absurd hc (Nat.not_lt_zero c), fun hc => absurd hc (Nat.not_lt_zero 0)⟩
  · intro h hh
    left
    rw [e (11 + h) (by omega)]
    exact h5 h hh
  · intro x hx n hn
    rw [e52 x hx] at hn
    simp at hn
def done (u : WW) : Prop := u 42 5 ≤ u 42 6 ∧ u 50 1 ≤ u 50 9
noncomputable def rlp : Nat → WW → WW
  | 0, w => aForget w
  | m + 1, w => @ite WW (done (aCalls w)) (Classical.propDecidable _) (aCalls w) (rlp m (aBack (aGo 1 (aCalls w))))
theorem rlp_s (m : Nat) (w : WW) : rlp (m + 1) w = @ite WW (done (aCalls w)) (Classical.propDecidable _) (aCalls w) (rlp m (aBack (aGo 1 (aCalls w)))) := rfl
noncomputable def aRun (id t r : Nat) (w : WW) : WW := rlp t (need 5 0 id (aSet r w))
/-- what the making of calls leaves -/
theorem aTurn_k {w : WW} {h : Nat} (hh : h < 5) (hS : SO w) (hN : NI w) (hH : HO w) {k : Nat} (hk : k < 42) (hk2 : k < 11 ∨ 16 ≤ k) : aTurn h w k = w k := by
  unfold aTurn
  split
  · exact (FRM.refuse h w).1 k hk
  · split
    · split
      · rw [(aMake_fr (w := up2 w (11 + h) 8 (w 42 5)) hh).1 k hk, up2_k _ _ _ _ (by omega)]
      · rfl
    · exact (mks_mi hh _ w hN hS (hH h hh).2.1.2).2.1 k hk
theorem aTurns_k {w : WW} (M : MI w) {k : Nat} (hk : k < 42) (hk2 : k < 11 ∨ 16 ≤ k) : ∀ n, n ≤ 5 → aTurns n w k = w k
  | 0, _ => rfl
  | n + 1, hn => by
    have m := aTurns_mi M n (by omega)
    show (if 0 < aTurns n w 54 n then aTurn n (aTurns n w) else aTurns n w) k = w k
    split
    · rw [aTurn_k (by omega) m.1 m.2.2.2.1 m.2.2.2.2.1 hk hk2]; exact aTurns_k M hk hk2 n (by omega)
    · exact aTurns_k M hk hk2 n (by omega)
theorem aCalls_k {w : WW} (M : MI w) {k : Nat} (hk : k < 42) (hk2 : k < 11 ∨ 16 ≤ k) : aCalls w k = w k := by
  unfold aCalls
  rw [(skp_k (aTurns 5 w) _ _ (fun _ _ => rfl) (fun _ _ => rfl)).1 k (by omega)]
  exact aTurns_k M hk hk2 5 (Nat.le_refl _)
set_option maxRecDepth 20000 in
theorem l_23 {d id t r : Nat} {τ : Nat → Nat → Int64} {Post : Option Value → Sto → Prop} (ht : t ≤ 200) : ∀ (nn : Nat) (i : Nat) (w : WW), MI w → (∀ x, x < 192 → w 24 x ≤ 1) → AO w → w 1 4 + (t - i) ≤ 100000 → i ≤ t → Post none (stt (nw (rlp (t - i) w)) τ) → t - i < nn → RU_23 (d + 14) (0, 0) Post 19 [(4, .int (nI i)), (0, .ref 50), (1, .int (nI id)), (2, .int (nI t)), (3, .int (nI r))] [] (stt (nw w) τ) 0 0 := by
  intro nn
  induction nn with
  | zero => intro i w M h24 hA hnow hit hp hms; exact absurd hms (by omega)
  | succ nn ih =>
    intro i w M h24 hA hnow hit hp hms
    refine R_seg sg_23_19 sk_23_19 (pc' := 22) (lv' := [(4, .int (nI i)), (0, .ref 50), (1, .int (nI id)), (2, .int (nI t)), (3, .int (nI r))]) (st' := [.int (nI t), .int (nI i)]) (S' := stt (nw w) τ) (kc' := 0) (ks' := 0) rfl ⟨trivial, trivial, trivial⟩ ?_
    refine R_icmp ck_23_22 (fun (c_22 : (nI t) ≤ (nI i)) => ?_) (fun (c_22 : ¬ (nI t) ≤ (nI i)) => ?_)
    · have c_22 : t ≤ i := (nI_leI (a := t) (b := i) (by omega) (by omega)).mp c_22
      refine R_seg sg_23_55 sk_23_55 (pc' := 56) (lv' := [(4, .int (nI i)), (0, .ref 50), (1, .int (nI id)), (2, .int (nI t)), (3, .int (nI r))]) (st' := [.ref 50]) (S' := stt (nw w) τ) (kc' := 0) (ks' := 0) rfl ⟨trivial, trivial⟩ ?_
      refine R_virt ck_23_56 50 [] 0 0 (r := []) rfl rfl rfl (Nat.le_of_ble_eq_true rfl) (Nat.le_refl _) (Nat.le_refl _) ?_
      refine c_36 (d := d + 12) M ?_
      show RU_23 (d + 14) (0, 0) Post 59 ([(4, .int (nI i)), (0, .ref 50), (1, .int (nI id)), (2, .int (nI t)), (3, .int (nI r))]) ([]) (stt (nw (aForget w)) τ) 0 0
      refine R_ret ck_23_59 rfl ?_
      rw [show t - i = 0 by omega] at hp
      exact hp
    · have c_22 : i < t := Nat.not_le.mp (fun zq => c_22 ((nI_leI (a := t) (b := i) (by omega) (by omega)).mpr zq))
      obtain ⟨m, em⟩ : ∃ m, t - i = m + 1 := ⟨t - i - 1, by omega⟩
      rw [em] at hp
      have em2 : m = t - (i + 1) := by omega
      subst em2
      have M2 := aCalls_mi M
      have b1 := M2.2.2.2.2.2.1.1
      have hl := M2.2.2.2.1.2.2.2.2.2.2.2.2.1
      have hkk := M2.2.2.2.1.2.2.2.2.2.2.2.1
      have hk3 : aCalls w 42 9 ≤ 192 := by unfold NIk at hkk; omega
      have b3 := M2.2.2.2.1.2.2.2.2.2.2.1.1
      have ha := M2.2.2.2.1.2.1
      have ha3 : aCalls w 50 1 ≤ 192 := by unfold NIb at ha; omega
      have ek : ∀ k, k < 42 → k < 11 ∨ 16 ≤ k → aCalls w k = w k := fun k k1 k2 => aCalls_k M k1 k2
      have hA2 : AO (aCalls w) := by unfold AO; rw [ek 2 (by decide) (by decide), ek 3 (by decide) (by decide), ek 4 (by decide) (by decide), ek 5 (by decide) (by decide)]; exact hA
      have e1 : aCalls w 1 4 = w 1 4 := by rw [ek 1 (by decide) (by decide)]
      have M3 := aGo_mi M2 (t := 1) (by omega)
      have M4 := aBack_mi M3
      have hA4 : AO (aBack (aGo 1 (aCalls w))) := by unfold AO; rw [aBack_k M3 (by decide) (by decide) (by decide), aBack_k M3 (by decide) (by decide) (by decide), aBack_k M3 (by decide) (by decide) (by decide), aBack_k M3 (by decide) (by decide) (by decide)]; exact hA2.go 1
      have e14 : aBack (aGo 1 (aCalls w)) 1 4 = w 1 4 + 1 := by rw [aBack_k M3 (by decide) (by decide) (by decide), ← e1]; rfl
      refine R_seg sg_23_25 sk_23_25 (pc' := 26) (lv' := [(4, .int (nI i)), (0, .ref 50), (1, .int (nI id)), (2, .int (nI t)), (3, .int (nI r))]) (st' := [.ref 50]) (S' := stt (nw w) τ) (kc' := 0) (ks' := 0) rfl ⟨trivial, trivial⟩ ?_
      refine R_virt ck_23_26 50 [] 0 0 (r := []) rfl rfl rfl (Nat.le_of_ble_eq_true rfl) (Nat.le_refl _) (Nat.le_refl _) ?_
      refine c_28 (d := d + 10) M ?_
      show RU_23 (d + 14) (0, 0) Post 29 ([(4, .int (nI i)), (0, .ref 50), (1, .int (nI id)), (2, .int (nI t)), (3, .int (nI r))]) ([]) (stt (nw (aCalls w)) τ) 0 0
      refine R_seg sg_23_29 sk_23_29 (pc' := 30) (lv' := [(4, .int (nI i)), (0, .ref 50), (1, .int (nI id)), (2, .int (nI t)), (3, .int (nI r))]) (st' := [.ref 50]) (S' := stt (nw (aCalls w)) τ) (kc' := 0) (ks' := 0) rfl ⟨trivial, trivial⟩ ?_
      refine R_virt ck_23_30 50 [] 0 0 (r := []) rfl rfl rfl (Nat.le_of_ble_eq_true rfl) (Nat.le_refl _) (Nat.le_refl _) ?_
      refine x_32 (d := d + 13) (σ := nw (aCalls w)) (fw := aCalls w 42 6) (n := aCalls w 42 5) (ft := aCalls w 50 9) (a := aCalls w 50 1) rfl rfl rfl rfl (by omega) (by omega) (by omega) (by omega) (fun q1 q2 => ?_) (fun q => ?_)
      · have hd : done (aCalls w) := ⟨q1, q2⟩
        show RU_23 (d + 14) (0, 0) Post 33 ([(4, .int (nI i)), (0, .ref 50), (1, .int (nI id)), (2, .int (nI t)), (3, .int (nI r))]) ([.int 1]) (stt (nw (aCalls w)) τ) 0 0
        refine R_if ck_23_33 (fun c => absurd c (show ¬ (1 : Int32) = 0 from by decide)) (fun _ => ?_)
        refine R_ret ck_23_36 rfl ?_
        rw [rlp_s, if_pos hd] at hp
        exact hp
      · have hd : ¬ done (aCalls w) := fun z => by have z1 := z.1; have z2 := z.2; omega
        show RU_23 (d + 14) (0, 0) Post 33 ([(4, .int (nI i)), (0, .ref 50), (1, .int (nI id)), (2, .int (nI t)), (3, .int (nI r))]) ([.int 0]) (stt (nw (aCalls w)) τ) 0 0
        refine R_if ck_23_33 (fun _ => ?_) (fun c => absurd (show (0 : Int32) = 0 from by decide) c)
        refine R_seg sg_23_37 sk_23_37 (pc' := 42) (lv' := [(4, .int (nI i)), (0, .ref 50), (1, .int (nI id)), (2, .int (nI t)), (3, .int (nI r))]) (st' := [.int 1, .ref 1]) (S' := stt (nw (aCalls w)) τ) (kc' := 0) (ks' := 0) rfl ⟨trivial, rfl, trivial, trivial⟩ ?_
        refine R_virt ck_23_42 1 [.int 1] 0 0 (r := []) rfl rfl rfl (Nat.le_of_ble_eq_true rfl) (Nat.le_refl _) (Nat.le_refl _) ?_
        refine x_7 (d := d + 13) ?_
        rw [show (1 : Int32) = nI 1 from rfl, nw_goBy hA2 (by decide)]
        show RU_23 (d + 14) (0, 0) Post 45 ([(4, .int (nI i)), (0, .ref 50), (1, .int (nI id)), (2, .int (nI t)), (3, .int (nI r))]) ([]) (stt (nw (aGo 1 (aCalls w))) τ) 0 0
        refine R_seg sg_23_45 sk_23_45 (pc' := 46) (lv' := [(4, .int (nI i)), (0, .ref 50), (1, .int (nI id)), (2, .int (nI t)), (3, .int (nI r))]) (st' := [.ref 50]) (S' := stt (nw (aGo 1 (aCalls w))) τ) (kc' := 0) (ks' := 0) rfl ⟨trivial, trivial⟩ ?_
        refine R_virt ck_23_46 50 [] 0 0 (r := []) rfl rfl rfl (Nat.le_of_ble_eq_true rfl) (Nat.le_refl _) (Nat.le_refl _) ?_
        refine c_33 (d := d) M3 (by rw [aGo_k _ _ (by decide), aCalls_k M (by decide) (by decide)]; exact h24) ?_
        show RU_23 (d + 14) (0, 0) Post 49 ([(4, .int (nI i)), (0, .ref 50), (1, .int (nI id)), (2, .int (nI t)), (3, .int (nI r))]) ([]) (stt (nw (aBack (aGo 1 (aCalls w)))) τ) 0 0
        refine R_seg sg_23_49 sk_23_49 (pc' := 52) (lv' := [(4, .int ((nI i) + 1)), (0, .ref 50), (1, .int (nI id)), (2, .int (nI t)), (3, .int (nI r))]) (st' := []) (S' := stt (nw (aBack (aGo 1 (aCalls w)))) τ) (kc' := 0) (ks' := 0) rfl ⟨(by decide), trivial⟩ ?_
        refine R_goto ck_23_52 ?_
        refine Runs.lv (lv := [(4, .int ((nI i) + 1)), (0, .ref 50), (1, .int (nI id)), (2, .int (nI t)), (3, .int (nI r))]) ?_ _ (lvS_l (show ([4, 0, 1, 2, 3] : List Nat).Nodup from by decide) (by intro q hq; simp only [List.mem_cons, List.not_mem_nil, or_false] at hq; rcases hq with rfl | rfl | rfl | rfl | rfl <;> rfl))
        rw [nI_1 i]
        exact ih (i + 1) _ M4 (by rw [aBack_k M3 (by decide) (by decide) (by decide), aGo_k _ _ (by decide), aCalls_k M (by decide) (by decide)]; exact h24) hA4 (by rw [e14]; omega) (by omega) (by rw [rlp_s, if_neg hd] at hp; exact hp) (by omega)
set_option maxRecDepth 20000 in
theorem c_23 {d : Nat} {w : WW} {τ : Nat → Nat → Int64} {id t r : Nat} {Post : Option Value → Sto → Prop} (ht : t ≤ 200) (hid : id < 192) (hr : r ≤ 63) (B : BI w) (hT : TO w) (h0 : 0 < w 32 7 ∧ id / 32 = w 33 0 ∧ w 36 0 = 1) (hnow : w 1 4 + t ≤ 100000) (hp : Post none (stt (nw (aRun id t r w)) τ)) : Ex (d + 15) 23 [.ref 50, .int (nI id), .int (nI t), .int (nI r)] (stt (nw w) τ) 0 0 Post := by
  have M0 := aSet_mi B hT r
  have ho : OKn (aSet r w) 5 0 id := by
    unfold OKn
    rw [aSet_k r w (show 32 ≠ 42 ∧ 32 ≠ 50 ∧ 32 ≠ 51 ∧ 32 ≠ 52 ∧ 32 ≠ 54 by decide), aSet_k r w (show 33 ≠ 42 ∧ 33 ≠ 50 ∧ 33 ≠ 51 ∧ 33 ≠ 52 ∧ 33 ≠ 54 by decide), aSet_k r w (show 36 ≠ 42 ∧ 36 ≠ 50 ∧ 36 ≠ 51 ∧ 36 ≠ 52 ∧ 36 ≠ 54 by decide)]
    exact ⟨h0.1, hid, h0.2.1, by rw [h0.2.2]⟩
  have M1 := need_mi M0 ho
  refine en_23 (Nat.le_of_ble_eq_true rfl) ?_
  show RU_23 (d + 14) (0, 0) Post 0 ([(0, .ref 50), (1, .int (nI id)), (2, .int (nI t)), (3, .int (nI r))]) ([]) (stt (nw w) τ) 0 0
  refine R_seg sg_23_0 sk_23_0 (pc' := 1) (lv' := [(0, .ref 50), (1, .int (nI id)), (2, .int (nI t)), (3, .int (nI r))]) (st' := [.ref 50]) (S' := stt (nw w) τ) (kc' := 0) (ks' := 0) rfl ⟨trivial, trivial⟩ ?_
  refine R_virt ck_23_1 50 [] 0 0 (r := []) rfl rfl rfl (Nat.le_of_ble_eq_true rfl) (Nat.le_refl _) (Nat.le_refl _) ?_
  refine x_24 (d := d + 12) ?_
  rw [nw_clear]
  show RU_23 (d + 14) (0, 0) Post 4 ([(0, .ref 50), (1, .int (nI id)), (2, .int (nI t)), (3, .int (nI r))]) ([]) (stt (nw (aClear w)) τ) 0 0
  refine R_seg [(.aload_n 0, 1, 0, 0, 0, 0), (.iload_n 3, 1, 0, 0, 0, 0), (.putfield 47, 3, 5, 11, 0, 0)] (by decide +kernel) (pc' := 9) (lv' := [(0, .ref 50), (1, .int (nI id)), (2, .int (nI t)), (3, .int (nI r))]) (st' := []) (S' := stt (up2 (nw (aClear w)) 50 11 (nI r)) τ) (kc' := 0) (ks' := 0) rfl ⟨trivial, trivial, ⟨rfl, ⟨rfl, rfl⟩⟩, trivial⟩ ?_
  show RU_23 (d + 14) (0, 0) Post 9 ([(0, .ref 50), (1, .int (nI id)), (2, .int (nI t)), (3, .int (nI r))]) ([]) (stt (up2 (nw (aClear w)) 50 11 (nI r)) τ) 0 0
  rw [nw_up (w := aClear w) (k := 50) (i := 11) (v := nI r) (n := r) rfl]
  skip
  refine R_seg [(.aload_n 0, 1, 0, 0, 0, 0), (.iconst 0, 1, 0, 0, 0, 0), (.iload_n 1, 1, 0, 0, 0, 0), (.iconst 1, 1, 0, 0, 0, 1)] (by decide +kernel) (pc' := 13) (lv' := [(0, .ref 50), (1, .int (nI id)), (2, .int (nI t)), (3, .int (nI r))]) (st' := [.int 1, .int (nI id), .int 0, .ref 50]) (S' := stt (nw (up2 (aClear w) 50 11 r)) τ) (kc' := 0) (ks' := 0) rfl ⟨trivial, trivial, trivial, trivial, trivial⟩ ?_
  refine R_virt ck_23_13 50 [.int 0, .int (nI id), .int 1] 0 0 (r := []) rfl rfl rfl (Nat.le_of_ble_eq_true rfl) (Nat.le_refl _) (Nat.le_refl _) ?_
  refine c_need (d + 2) 5 0 id 1 (aSet r w) τ _ M0.1 M0.2.1 M0.2.2.1 M0.2.2.2.1 ho rfl ?_
  show RU_23 (d + 14) (0, 0) Post 16 ([(0, .ref 50), (1, .int (nI id)), (2, .int (nI t)), (3, .int (nI r))]) ([]) (stt (nw (need 5 0 id (aSet r w))) τ) 0 0
  refine R_seg sg_23_16 sk_23_16 (pc' := 19) (lv' := [(4, .int 0), (0, .ref 50), (1, .int (nI id)), (2, .int (nI t)), (3, .int (nI r))]) (st' := []) (S' := stt (nw (need 5 0 id (aSet r w))) τ) (kc' := 0) (ks' := 0) rfl ⟨trivial, (by decide), trivial⟩ ?_
  rw [← nI_0]
  exact l_23 ht (t + 1) 0 _ M1.1 (by rw [M1.2.1 24 (by decide), aSet_k r w (by decide)]; exact B.2.2.2.2.2.2.1) (by unfold AO; rw [M1.2.1 2 (by decide), M1.2.1 3 (by decide), M1.2.1 4 (by decide), M1.2.1 5 (by decide), aSet_k r w (by decide), aSet_k r w (by decide), aSet_k r w (by decide), aSet_k r w (by decide)]; exact B.2.2.2.2.2.1) (by rw [M1.2.1 1 (by decide), aSet_k r w (by decide)]; omega) (Nat.zero_le _) hp (by omega)
