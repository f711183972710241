/-! ===== the model tells ===== -/
def TCx (a : WW) : Prop := SO a ∧ TO a ∧ ZO a ∧ (∀ x, x < 192 → a 51 x ≤ 5 ∨ a 51 x = 10) ∧ CLA a ∧ NZ a
def SM (v t : WW) : Prop := (∀ k, k ≠ 57 → k ≠ 104 → t k = v k) ∧ ∀ i, i ≠ 59 → i ≠ 60 → t 57 i = v 57 i
theorem Rl.sm {a v t : WW} (hR : Rl a v) (s : SM v t) : Rl a t := by
  obtain ⟨⟨h1, h1b, h1c, ⟨h1d, h1e⟩, h1f, h1g⟩, h2, h3, h4, h5, h6, h7, h8⟩ := hR
  have e := s.1
  have e57 := s.2
  refine ⟨⟨fun p hp => ?_, ?_, fun h hh => ?_, ⟨?_, fun n hn => ?_⟩, ?_, ?_⟩, ?_, h3.fr (fun _ _ => rfl) (fun k hk => e k (by omega) (by omega)), ?_, ?_, ?_, ?_, ?_⟩
  · have hb : ∀ p, p ∈ EQA → p.1 ≠ 57 ∧ p.1 ≠ 104 := by decide
    rw [e p.1 (hb p hp).1 (hb p hp).2]; exact h1 p hp
  · rw [e57 10 (by decide) (by decide)]; exact h1b
  · rw [e 58 (by decide) (by decide), e 59 (by decide) (by decide), e 60 (by decide) (by decide), e 61 (by decide) (by decide), e 62 (by decide) (by decide)]; exact h1c h hh
  · rw [e57 35 (by decide) (by decide)]; exact h1d
  · rw [e 87 (by decide) (by decide), e 89 (by decide) (by decide), e 90 (by decide) (by decide), e 91 (by decide) (by decide)]; exact h1e n hn
  · rw [e57 49 (by decide) (by decide), e 82 (by decide) (by decide)]; exact h1f
  · rw [e57 49 (by decide) (by decide)]; exact h1g
  · unfold RT; rw [e57 1 (by decide) (by decide), e 85 (by decide) (by decide)]; exact h2
  · rw [e 81 (by decide) (by decide)]; exact h4
  · unfold RC; rw [e57 51 (by decide) (by decide), e 98 (by decide) (by decide), e 99 (by decide) (by decide), e 100 (by decide) (by decide), e 101 (by decide) (by decide), e 102 (by decide) (by decide), e 103 (by decide) (by decide)]; exact h5
  · unfold RQ; rw [e57 47 (by decide) (by decide), e57 50 (by decide) (by decide), e 97 (by decide) (by decide)]; exact h6
  · rw [e 94 (by decide) (by decide), e 95 (by decide) (by decide)]; exact h7
  · rw [e 96 (by decide) (by decide)]; exact h8
theorem tls_f {rc : Nat → Nat → Tel} {c : Nat} {lk : Nat → Nat} {j : Nat} (h : (tls rc c lk j).2.1 = false) : ∀ m, (tls rc c lk (j + m)).2.1 = false
  | 0 => h
  | m + 1 => by
    show ((tls rc c lk (j + m)).2.1 && _) = false
    rw [tls_f h m]
    rfl
/-- a told thing is null or known -/
theorem TCx.st {a v : WW} (C : TCx a) (hR : Rl a v) {n x : Nat} (hx : x < 192) (hm : mkd a n x) : (v 94 x = 4 ↔ ¬ a 51 x = 10) ∧ (v 94 x = 4 → v 95 x = a 51 x) ∧ v 94 x ≤ 4 := by
  have e := hR.2.2.2.2.2.2.1 x hx
  have z := C.2.2.2.2.2 x hx n hm
  have f := C.2.2.2.1 x hx
  refine ⟨?_, e.2, by rw [e.1]; exact sOf_le _⟩
  rw [e.1]
  unfold sOf
  (repeat' split) <;> omega
theorem TT_null {w : WW} {k n x : Nat} (h : ¬ w 51 x = 10) : TT w (k + 1) n x = ([0, w 51 x], false, true) := by rw [TT_s, if_neg h]
theorem TT_there {w : WW} {k n x : Nat} (h : w 51 x = 10) : (TT w (k + 1) n x).2.1 = false ↔ ∃ i, i < w 37 n ∧ bad w (TT w k) n x i := by
  rw [TT_s, if_pos h]
  split
  · rename_i q; exact ⟨fun _ => q, fun _ => rfl⟩
  · rename_i q; exact ⟨fun z => absurd (show true = false from z) (by decide), fun z => absurd z q⟩
theorem tls_1 (rc : Nat → Nat → Tel) (c : Nat) (lk : Nat → Nat) : tls rc c lk 1 = rc c (lk 0) := by
  simp [tls]
theorem nul_step {rc : Nat → Nat → Tel} {c : Nat} {lk : Nat → Nat} {j fl : Nat} (hfl : fl = bn (!(tls rc c lk j).2.1)) (h : fl = 0) : bn (!(rc c (lk j)).2.1) = bn (!(tls rc c lk (j + 1)).2.1) := by
  have z : (tls rc c lk j).2.1 = true := by
    rcases Bool.eq_false_or_eq_true ((tls rc c lk j).2.1) with y | y
    · exact y
    · rw [y] at hfl; rw [hfl] at h; exact absurd h (by decide)
  simp only [tls, z, Bool.true_and]
theorem nul_exit {rc : Nat → Nat → Tel} {c : Nat} {lk : Nat → Nat} {j lc fl : Nat} (hfl : fl = bn (!(tls rc c lk j).2.1)) (hj : j ≤ lc) (h : j = lc ∨ fl ≠ 0) : fl = bn (!(tls rc c lk lc).2.1) := by
  rcases h with h | h
  · rw [← h]; exact hfl
  · have z : (tls rc c lk j).2.1 = false := by
      rcases Bool.eq_false_or_eq_true ((tls rc c lk j).2.1) with y | y
      · rw [y] at hfl; exact absurd hfl h
      · exact y
    have z2 := tls_f z (lc - j)
    rw [show j + (lc - j) = lc by omega] at z2
    rw [hfl, z, z2]
theorem nul_leaf {a : WW} {k n x i fl : Nat} (hk10 : a 51 x = 10) (hfl : fl = 1 ↔ ∃ j, j < i ∧ bad a (TT a k) n x j) (hi : i ≤ a 37 n) (h1 : fl ≤ 1) (h : i = a 37 n ∨ fl ≠ 0) : nI fl = nI (bn (!(TT a (k + 1) n x).2.1)) := by
  by_cases z : fl = 1
  · obtain ⟨j, j1, j2⟩ := hfl.mp z
    rw [(TT_there hk10).mpr ⟨j, by omega, j2⟩, z]
    rfl
  · have e : i = a 37 n := by omega
    have y : (TT a (k + 1) n x).2.1 = true := by
      rcases Bool.eq_false_or_eq_true ((TT a (k + 1) n x).2.1) with y | y
      · exact y
      · exact absurd (hfl.mpr (by rw [e]; exact (TT_there hk10).mp y)) z
    rw [y, show fl = 0 by omega]
    rfl
def INS (d k : Nat) : Prop := ∀ (n x : Nat) (a v : WW) (τ : Nat → Nat → Int64) (Post : Option Value → Sto → Prop), TCx a → OKn a k n x → mkd a n x → Rl a v → Post (some (.int (nI (bn (!(TT a k n x).2.1))))) (stt (nw v) τ) → Ex (d + k + 2) 120 [.ref 57, .int (nI x), .int (nI n)] (stt (nw v) τ) 0 0 Post
set_option maxRecDepth 20000 in
theorem ml_120i {d k n x i : Nat} {a v : WW} {τ : Nat → Nat → Int64} {Post : Option Value → Sto → Prop} (hN : INS d k) (C : TCx a) (ho : OKn a (k + 1) n x) (hm : mkd a n x) (hk10 : a 51 x = 10) (hR : Rl a v) (hi : i < a 37 n) (hk2 : a 20 (x / 32 * 4 + a 38 (n * 6 + i)) = 2) (hk : ∀ fl, fl = bn (!(tls (TT a k) (a 39 (n * 6 + i)) (lkw a x (a 38 (n * 6 + i))) (lcw a x (a 38 (n * 6 + i)))).2.1) → RU_120 (d + k + 2) (0, 0) Post 220 [(4, .int (nI i)), (3, .int (nI fl)), (0, .ref 57), (1, .int (nI x)), (2, .int (nI n))] [] (stt (nw v) τ) 0 0) : ∀ (nn : Nat) (j fl : Nat), j ≤ lcw a x (a 38 (n * 6 + i)) → fl = bn (!(tls (TT a k) (a 39 (n * 6 + i)) (lkw a x (a 38 (n * 6 + i))) j).2.1) → lcw a x (a 38 (n * 6 + i)) - j < nn → RU_120 (d + k + 2) (0, 0) Post 171 [(8, .int (nI j)), (7, .int (nI (a 39 (n * 6 + i)))), (6, .int (nI (x / 32 * 4 + a 38 (n * 6 + i)))), (5, .int (nI (a 38 (n * 6 + i)))), (4, .int (nI i)), (3, .int (nI fl)), (0, .ref 57), (1, .int (nI x)), (2, .int (nI n))] [] (stt (nw v) τ) 0 0 := by
  intro nn
  induction nn with
  | zero => intro j fl hj hfl hms; exact absurd hms (by omega)
  | succ nn ih =>
    intro j fl hj hfl hms
    obtain ⟨hS, hT, hZ, hF, hCl, hNZ⟩ := id C
    have hx := ho.2.1
    have t0 := hT.2 n ho.1
    have hT1 := hT.1
    have t01 := t0.1
    have hn1 := ho.1
    have e90 := ((hR.1.2.2.2.1.2 n hn1).2.2 i hi).1
    have e91 := ((hR.1.2.2.2.1.2 n hn1).2.2 i hi).2
    have h38 : a 38 (n * 6 + i) < 4 := (t0.2 i hi).1
    have s1 := hS.2.1 (x / 32 * 4 + a 38 (n * 6 + i)) (by omega)
    have s2 := hS.2.2 (x * 4 + a 38 (n * 6 + i)) (by omega)
    have b23 := hZ.2 (x / 32 * 4 + a 38 (n * 6 + i)) (by omega)
    have hl := lcw_le hS hx h38
    have e73 := hR.1.q (73, 21) (by decide)
    have e79 := hR.1.q (79, 28) (by decide)
    have e74 := hR.1.q (74, 22) (by decide)
    have e80 := hR.1.q (80, 29) (by decide)
    have hmany : (if a 22 (x / 32 * 4 + a 38 (n * 6 + i)) ≤ a 28 (x * 4 + a 38 (n * 6 + i)) then a 22 (x / 32 * 4 + a 38 (n * 6 + i)) else a 28 (x * 4 + a 38 (n * 6 + i))) = lcw a x (a 38 (n * 6 + i)) := by unfold lcw; rw [if_neg (show ¬ a 20 (x / 32 * 4 + a 38 (n * 6 + i)) = 1 by omega), if_pos hk2]; (repeat' split) <;> omega
    have hfl1 : fl ≤ 1 := by rw [hfl]; unfold bn; split <;> omega
    have e79 : v 79 = a 28 := e79
    have e74 : v 74 = a 22 := e74
    have e80 : v 80 = a 29 := e80
    refine R_seg sg_120_171 sk_120_171 (pc' := 177) (lv' := [(8, .int (nI j)), (7, .int (nI (a 39 (n * 6 + i)))), (6, .int (nI (x / 32 * 4 + a 38 (n * 6 + i)))), (5, .int (nI (a 38 (n * 6 + i)))), (4, .int (nI i)), (3, .int (nI fl)), (0, .ref 57), (1, .int (nI x)), (2, .int (nI n))]) (st' := [.int (nI (a 38 (n * 6 + i))), .int (nI x), .ref 57, .int (nI j)]) (S' := stt (nw v) τ) (kc' := 0) (ks' := 0) rfl ⟨trivial, trivial, trivial, trivial, trivial⟩ ?_
    refine R_virt ck_120_177 57 [.int (nI x), .int (nI (a 38 (n * 6 + i)))] 0 0 (r := [.int (nI j)]) rfl rfl rfl (Nat.le_of_ble_eq_true rfl) (Nat.le_refl _) (Nat.le_refl _) ?_
    refine x_106 (d := d + k + 1) (σ := nw v) (n := a 28 (x * 4 + a 38 (n * 6 + i))) (m := a 22 (x / 32 * 4 + a 38 (n * 6 + i))) hx h38 (by rw [← e79]; rfl) (by omega) (by rw [← e74]; rfl) (by omega) ?_
    rw [show (if a 22 (x / 32 * 4 + a 38 (n * 6 + i)) ≤ a 28 (x * 4 + a 38 (n * 6 + i)) then a 22 (x / 32 * 4 + a 38 (n * 6 + i)) else a 28 (x * 4 + a 38 (n * 6 + i))) = lcw a x (a 38 (n * 6 + i)) from hmany]
    show RU_120 (d + k + 2) (0, 0) Post 180 ([(8, .int (nI j)), (7, .int (nI (a 39 (n * 6 + i)))), (6, .int (nI (x / 32 * 4 + a 38 (n * 6 + i)))), (5, .int (nI (a 38 (n * 6 + i)))), (4, .int (nI i)), (3, .int (nI fl)), (0, .ref 57), (1, .int (nI x)), (2, .int (nI n))]) ([.int (nI (lcw a x (a 38 (n * 6 + i)))), .int (nI j)]) (stt (nw v) τ) 0 0
    refine R_icmp ck_120_180 (fun (c_180 : (nI (lcw a x (a 38 (n * 6 + i)))) ≤ (nI j)) => ?_) (fun (c_180 : ¬ (nI (lcw a x (a 38 (n * 6 + i)))) ≤ (nI j)) => ?_)
    · have c_180 : (lcw a x (a 38 (n * 6 + i))) ≤ j := (nI_leI (a := (lcw a x (a 38 (n * 6 + i)))) (b := j) (by omega) (by omega)).mp c_180
      refine Runs.lv (lv := [(4, .int (nI i)), (3, .int (nI fl)), (0, .ref 57), (1, .int (nI x)), (2, .int (nI n))]) ?_ _ (lvS_l (show ([4, 3, 0, 1, 2] : List Nat).Nodup from by decide) (by intro q hq; simp only [List.mem_cons, List.not_mem_nil, or_false] at hq; rcases hq with rfl | rfl | rfl | rfl | rfl <;> rfl))
      exact hk fl (nul_exit hfl hj (by omega))
    · have c_180 : j < (lcw a x (a 38 (n * 6 + i))) := Nat.not_le.mp (fun zq => c_180 ((nI_leI (a := (lcw a x (a 38 (n * 6 + i)))) (b := j) (by omega) (by omega)).mpr zq))
      refine R_seg sg_120_183 sk_120_183 (pc' := 184) (lv' := [(8, .int (nI j)), (7, .int (nI (a 39 (n * 6 + i)))), (6, .int (nI (x / 32 * 4 + a 38 (n * 6 + i)))), (5, .int (nI (a 38 (n * 6 + i)))), (4, .int (nI i)), (3, .int (nI fl)), (0, .ref 57), (1, .int (nI x)), (2, .int (nI n))]) (st' := [.int (nI fl)]) (S' := stt (nw v) τ) (kc' := 0) (ks' := 0) rfl ⟨trivial, trivial⟩ ?_
      refine R_if ck_120_184 (fun (c_184 : ¬ (nI fl) = 0) => ?_) (fun (c_184 : ¬ ¬ (nI fl) = 0) => ?_)
      · have c_184 : ¬ fl = 0 := fun zq => c_184 ((nI_eq (a := fl) (b := 0) (by omega) (by omega)).mpr zq)
        refine Runs.lv (lv := [(4, .int (nI i)), (3, .int (nI fl)), (0, .ref 57), (1, .int (nI x)), (2, .int (nI n))]) ?_ _ (lvS_l (show ([4, 3, 0, 1, 2] : List Nat).Nodup from by decide) (by intro q hq; simp only [List.mem_cons, List.not_mem_nil, or_false] at hq; rcases hq with rfl | rfl | rfl | rfl | rfl <;> rfl))
        exact hk fl (nul_exit hfl hj (by omega))
      · have c_184 : fl = 0 := (nI_eq (a := fl) (b := 0) (by omega) (by omega)).mp (Classical.not_not.mp c_184)
        refine R_seg sg_120_187 sk_120_187 (pc' := 196) (lv' := [(8, .int (nI j)), (7, .int (nI (a 39 (n * 6 + i)))), (6, .int (nI (x / 32 * 4 + a 38 (n * 6 + i)))), (5, .int (nI (a 38 (n * 6 + i)))), (4, .int (nI i)), (3, .int (nI fl)), (0, .ref 57), (1, .int (nI x)), (2, .int (nI n))]) (st' := [.int (nI (x / 32 * 4 + a 38 (n * 6 + i))), .ref 73, .int 32, .ref 57]) (S' := stt (nw v) τ) (kc' := 0) (ks' := 0) rfl ⟨trivial, trivial, trivial, rfl, trivial, trivial⟩ ?_
        refine R_iald ca_120_196 (j := x / 32 * 4 + a 38 (n * 6 + i)) rfl rfl (by omega) ?_
        refine R_seg sg_120_197 sk_120_197 (pc' := 204) (lv' := [(8, .int (nI j)), (7, .int (nI (a 39 (n * 6 + i)))), (6, .int (nI (x / 32 * 4 + a 38 (n * 6 + i)))), (5, .int (nI (a 38 (n * 6 + i)))), (4, .int (nI i)), (3, .int (nI fl)), (0, .ref 57), (1, .int (nI x)), (2, .int (nI n))]) (st' := [.int (nI j), .int (nI (a 38 (n * 6 + i))), .int (nI x), .ref 57, .int (32 * (nI (v 73 (x / 32 * 4 + a 38 (n * 6 + i))))), .ref 57]) (S' := stt (nw v) τ) (kc' := 0) (ks' := 0) rfl ⟨trivial, trivial, trivial, trivial, trivial, trivial⟩ ?_
        refine R_virt ck_120_204 57 [.int (nI x), .int (nI (a 38 (n * 6 + i))), .int (nI j)] 0 0 (r := [.int (32 * (nI (v 73 (x / 32 * 4 + a 38 (n * 6 + i))))), .ref 57]) rfl rfl rfl (Nat.le_of_ble_eq_true rfl) (Nat.le_refl _) (Nat.le_refl _) ?_
        refine x_107 (d := d + k + 1) (σ := nw v) hx h38 (j := j) (by omega) ?_
        rw [show nw v 80 (x * 4 + a 38 (n * 6 + i)) = nI (a 29 (x * 4 + a 38 (n * 6 + i))) from by rw [← e80]; rfl]
        show RU_120 (d + k + 2) (0, 0) Post 207 ([(8, .int (nI j)), (7, .int (nI (a 39 (n * 6 + i)))), (6, .int (nI (x / 32 * 4 + a 38 (n * 6 + i)))), (5, .int (nI (a 38 (n * 6 + i)))), (4, .int (nI i)), (3, .int (nI fl)), (0, .ref 57), (1, .int (nI x)), (2, .int (nI n))]) ([.int (nI (rk (nI (a 29 (x * 4 + a 38 (n * 6 + i)))) j)), .int (32 * (nI (v 73 (x / 32 * 4 + a 38 (n * 6 + i))))), .ref 57]) (stt (nw v) τ) 0 0
        refine R_seg sg_120_207 sk_120_207 (pc' := 210) (lv' := [(8, .int (nI j)), (7, .int (nI (a 39 (n * 6 + i)))), (6, .int (nI (x / 32 * 4 + a 38 (n * 6 + i)))), (5, .int (nI (a 38 (n * 6 + i)))), (4, .int (nI i)), (3, .int (nI fl)), (0, .ref 57), (1, .int (nI x)), (2, .int (nI n))]) (st' := [.int (nI (a 39 (n * 6 + i))), .int ((32 * (nI (v 73 (x / 32 * 4 + a 38 (n * 6 + i))))) + (nI (rk (nI (a 29 (x * 4 + a 38 (n * 6 + i)))) j))), .ref 57]) (S' := stt (nw v) τ) (kc' := 0) (ks' := 0) rfl ⟨trivial, trivial, trivial⟩ ?_
        rw [show (32 : Int32) * nI (v 73 (x / 32 * 4 + a 38 (n * 6 + i))) + nI (rk (nI (a 29 (x * 4 + a 38 (n * 6 + i)))) j) = nI (lkw a x (a 38 (n * 6 + i)) j) from by rw [e73]; unfold lkw; rw [if_neg (by omega)]; rw [show (32 : Int32) = nI 32 from rfl, pk_mul, nI_add, Nat.mul_comm]]
        refine R_virt ck_120_210 57 [.int (nI (lkw a x (a 38 (n * 6 + i)) j)), .int (nI (a 39 (n * 6 + i)))] 0 0 (r := []) rfl rfl rfl (Nat.le_of_ble_eq_true rfl) (Nat.le_refl _) (Nat.le_refl _) ?_
        refine hN (a 39 (n * 6 + i)) (lkw a x (a 38 (n * 6 + i)) j) a v τ _ C (ho.child hS hT hi c_180) (hCl n x hx hm hk10 i hi j c_180) hR ?_
        show RU_120 (d + k + 2) (0, 0) Post 213 ([(8, .int (nI j)), (7, .int (nI (a 39 (n * 6 + i)))), (6, .int (nI (x / 32 * 4 + a 38 (n * 6 + i)))), (5, .int (nI (a 38 (n * 6 + i)))), (4, .int (nI i)), (3, .int (nI fl)), (0, .ref 57), (1, .int (nI x)), (2, .int (nI n))]) ([.int (nI (bn (!(TT a k (a 39 (n * 6 + i)) (lkw a x (a 38 (n * 6 + i)) j)).2.1)))]) (stt (nw v) τ) 0 0
        refine R_seg sg_120_213 sk_120_213 (pc' := 217) (lv' := [(8, .int ((nI j) + 1)), (3, .int (nI (bn (!(TT a k (a 39 (n * 6 + i)) (lkw a x (a 38 (n * 6 + i)) j)).2.1)))), (7, .int (nI (a 39 (n * 6 + i)))), (6, .int (nI (x / 32 * 4 + a 38 (n * 6 + i)))), (5, .int (nI (a 38 (n * 6 + i)))), (4, .int (nI i)), (0, .ref 57), (1, .int (nI x)), (2, .int (nI n))]) (st' := []) (S' := stt (nw v) τ) (kc' := 0) (ks' := 0) rfl ⟨(by decide), (by decide), trivial⟩ ?_
        refine R_goto ck_120_217 ?_
        refine Runs.lv (lv := [(8, .int ((nI j) + 1)), (7, .int (nI (a 39 (n * 6 + i)))), (6, .int (nI (x / 32 * 4 + a 38 (n * 6 + i)))), (5, .int (nI (a 38 (n * 6 + i)))), (4, .int (nI i)), (3, .int (nI (bn (!(TT a k (a 39 (n * 6 + i)) (lkw a x (a 38 (n * 6 + i)) j)).2.1)))), (0, .ref 57), (1, .int (nI x)), (2, .int (nI n))]) ?_ _ (lvS_l (show ([8, 7, 6, 5, 4, 3, 0, 1, 2] : List Nat).Nodup from by decide) (by intro q hq; simp only [List.mem_cons, List.not_mem_nil, or_false] at hq; rcases hq with rfl | rfl | rfl | rfl | rfl | rfl | rfl | rfl | rfl <;> rfl))
        rw [nI_1 j]
        exact ih (j + 1) _ (by omega) (nul_step hfl c_184) (by omega)
set_option maxRecDepth 20000 in
theorem ml_120 {d k n x : Nat} {a v : WW} {τ : Nat → Nat → Int64} {Post : Option Value → Sto → Prop} (hN : INS d k) (C : TCx a) (ho : OKn a (k + 1) n x) (hm : mkd a n x) (hk10 : a 51 x = 10) (hR : Rl a v) (hp : Post (some (.int (nI (bn (!(TT a (k + 1) n x).2.1))))) (stt (nw v) τ)) : ∀ (nn : Nat) (i fl : Nat), i ≤ a 37 n → fl ≤ 1 → (fl = 1 ↔ ∃ j, j < i ∧ bad a (TT a k) n x j) → a 37 n - i < nn → RU_120 (d + k + 2) (0, 0) Post 17 [(4, .int (nI i)), (3, .int (nI fl)), (0, .ref 57), (1, .int (nI x)), (2, .int (nI n))] [] (stt (nw v) τ) 0 0 := by
  intro nn
  induction nn with
  | zero => intro i fl hi hfl1 hfl hms; exact absurd hms (by omega)
  | succ nn ih =>
    intro i fl hi hfl1 hfl hms
    obtain ⟨hS, hT, hZ, hF, hCl, hNZ⟩ := id C
    have hx := ho.2.1
    have t0 := hT.2 n ho.1
    have hT1 := hT.1
    have t01 := t0.1
    have hn1 := ho.1
    have e72 := hR.1.q (72, 20) (by decide)
    have e73 := hR.1.q (73, 21) (by decide)
    have e78 := hR.1.q (78, 27) (by decide)
    have e75 := hR.1.q (75, 23) (by decide)
    have e77 := hR.1.q (77, 26) (by decide)
    have e89 : v 89 n = a 37 n := (hR.1.2.2.2.1.2 n hn1).2.1
    refine R_seg sg_120_17 sk_120_17 (pc' := 24) (lv' := [(4, .int (nI i)), (3, .int (nI fl)), (0, .ref 57), (1, .int (nI x)), (2, .int (nI n))]) (st' := [.int (nI n), .ref 89, .int (nI i)]) (S' := stt (nw v) τ) (kc' := 0) (ks' := 0) rfl ⟨trivial, trivial, rfl, trivial, trivial⟩ ?_
    refine R_iald ca_120_24 (j := n) rfl rfl (by omega) ?_
    show RU_120 (d + k + 2) (0, 0) Post 25 ([(4, .int (nI i)), (3, .int (nI fl)), (0, .ref 57), (1, .int (nI x)), (2, .int (nI n))]) ([.int (nI (v 89 n)), .int (nI i)]) (stt (nw v) τ) 0 0
    rw [e89]
    refine R_icmp ck_120_25 (fun (c_25 : (nI (a 37 n)) ≤ (nI i)) => ?_) (fun (c_25 : ¬ (nI (a 37 n)) ≤ (nI i)) => ?_)
    · have c_25 : (a 37 n) ≤ i := (nI_leI (a := (a 37 n)) (b := i) (by omega) (by omega)).mp c_25
      refine R_seg sg_120_226 sk_120_226 (pc' := 227) (lv' := [(4, .int (nI i)), (3, .int (nI fl)), (0, .ref 57), (1, .int (nI x)), (2, .int (nI n))]) (st' := [.int (nI fl)]) (S' := stt (nw v) τ) (kc' := 0) (ks' := 0) rfl ⟨trivial, trivial⟩ ?_
      refine R_iret ck_120_227 rfl (by rcases (show fl = 0 ∨ fl = 1 by omega) with z | z <;> rw [z] <;> rfl) ?_
      rw [nul_leaf hk10 hfl hi hfl1 (by omega)]
      exact hp
    · have c_25 : i < (a 37 n) := Nat.not_le.mp (fun zq => c_25 ((nI_leI (a := (a 37 n)) (b := i) (by omega) (by omega)).mpr zq))
      have e90 := ((hR.1.2.2.2.1.2 n hn1).2.2 i c_25).1
      have e91 := ((hR.1.2.2.2.1.2 n hn1).2.2 i c_25).2
      have h38 : a 38 (n * 6 + i) < 4 := (t0.2 i c_25).1
      have s1 := hS.2.1 (x / 32 * 4 + a 38 (n * 6 + i)) (by omega)
      have s2 := hS.2.2 (x * 4 + a 38 (n * 6 + i)) (by omega)
      have b23 := hZ.2 (x / 32 * 4 + a 38 (n * 6 + i)) (by omega)
      have hl := lcw_le hS hx h38
      have hsh : (∃ j, j < i + 1 ∧ bad a (TT a k) n x j) → ¬ bad a (TT a k) n x i → fl = 1 := fun ⟨j, j1, j2⟩ hb => by
        rcases Nat.lt_or_ge j i with y | y
        · exact hfl.mpr ⟨j, y, j2⟩
        · rw [show i = j by omega] at hb; exact absurd j2 hb
      refine R_seg sg_120_28 sk_120_28 (pc' := 29) (lv' := [(4, .int (nI i)), (3, .int (nI fl)), (0, .ref 57), (1, .int (nI x)), (2, .int (nI n))]) (st' := [.int (nI fl)]) (S' := stt (nw v) τ) (kc' := 0) (ks' := 0) rfl ⟨trivial, trivial⟩ ?_
      refine R_if ck_120_29 (fun (c_29 : ¬ (nI fl) = 0) => ?_) (fun (c_29 : ¬ ¬ (nI fl) = 0) => ?_)
      · have c_29 : ¬ fl = 0 := fun zq => c_29 ((nI_eq (a := fl) (b := 0) (by omega) (by omega)).mpr zq)
        refine R_seg sg_120_226 sk_120_226 (pc' := 227) (lv' := [(4, .int (nI i)), (3, .int (nI fl)), (0, .ref 57), (1, .int (nI x)), (2, .int (nI n))]) (st' := [.int (nI fl)]) (S' := stt (nw v) τ) (kc' := 0) (ks' := 0) rfl ⟨trivial, trivial⟩ ?_
        refine R_iret ck_120_227 rfl (by rcases (show fl = 0 ∨ fl = 1 by omega) with z | z <;> rw [z] <;> rfl) ?_
        rw [nul_leaf hk10 hfl hi hfl1 (by omega)]
        exact hp
      · have c_29 : fl = 0 := (nI_eq (a := fl) (b := 0) (by omega) (by omega)).mp (Classical.not_not.mp c_29)
        have hf0 : fl = 0 := by omega
        refine R_seg sg_120_32 sk_120_32 (pc' := 43) (lv' := [(4, .int (nI i)), (3, .int (nI fl)), (0, .ref 57), (1, .int (nI x)), (2, .int (nI n))]) (st' := [.int ((6 * (nI n)) + (nI i)), .ref 90]) (S' := stt (nw v) τ) (kc' := 0) (ks' := 0) rfl ⟨trivial, rfl, trivial, trivial, trivial, trivial, trivial, trivial⟩ ?_
        refine R_iald ca_120_43 (j := 6 * n + i) rfl (by first | (simp only [nl_0, nl_1, nl_2, nl_3, nl_4, nl_5, nl_6, nl_8, nl_20, nl_31, nl_32, pk_mul, nI_add]; done) | (simp only [nl_0, nl_1, nl_2, nl_3, nl_4, nl_5, nl_6, nl_8, nl_20, nl_31, nl_32, pk_mul, nI_add]; congr 1; omega)) (by omega) ?_
        show RU_120 (d + k + 2) (0, 0) Post 44 ([(4, .int (nI i)), (3, .int (nI fl)), (0, .ref 57), (1, .int (nI x)), (2, .int (nI n))]) ([.int (nI (v 90 (6 * n + i)))]) (stt (nw v) τ) 0 0
        rw [e90]
        refine R_seg sg_120_44 sk_120_44 (pc' := 68) (lv' := [(6, .int ((4 * ((nI x) / 32)) + (nI (a 38 (n * 6 + i))))), (5, .int (nI (a 38 (n * 6 + i)))), (4, .int (nI i)), (3, .int (nI fl)), (0, .ref 57), (1, .int (nI x)), (2, .int (nI n))]) (st' := [.int ((6 * (nI n)) + (nI i)), .ref 91]) (S' := stt (nw v) τ) (kc' := 0) (ks' := 0) rfl ⟨(by decide), trivial, trivial, trivial, (by decide), trivial, trivial, trivial, (by decide), trivial, rfl, trivial, trivial, trivial, trivial, trivial, trivial⟩ ?_
        rw [show (4 : Int32) * (nI x / 32) + nI (a 38 (n * 6 + i)) = nI (x / 32 * 4 + a 38 (n * 6 + i)) from by rw [show nI x / 32 = nI (x / 32) from pk_div (d := 32) (by omega) (by omega) (by omega), show (4 : Int32) = nI 4 from rfl, pk_mul, nI_add, Nat.mul_comm]]
        refine R_iald ca_120_68 (j := 6 * n + i) rfl (by first | (simp only [nl_0, nl_1, nl_2, nl_3, nl_4, nl_5, nl_6, nl_8, nl_20, nl_31, nl_32, pk_mul, nI_add]; done) | (simp only [nl_0, nl_1, nl_2, nl_3, nl_4, nl_5, nl_6, nl_8, nl_20, nl_31, nl_32, pk_mul, nI_add]; congr 1; omega)) (by omega) ?_
        show RU_120 (d + k + 2) (0, 0) Post 69 ([(6, .int (nI (x / 32 * 4 + a 38 (n * 6 + i)))), (5, .int (nI (a 38 (n * 6 + i)))), (4, .int (nI i)), (3, .int (nI fl)), (0, .ref 57), (1, .int (nI x)), (2, .int (nI n))]) ([.int (nI (v 91 (6 * n + i)))]) (stt (nw v) τ) 0 0
        rw [e91]
        refine R_seg sg_120_69 sk_120_69 (pc' := 77) (lv' := [(7, .int (nI (a 39 (n * 6 + i)))), (6, .int (nI (x / 32 * 4 + a 38 (n * 6 + i)))), (5, .int (nI (a 38 (n * 6 + i)))), (4, .int (nI i)), (3, .int (nI fl)), (0, .ref 57), (1, .int (nI x)), (2, .int (nI n))]) (st' := [.int (nI (x / 32 * 4 + a 38 (n * 6 + i))), .ref 75]) (S' := stt (nw v) τ) (kc' := 0) (ks' := 0) rfl ⟨(by decide), trivial, rfl, trivial, trivial⟩ ?_
        refine R_bald ca_120_77 (j := x / 32 * 4 + a 38 (n * 6 + i)) rfl rfl (by omega) ?_
        show RU_120 (d + k + 2) (0, 0) Post 78 ([(7, .int (nI (a 39 (n * 6 + i)))), (6, .int (nI (x / 32 * 4 + a 38 (n * 6 + i)))), (5, .int (nI (a 38 (n * 6 + i)))), (4, .int (nI i)), (3, .int (nI fl)), (0, .ref 57), (1, .int (nI x)), (2, .int (nI n))]) ([.int (nI (v 75 (x / 32 * 4 + a 38 (n * 6 + i))))]) (stt (nw v) τ) 0 0
        rw [e75]
        refine R_if ck_120_78 (fun (c_78 : (nI (a 23 (x / 32 * 4 + a 38 (n * 6 + i)))) = 0) => ?_) (fun (c_78 : ¬ (nI (a 23 (x / 32 * 4 + a 38 (n * 6 + i)))) = 0) => ?_)
        · have c_78 : (a 23 (x / 32 * 4 + a 38 (n * 6 + i))) = 0 := (nI_eq (a := (a 23 (x / 32 * 4 + a 38 (n * 6 + i)))) (b := 0) (by omega) (by omega)).mp c_78
          skip
          refine R_seg sg_120_147 sk_120_147 (pc' := 153) (lv' := [(7, .int (nI (a 39 (n * 6 + i)))), (6, .int (nI (x / 32 * 4 + a 38 (n * 6 + i)))), (5, .int (nI (a 38 (n * 6 + i)))), (4, .int (nI i)), (3, .int (nI fl)), (0, .ref 57), (1, .int (nI x)), (2, .int (nI n))]) (st' := [.int (nI (x / 32 * 4 + a 38 (n * 6 + i))), .ref 75]) (S' := stt (nw v) τ) (kc' := 0) (ks' := 0) rfl ⟨trivial, rfl, trivial, trivial⟩ ?_
          refine R_bald ca_120_153 (j := x / 32 * 4 + a 38 (n * 6 + i)) rfl rfl (by omega) ?_
          show RU_120 (d + k + 2) (0, 0) Post 154 ([(7, .int (nI (a 39 (n * 6 + i)))), (6, .int (nI (x / 32 * 4 + a 38 (n * 6 + i)))), (5, .int (nI (a 38 (n * 6 + i)))), (4, .int (nI i)), (3, .int (nI fl)), (0, .ref 57), (1, .int (nI x)), (2, .int (nI n))]) ([.int (nI (v 75 (x / 32 * 4 + a 38 (n * 6 + i))))]) (stt (nw v) τ) 0 0
          rw [e75]
          refine R_if ck_120_154 (fun (c_154 : (nI (a 23 (x / 32 * 4 + a 38 (n * 6 + i)))) = 0) => ?_) (fun (c_154 : ¬ (nI (a 23 (x / 32 * 4 + a 38 (n * 6 + i)))) = 0) => ?_)
          · have c_154 : (a 23 (x / 32 * 4 + a 38 (n * 6 + i))) = 0 := (nI_eq (a := (a 23 (x / 32 * 4 + a 38 (n * 6 + i)))) (b := 0) (by omega) (by omega)).mp c_154
            have hbad : ¬ bad a (TT a k) n x i := fun z => z.2 c_154
            refine R_seg sg_120_220 sk_120_220 (pc' := 223) (lv' := [(4, .int ((nI i) + 1)), (7, .int (nI (a 39 (n * 6 + i)))), (6, .int (nI (x / 32 * 4 + a 38 (n * 6 + i)))), (5, .int (nI (a 38 (n * 6 + i)))), (3, .int (nI fl)), (0, .ref 57), (1, .int (nI x)), (2, .int (nI n))]) (st' := []) (S' := stt (nw v) τ) (kc' := 0) (ks' := 0) rfl ⟨(by decide), trivial⟩ ?_
            refine R_goto ck_120_223 ?_
            refine Runs.lv (lv := [(4, .int ((nI i) + 1)), (3, .int (nI fl)), (0, .ref 57), (1, .int (nI x)), (2, .int (nI n))]) ?_ _ (lvS_l (show ([4, 3, 0, 1, 2] : List Nat).Nodup from by decide) (by intro q hq; simp only [List.mem_cons, List.not_mem_nil, or_false] at hq; rcases hq with rfl | rfl | rfl | rfl | rfl <;> rfl))
            rw [nI_1 i]
            exact ih (i + 1) fl (by omega) (by omega) ⟨fun z => absurd z (by omega), fun z => absurd (hsh z hbad) (by omega)⟩ (by omega)
          · have c_154 : ¬ (a 23 (x / 32 * 4 + a 38 (n * 6 + i))) = 0 := fun zq => c_154 ((nI_eq (a := (a 23 (x / 32 * 4 + a 38 (n * 6 + i)))) (b := 0) (by omega) (by omega)).mpr zq)
            exact absurd c_78 c_154
        · have c_78 : ¬ (a 23 (x / 32 * 4 + a 38 (n * 6 + i))) = 0 := fun zq => c_78 ((nI_eq (a := (a 23 (x / 32 * 4 + a 38 (n * 6 + i)))) (b := 0) (by omega) (by omega)).mpr zq)
          skip
          refine R_seg sg_120_81 sk_120_81 (pc' := 87) (lv' := [(7, .int (nI (a 39 (n * 6 + i)))), (6, .int (nI (x / 32 * 4 + a 38 (n * 6 + i)))), (5, .int (nI (a 38 (n * 6 + i)))), (4, .int (nI i)), (3, .int (nI fl)), (0, .ref 57), (1, .int (nI x)), (2, .int (nI n))]) (st' := [.int (nI (x / 32 * 4 + a 38 (n * 6 + i))), .ref 72]) (S' := stt (nw v) τ) (kc' := 0) (ks' := 0) rfl ⟨trivial, rfl, trivial, trivial⟩ ?_
          refine R_iald ca_120_87 (j := x / 32 * 4 + a 38 (n * 6 + i)) rfl rfl (by omega) ?_
          show RU_120 (d + k + 2) (0, 0) Post 88 ([(7, .int (nI (a 39 (n * 6 + i)))), (6, .int (nI (x / 32 * 4 + a 38 (n * 6 + i)))), (5, .int (nI (a 38 (n * 6 + i)))), (4, .int (nI i)), (3, .int (nI fl)), (0, .ref 57), (1, .int (nI x)), (2, .int (nI n))]) ([.int (nI (v 72 (x / 32 * 4 + a 38 (n * 6 + i))))]) (stt (nw v) τ) 0 0
          rw [e72]
          refine R_seg sg_120_88 sk_120_88 (pc' := 89) (lv' := [(7, .int (nI (a 39 (n * 6 + i)))), (6, .int (nI (x / 32 * 4 + a 38 (n * 6 + i)))), (5, .int (nI (a 38 (n * 6 + i)))), (4, .int (nI i)), (3, .int (nI fl)), (0, .ref 57), (1, .int (nI x)), (2, .int (nI n))]) (st' := [.int 1, .int (nI (a 20 (x / 32 * 4 + a 38 (n * 6 + i))))]) (S' := stt (nw v) τ) (kc' := 0) (ks' := 0) rfl ⟨trivial, trivial⟩ ?_
          refine R_icmp ck_120_89 (fun (c_89 : ¬ (nI (a 20 (x / 32 * 4 + a 38 (n * 6 + i)))) = 1) => ?_) (fun (c_89 : ¬ ¬ (nI (a 20 (x / 32 * 4 + a 38 (n * 6 + i)))) = 1) => ?_)
          · have c_89 : ¬ (a 20 (x / 32 * 4 + a 38 (n * 6 + i))) = 1 := fun zq => c_89 ((nI_eq (a := (a 20 (x / 32 * 4 + a 38 (n * 6 + i)))) (b := 1) (by omega) (by omega)).mpr zq)
            skip
            refine R_seg sg_120_147 sk_120_147 (pc' := 153) (lv' := [(7, .int (nI (a 39 (n * 6 + i)))), (6, .int (nI (x / 32 * 4 + a 38 (n * 6 + i)))), (5, .int (nI (a 38 (n * 6 + i)))), (4, .int (nI i)), (3, .int (nI fl)), (0, .ref 57), (1, .int (nI x)), (2, .int (nI n))]) (st' := [.int (nI (x / 32 * 4 + a 38 (n * 6 + i))), .ref 75]) (S' := stt (nw v) τ) (kc' := 0) (ks' := 0) rfl ⟨trivial, rfl, trivial, trivial⟩ ?_
            refine R_bald ca_120_153 (j := x / 32 * 4 + a 38 (n * 6 + i)) rfl rfl (by omega) ?_
            show RU_120 (d + k + 2) (0, 0) Post 154 ([(7, .int (nI (a 39 (n * 6 + i)))), (6, .int (nI (x / 32 * 4 + a 38 (n * 6 + i)))), (5, .int (nI (a 38 (n * 6 + i)))), (4, .int (nI i)), (3, .int (nI fl)), (0, .ref 57), (1, .int (nI x)), (2, .int (nI n))]) ([.int (nI (v 75 (x / 32 * 4 + a 38 (n * 6 + i))))]) (stt (nw v) τ) 0 0
            rw [e75]
            refine R_if ck_120_154 (fun (c_154 : (nI (a 23 (x / 32 * 4 + a 38 (n * 6 + i)))) = 0) => ?_) (fun (c_154 : ¬ (nI (a 23 (x / 32 * 4 + a 38 (n * 6 + i)))) = 0) => ?_)
            · have c_154 : (a 23 (x / 32 * 4 + a 38 (n * 6 + i))) = 0 := (nI_eq (a := (a 23 (x / 32 * 4 + a 38 (n * 6 + i)))) (b := 0) (by omega) (by omega)).mp c_154
              exact absurd c_154 c_78
            · have c_154 : ¬ (a 23 (x / 32 * 4 + a 38 (n * 6 + i))) = 0 := fun zq => c_154 ((nI_eq (a := (a 23 (x / 32 * 4 + a 38 (n * 6 + i)))) (b := 0) (by omega) (by omega)).mpr zq)
              skip
              refine R_seg sg_120_157 sk_120_157 (pc' := 163) (lv' := [(7, .int (nI (a 39 (n * 6 + i)))), (6, .int (nI (x / 32 * 4 + a 38 (n * 6 + i)))), (5, .int (nI (a 38 (n * 6 + i)))), (4, .int (nI i)), (3, .int (nI fl)), (0, .ref 57), (1, .int (nI x)), (2, .int (nI n))]) (st' := [.int (nI (x / 32 * 4 + a 38 (n * 6 + i))), .ref 72]) (S' := stt (nw v) τ) (kc' := 0) (ks' := 0) rfl ⟨trivial, rfl, trivial, trivial⟩ ?_
              refine R_iald ca_120_163 (j := x / 32 * 4 + a 38 (n * 6 + i)) rfl rfl (by omega) ?_
              show RU_120 (d + k + 2) (0, 0) Post 164 ([(7, .int (nI (a 39 (n * 6 + i)))), (6, .int (nI (x / 32 * 4 + a 38 (n * 6 + i)))), (5, .int (nI (a 38 (n * 6 + i)))), (4, .int (nI i)), (3, .int (nI fl)), (0, .ref 57), (1, .int (nI x)), (2, .int (nI n))]) ([.int (nI (v 72 (x / 32 * 4 + a 38 (n * 6 + i))))]) (stt (nw v) τ) 0 0
              rw [e72]
              refine R_seg sg_120_164 sk_120_164 (pc' := 165) (lv' := [(7, .int (nI (a 39 (n * 6 + i)))), (6, .int (nI (x / 32 * 4 + a 38 (n * 6 + i)))), (5, .int (nI (a 38 (n * 6 + i)))), (4, .int (nI i)), (3, .int (nI fl)), (0, .ref 57), (1, .int (nI x)), (2, .int (nI n))]) (st' := [.int 2, .int (nI (a 20 (x / 32 * 4 + a 38 (n * 6 + i))))]) (S' := stt (nw v) τ) (kc' := 0) (ks' := 0) rfl ⟨trivial, trivial⟩ ?_
              refine R_icmp ck_120_165 (fun (c_165 : ¬ (nI (a 20 (x / 32 * 4 + a 38 (n * 6 + i)))) = 2) => ?_) (fun (c_165 : ¬ ¬ (nI (a 20 (x / 32 * 4 + a 38 (n * 6 + i)))) = 2) => ?_)
              · have c_165 : ¬ (a 20 (x / 32 * 4 + a 38 (n * 6 + i))) = 2 := fun zq => c_165 ((nI_eq (a := (a 20 (x / 32 * 4 + a 38 (n * 6 + i)))) (b := 2) (by omega) (by omega)).mpr zq)
                have hbad : ¬ bad a (TT a k) n x i := fun z => by have y := z.1; unfold tfd at y; rw [if_pos (by omega)] at y; exact absurd (show true = false from y) (by decide)
                refine R_seg sg_120_220 sk_120_220 (pc' := 223) (lv' := [(4, .int ((nI i) + 1)), (7, .int (nI (a 39 (n * 6 + i)))), (6, .int (nI (x / 32 * 4 + a 38 (n * 6 + i)))), (5, .int (nI (a 38 (n * 6 + i)))), (3, .int (nI fl)), (0, .ref 57), (1, .int (nI x)), (2, .int (nI n))]) (st' := []) (S' := stt (nw v) τ) (kc' := 0) (ks' := 0) rfl ⟨(by decide), trivial⟩ ?_
                refine R_goto ck_120_223 ?_
                refine Runs.lv (lv := [(4, .int ((nI i) + 1)), (3, .int (nI fl)), (0, .ref 57), (1, .int (nI x)), (2, .int (nI n))]) ?_ _ (lvS_l (show ([4, 3, 0, 1, 2] : List Nat).Nodup from by decide) (by intro q hq; simp only [List.mem_cons, List.not_mem_nil, or_false] at hq; rcases hq with rfl | rfl | rfl | rfl | rfl <;> rfl))
                rw [nI_1 i]
                exact ih (i + 1) fl (by omega) (by omega) ⟨fun z => absurd z (by omega), fun z => absurd (hsh z hbad) (by omega)⟩ (by omega)
              · have c_165 : (a 20 (x / 32 * 4 + a 38 (n * 6 + i))) = 2 := (nI_eq (a := (a 20 (x / 32 * 4 + a 38 (n * 6 + i)))) (b := 2) (by omega) (by omega)).mp (Classical.not_not.mp c_165)
                refine R_seg sg_120_168 sk_120_168 (pc' := 171) (lv' := [(8, .int 0), (7, .int (nI (a 39 (n * 6 + i)))), (6, .int (nI (x / 32 * 4 + a 38 (n * 6 + i)))), (5, .int (nI (a 38 (n * 6 + i)))), (4, .int (nI i)), (3, .int (nI fl)), (0, .ref 57), (1, .int (nI x)), (2, .int (nI n))]) (st' := []) (S' := stt (nw v) τ) (kc' := 0) (ks' := 0) rfl ⟨trivial, (by decide), trivial⟩ ?_
                refine Runs.lv (lv := [(8, .int 0), (7, .int (nI (a 39 (n * 6 + i)))), (6, .int (nI (x / 32 * 4 + a 38 (n * 6 + i)))), (5, .int (nI (a 38 (n * 6 + i)))), (4, .int (nI i)), (3, .int (nI fl)), (0, .ref 57), (1, .int (nI x)), (2, .int (nI n))]) ?_ _ (lvS_l (show ([8, 7, 6, 5, 4, 3, 0, 1, 2] : List Nat).Nodup from by decide) (by intro q hq; simp only [List.mem_cons, List.not_mem_nil, or_false] at hq; rcases hq with rfl | rfl | rfl | rfl | rfl | rfl | rfl | rfl | rfl <;> rfl))
                rw [← nI_0]
                refine ml_120i hN C ho hm hk10 hR c_25 c_165 (fun fl2 hfl2 => ?_) (lcw a x (a 38 (n * 6 + i)) + 1) 0 fl (Nat.zero_le _) (by rw [hf0]; rfl) (by omega)
                have htf : (tfd a (TT a k) n x i).2.1 = (tls (TT a k) (a 39 (n * 6 + i)) (lkw a x (a 38 (n * 6 + i))) (lcw a x (a 38 (n * 6 + i)))).2.1 := by unfold tfd; rw [if_neg (by omega), if_pos c_165]
                have hiff2 : fl2 = 1 ↔ ∃ j, j < i + 1 ∧ bad a (TT a k) n x j := by
                  constructor
                  · intro z
                    refine ⟨i, by omega, ?_, c_154⟩
                    rw [htf]
                    rcases Bool.eq_false_or_eq_true ((tls (TT a k) (a 39 (n * 6 + i)) (lkw a x (a 38 (n * 6 + i))) (lcw a x (a 38 (n * 6 + i)))).2.1) with y | y
                    · rw [y] at hfl2; rw [hfl2] at z; exact absurd z (by decide)
                    · exact y
                  · intro z
                    have hbb : bad a (TT a k) n x i := by
                      rcases z with ⟨j, j1, j2⟩
                      rcases Nat.lt_or_ge j i with y | y
                      · exact absurd (hfl.mpr ⟨j, y, j2⟩) (by omega)
                      · rw [show i = j by omega]; exact j2
                    have y := hbb.1
                    rw [htf] at y
                    rw [hfl2, y]; rfl
                refine R_seg sg_120_220 sk_120_220 (pc' := 223) (lv' := [(4, .int ((nI i) + 1)), (3, .int (nI fl2)), (0, .ref 57), (1, .int (nI x)), (2, .int (nI n))]) (st' := []) (S' := stt (nw v) τ) (kc' := 0) (ks' := 0) rfl ⟨(by decide), trivial⟩ ?_
                refine R_goto ck_120_223 ?_
                refine Runs.lv (lv := [(4, .int ((nI i) + 1)), (3, .int (nI fl2)), (0, .ref 57), (1, .int (nI x)), (2, .int (nI n))]) ?_ _ (lvS_l (show ([4, 3, 0, 1, 2] : List Nat).Nodup from by decide) (by intro q hq; simp only [List.mem_cons, List.not_mem_nil, or_false] at hq; rcases hq with rfl | rfl | rfl | rfl | rfl <;> rfl))
                rw [nI_1 i]
                exact ih (i + 1) fl2 (by omega) (by rw [hfl2]; unfold bn; split <;> omega) hiff2 (by omega)
          · have c_89 : (a 20 (x / 32 * 4 + a 38 (n * 6 + i))) = 1 := (nI_eq (a := (a 20 (x / 32 * 4 + a 38 (n * 6 + i)))) (b := 1) (by omega) (by omega)).mp (Classical.not_not.mp c_89)
            have hk1 : a 20 (x / 32 * 4 + a 38 (n * 6 + i)) = 1 := c_89
            refine R_seg sg_120_92 sk_120_92 (pc' := 102) (lv' := [(7, .int (nI (a 39 (n * 6 + i)))), (6, .int (nI (x / 32 * 4 + a 38 (n * 6 + i)))), (5, .int (nI (a 38 (n * 6 + i)))), (4, .int (nI i)), (3, .int (nI fl)), (0, .ref 57), (1, .int (nI x)), (2, .int (nI n))]) (st' := [.int ((4 * (nI x)) + (nI (a 38 (n * 6 + i)))), .ref 78]) (S' := stt (nw v) τ) (kc' := 0) (ks' := 0) rfl ⟨trivial, rfl, trivial, trivial, trivial, trivial, trivial, trivial⟩ ?_
            refine R_iald ca_120_102 (j := x * 4 + a 38 (n * 6 + i)) rfl (by first | (simp only [nl_0, nl_1, nl_2, nl_3, nl_4, nl_5, nl_6, nl_8, nl_20, nl_31, nl_32, pk_mul, nI_add]; done) | (simp only [nl_0, nl_1, nl_2, nl_3, nl_4, nl_5, nl_6, nl_8, nl_20, nl_31, nl_32, pk_mul, nI_add]; congr 1; omega)) (by omega) ?_
            show RU_120 (d + k + 2) (0, 0) Post 103 ([(7, .int (nI (a 39 (n * 6 + i)))), (6, .int (nI (x / 32 * 4 + a 38 (n * 6 + i)))), (5, .int (nI (a 38 (n * 6 + i)))), (4, .int (nI i)), (3, .int (nI fl)), (0, .ref 57), (1, .int (nI x)), (2, .int (nI n))]) ([.int (nI (v 78 (x * 4 + a 38 (n * 6 + i))))]) (stt (nw v) τ) 0 0
            rw [e78]
            refine R_seg sg_120_103 sk_120_103 (pc' := 104) (lv' := [(7, .int (nI (a 39 (n * 6 + i)))), (6, .int (nI (x / 32 * 4 + a 38 (n * 6 + i)))), (5, .int (nI (a 38 (n * 6 + i)))), (4, .int (nI i)), (3, .int (nI fl)), (0, .ref 57), (1, .int (nI x)), (2, .int (nI n))]) (st' := [.int (-1), .int (nI (a 27 (x * 4 + a 38 (n * 6 + i))))]) (S' := stt (nw v) τ) (kc' := 0) (ks' := 0) rfl ⟨trivial, trivial⟩ ?_
            refine R_icmp ck_120_104 (fun (c_104 : (nI (a 27 (x * 4 + a 38 (n * 6 + i)))) = (-1)) => ?_) (fun (c_104 : ¬ (nI (a 27 (x * 4 + a 38 (n * 6 + i)))) = (-1)) => ?_)
            · have c_104 : a 27 (x * 4 + a 38 (n * 6 + i)) = N1 := (nI_N1 (by omega)).mp c_104
              have hbad : bad a (TT a k) n x i := ⟨by unfold tfd; rw [if_neg (by omega), if_neg (by omega), if_pos (by unfold lcw; rw [if_pos hk1, if_pos c_104])], c_78⟩
              first | (have hbad : bad a (TT a k) n x i := ⟨by rw [htf]; exact hb, c_78⟩) | skip
              refine R_seg sg_120_138 sk_120_138 (pc' := 139) (lv' := [(7, .int (nI (a 39 (n * 6 + i)))), (6, .int (nI (x / 32 * 4 + a 38 (n * 6 + i)))), (5, .int (nI (a 38 (n * 6 + i)))), (4, .int (nI i)), (3, .int (nI fl)), (0, .ref 57), (1, .int (nI x)), (2, .int (nI n))]) (st' := [.int 1]) (S' := stt (nw v) τ) (kc' := 0) (ks' := 0) rfl ⟨trivial, trivial⟩ ?_
              refine R_goto ck_120_139 ?_
              refine R_seg sg_120_143 sk_120_143 (pc' := 144) (lv' := [(3, .int 1), (7, .int (nI (a 39 (n * 6 + i)))), (6, .int (nI (x / 32 * 4 + a 38 (n * 6 + i)))), (5, .int (nI (a 38 (n * 6 + i)))), (4, .int (nI i)), (0, .ref 57), (1, .int (nI x)), (2, .int (nI n))]) (st' := []) (S' := stt (nw v) τ) (kc' := 0) (ks' := 0) rfl ⟨(by decide), trivial⟩ ?_
              refine R_goto ck_120_144 ?_
              refine R_seg sg_120_220 sk_120_220 (pc' := 223) (lv' := [(4, .int ((nI i) + 1)), (3, .int 1), (7, .int (nI (a 39 (n * 6 + i)))), (6, .int (nI (x / 32 * 4 + a 38 (n * 6 + i)))), (5, .int (nI (a 38 (n * 6 + i)))), (0, .ref 57), (1, .int (nI x)), (2, .int (nI n))]) (st' := []) (S' := stt (nw v) τ) (kc' := 0) (ks' := 0) rfl ⟨(by decide), trivial⟩ ?_
              refine R_goto ck_120_223 ?_
              refine Runs.lv (lv := [(4, .int ((nI i) + 1)), (3, .int 1), (0, .ref 57), (1, .int (nI x)), (2, .int (nI n))]) ?_ _ (lvS_l (show ([4, 3, 0, 1, 2] : List Nat).Nodup from by decide) (by intro q hq; simp only [List.mem_cons, List.not_mem_nil, or_false] at hq; rcases hq with rfl | rfl | rfl | rfl | rfl <;> rfl))
              rw [nI_1 i]
              exact ih (i + 1) 1 (by omega) (by omega) ⟨fun _ => ⟨i, by omega, hbad⟩, fun _ => rfl⟩ (by omega)
            · have c_104 : ¬ a 27 (x * 4 + a 38 (n * 6 + i)) = N1 := fun z => c_104 ((nI_N1 (by omega)).mpr z)
              have hlc : lcw a x (a 38 (n * 6 + i)) = 1 := by unfold lcw; rw [if_pos hk1, if_neg c_104]
              have htf : (tfd a (TT a k) n x i).2.1 = (TT a k (a 39 (n * 6 + i)) (lkw a x (a 38 (n * 6 + i)) 0)).2.1 := by unfold tfd; rw [if_neg (by omega), if_neg (by omega), if_neg (by omega), hlc, tls_1]
              refine R_seg sg_120_107 sk_120_107 (pc' := 116) (lv' := [(7, .int (nI (a 39 (n * 6 + i)))), (6, .int (nI (x / 32 * 4 + a 38 (n * 6 + i)))), (5, .int (nI (a 38 (n * 6 + i)))), (4, .int (nI i)), (3, .int (nI fl)), (0, .ref 57), (1, .int (nI x)), (2, .int (nI n))]) (st' := [.int (nI (x / 32 * 4 + a 38 (n * 6 + i))), .ref 73, .int 32, .ref 57]) (S' := stt (nw v) τ) (kc' := 0) (ks' := 0) rfl ⟨trivial, trivial, trivial, rfl, trivial, trivial⟩ ?_
              refine R_iald ca_120_116 (j := x / 32 * 4 + a 38 (n * 6 + i)) rfl rfl (by omega) ?_
              refine R_seg sg_120_117 sk_120_117 (pc' := 128) (lv' := [(7, .int (nI (a 39 (n * 6 + i)))), (6, .int (nI (x / 32 * 4 + a 38 (n * 6 + i)))), (5, .int (nI (a 38 (n * 6 + i)))), (4, .int (nI i)), (3, .int (nI fl)), (0, .ref 57), (1, .int (nI x)), (2, .int (nI n))]) (st' := [.int ((4 * (nI x)) + (nI (a 38 (n * 6 + i)))), .ref 78, .int (32 * (nI (v 73 (x / 32 * 4 + a 38 (n * 6 + i))))), .ref 57]) (S' := stt (nw v) τ) (kc' := 0) (ks' := 0) rfl ⟨trivial, trivial, rfl, trivial, trivial, trivial, trivial, trivial, trivial⟩ ?_
              refine R_iald ca_120_128 (j := x * 4 + a 38 (n * 6 + i)) rfl (by first | (simp only [nl_0, nl_1, nl_2, nl_3, nl_4, nl_5, nl_6, nl_8, nl_20, nl_31, nl_32, pk_mul, nI_add]; done) | (simp only [nl_0, nl_1, nl_2, nl_3, nl_4, nl_5, nl_6, nl_8, nl_20, nl_31, nl_32, pk_mul, nI_add]; congr 1; omega)) (by omega) ?_
              show RU_120 (d + k + 2) (0, 0) Post 129 ([(7, .int (nI (a 39 (n * 6 + i)))), (6, .int (nI (x / 32 * 4 + a 38 (n * 6 + i)))), (5, .int (nI (a 38 (n * 6 + i)))), (4, .int (nI i)), (3, .int (nI fl)), (0, .ref 57), (1, .int (nI x)), (2, .int (nI n))]) ([.int (nI (v 78 (x * 4 + a 38 (n * 6 + i)))), .int (32 * (nI (v 73 (x / 32 * 4 + a 38 (n * 6 + i))))), .ref 57]) (stt (nw v) τ) 0 0
              rw [e78]
              refine R_seg sg_120_129 sk_120_129 (pc' := 132) (lv' := [(7, .int (nI (a 39 (n * 6 + i)))), (6, .int (nI (x / 32 * 4 + a 38 (n * 6 + i)))), (5, .int (nI (a 38 (n * 6 + i)))), (4, .int (nI i)), (3, .int (nI fl)), (0, .ref 57), (1, .int (nI x)), (2, .int (nI n))]) (st' := [.int (nI (a 39 (n * 6 + i))), .int ((32 * (nI (v 73 (x / 32 * 4 + a 38 (n * 6 + i))))) + (nI (a 27 (x * 4 + a 38 (n * 6 + i))))), .ref 57]) (S' := stt (nw v) τ) (kc' := 0) (ks' := 0) rfl ⟨trivial, trivial, trivial⟩ ?_
              rw [show (32 : Int32) * nI (v 73 (x / 32 * 4 + a 38 (n * 6 + i))) + nI (a 27 (x * 4 + a 38 (n * 6 + i))) = nI (lkw a x (a 38 (n * 6 + i)) 0) from by rw [e73]; unfold lkw; rw [if_pos hk1]; rw [show (32 : Int32) = nI 32 from rfl, pk_mul, nI_add, Nat.mul_comm]]
              refine R_virt ck_120_132 57 [.int (nI (lkw a x (a 38 (n * 6 + i)) 0)), .int (nI (a 39 (n * 6 + i)))] 0 0 (r := []) rfl rfl rfl (Nat.le_of_ble_eq_true rfl) (Nat.le_refl _) (Nat.le_refl _) ?_
              refine hN (a 39 (n * 6 + i)) (lkw a x (a 38 (n * 6 + i)) 0) a v τ _ C (ho.child hS hT c_25 (by rw [hlc]; decide)) (hCl n x hx hm hk10 i c_25 0 (by rw [hlc]; decide)) hR ?_
              rcases hb : (TT a k (a 39 (n * 6 + i)) (lkw a x (a 38 (n * 6 + i)) 0)).2.1 with _ | _
              · show RU_120 (d + k + 2) (0, 0) Post 135 _ [.int 1] (stt (nw v) τ) 0 0
                show RU_120 (d + k + 2) (0, 0) Post 135 ([(7, .int (nI (a 39 (n * 6 + i)))), (6, .int (nI (x / 32 * 4 + a 38 (n * 6 + i)))), (5, .int (nI (a 38 (n * 6 + i)))), (4, .int (nI i)), (3, .int (nI fl)), (0, .ref 57), (1, .int (nI x)), (2, .int (nI n))]) ([.int 1]) (stt (nw v) τ) 0 0
                refine R_if ck_120_135 (fun c => absurd c (show ¬ (1 : Int32) = 0 from by decide)) (fun _ => ?_)
                first | (have hbad : bad a (TT a k) n x i := ⟨by rw [htf]; exact hb, c_78⟩) | skip
                refine R_seg sg_120_138 sk_120_138 (pc' := 139) (lv' := [(7, .int (nI (a 39 (n * 6 + i)))), (6, .int (nI (x / 32 * 4 + a 38 (n * 6 + i)))), (5, .int (nI (a 38 (n * 6 + i)))), (4, .int (nI i)), (3, .int (nI fl)), (0, .ref 57), (1, .int (nI x)), (2, .int (nI n))]) (st' := [.int 1]) (S' := stt (nw v) τ) (kc' := 0) (ks' := 0) rfl ⟨trivial, trivial⟩ ?_
                refine R_goto ck_120_139 ?_
                refine R_seg sg_120_143 sk_120_143 (pc' := 144) (lv' := [(3, .int 1), (7, .int (nI (a 39 (n * 6 + i)))), (6, .int (nI (x / 32 * 4 + a 38 (n * 6 + i)))), (5, .int (nI (a 38 (n * 6 + i)))), (4, .int (nI i)), (0, .ref 57), (1, .int (nI x)), (2, .int (nI n))]) (st' := []) (S' := stt (nw v) τ) (kc' := 0) (ks' := 0) rfl ⟨(by decide), trivial⟩ ?_
                refine R_goto ck_120_144 ?_
                refine R_seg sg_120_220 sk_120_220 (pc' := 223) (lv' := [(4, .int ((nI i) + 1)), (3, .int 1), (7, .int (nI (a 39 (n * 6 + i)))), (6, .int (nI (x / 32 * 4 + a 38 (n * 6 + i)))), (5, .int (nI (a 38 (n * 6 + i)))), (0, .ref 57), (1, .int (nI x)), (2, .int (nI n))]) (st' := []) (S' := stt (nw v) τ) (kc' := 0) (ks' := 0) rfl ⟨(by decide), trivial⟩ ?_
                refine R_goto ck_120_223 ?_
                refine Runs.lv (lv := [(4, .int ((nI i) + 1)), (3, .int 1), (0, .ref 57), (1, .int (nI x)), (2, .int (nI n))]) ?_ _ (lvS_l (show ([4, 3, 0, 1, 2] : List Nat).Nodup from by decide) (by intro q hq; simp only [List.mem_cons, List.not_mem_nil, or_false] at hq; rcases hq with rfl | rfl | rfl | rfl | rfl <;> rfl))
                rw [nI_1 i]
                exact ih (i + 1) 1 (by omega) (by omega) ⟨fun _ => ⟨i, by omega, hbad⟩, fun _ => rfl⟩ (by omega)
              · show RU_120 (d + k + 2) (0, 0) Post 135 _ [.int 0] (stt (nw v) τ) 0 0
                show RU_120 (d + k + 2) (0, 0) Post 135 ([(7, .int (nI (a 39 (n * 6 + i)))), (6, .int (nI (x / 32 * 4 + a 38 (n * 6 + i)))), (5, .int (nI (a 38 (n * 6 + i)))), (4, .int (nI i)), (3, .int (nI fl)), (0, .ref 57), (1, .int (nI x)), (2, .int (nI n))]) ([.int 0]) (stt (nw v) τ) 0 0
                refine R_if ck_120_135 (fun _ => ?_) (fun c => absurd (show (0 : Int32) = 0 from by decide) c)
                have hbad : ¬ bad a (TT a k) n x i := fun z => by have y := z.1; rw [htf, hb] at y; exact absurd y (by decide)
                refine R_seg sg_120_142 sk_120_142 (pc' := 143) (lv' := [(7, .int (nI (a 39 (n * 6 + i)))), (6, .int (nI (x / 32 * 4 + a 38 (n * 6 + i)))), (5, .int (nI (a 38 (n * 6 + i)))), (4, .int (nI i)), (3, .int (nI fl)), (0, .ref 57), (1, .int (nI x)), (2, .int (nI n))]) (st' := [.int 0]) (S' := stt (nw v) τ) (kc' := 0) (ks' := 0) rfl ⟨trivial, trivial⟩ ?_
                refine R_seg sg_120_143 sk_120_143 (pc' := 144) (lv' := [(3, .int 0), (7, .int (nI (a 39 (n * 6 + i)))), (6, .int (nI (x / 32 * 4 + a 38 (n * 6 + i)))), (5, .int (nI (a 38 (n * 6 + i)))), (4, .int (nI i)), (0, .ref 57), (1, .int (nI x)), (2, .int (nI n))]) (st' := []) (S' := stt (nw v) τ) (kc' := 0) (ks' := 0) rfl ⟨(by decide), trivial⟩ ?_
                refine R_goto ck_120_144 ?_
                refine R_seg sg_120_220 sk_120_220 (pc' := 223) (lv' := [(4, .int ((nI i) + 1)), (3, .int 0), (7, .int (nI (a 39 (n * 6 + i)))), (6, .int (nI (x / 32 * 4 + a 38 (n * 6 + i)))), (5, .int (nI (a 38 (n * 6 + i)))), (0, .ref 57), (1, .int (nI x)), (2, .int (nI n))]) (st' := []) (S' := stt (nw v) τ) (kc' := 0) (ks' := 0) rfl ⟨(by decide), trivial⟩ ?_
                refine R_goto ck_120_223 ?_
                refine Runs.lv (lv := [(4, .int ((nI i) + 1)), (3, .int 0), (0, .ref 57), (1, .int (nI x)), (2, .int (nI n))]) ?_ _ (lvS_l (show ([4, 3, 0, 1, 2] : List Nat).Nodup from by decide) (by intro q hq; simp only [List.mem_cons, List.not_mem_nil, or_false] at hq; rcases hq with rfl | rfl | rfl | rfl | rfl <;> rfl))
                rw [nI_1 i]
                exact ih (i + 1) 0 (by omega) (by omega) ⟨fun z => absurd z (by decide), fun z => absurd (hsh z hbad) (by omega)⟩ (by omega)
set_option maxRecDepth 20000 in
theorem m_120 {d k : Nat} (hN : INS d k) : INS d (k + 1) := by
  intro n x a v τ Post C ho hm hR hp
  have hx := ho.2.1
  have st := C.st hR hx hm
  have b94 := st.2.2
  refine en_120 (Nat.le_of_ble_eq_true rfl) ?_
  show RU_120 (d + k + 2) (0, 0) Post 0 ([(0, .ref 57), (1, .int (nI x)), (2, .int (nI n))]) ([]) (stt (nw v) τ) 0 0
  refine R_seg sg_120_0 sk_120_0 (pc' := 5) (lv' := [(0, .ref 57), (1, .int (nI x)), (2, .int (nI n))]) (st' := [.int (nI x), .ref 94]) (S' := stt (nw v) τ) (kc' := 0) (ks' := 0) rfl ⟨trivial, rfl, trivial, trivial⟩ ?_
  refine R_iald ca_120_5 (j := x) rfl rfl (by omega) ?_
  refine R_seg sg_120_6 sk_120_6 (pc' := 7) (lv' := [(0, .ref 57), (1, .int (nI x)), (2, .int (nI n))]) (st' := [.int 4, .int (nI (v 94 x))]) (S' := stt (nw v) τ) (kc' := 0) (ks' := 0) rfl ⟨trivial, trivial⟩ ?_
  refine R_icmp ck_120_7 (fun (c_7 : ¬ (nI (v 94 x)) = 4) => ?_) (fun (c_7 : ¬ ¬ (nI (v 94 x)) = 4) => ?_)
  · have c_7 : ¬ (v 94 x) = 4 := fun zq => c_7 ((nI_eq (a := (v 94 x)) (b := 4) (by omega) (by omega)).mpr zq)
    refine R_seg sg_120_12 sk_120_12 (pc' := 17) (lv' := [(4, .int 0), (3, .int 0), (0, .ref 57), (1, .int (nI x)), (2, .int (nI n))]) (st' := []) (S' := stt (nw v) τ) (kc' := 0) (ks' := 0) rfl ⟨trivial, (by decide), trivial, (by decide), trivial⟩ ?_
    refine Runs.lv (lv := [(4, .int 0), (3, .int 0), (0, .ref 57), (1, .int (nI x)), (2, .int (nI n))]) ?_ _ (lvS_l (show ([4, 3, 0, 1, 2] : List Nat).Nodup from by decide) (by intro q hq; simp only [List.mem_cons, List.not_mem_nil, or_false] at hq; rcases hq with rfl | rfl | rfl | rfl | rfl <;> rfl))
    rw [← nI_0]
    exact ml_120 hN C ho hm (Classical.not_not.mp (fun z => c_7 (st.1.mpr z))) hR hp (a 37 n + 1) 0 0 (Nat.zero_le _) (by omega) ⟨fun z => absurd z (by decide), fun ⟨j, j1, _⟩ => absurd j1 (Nat.not_lt_zero j)⟩ (by omega)
  · have c_7 : (v 94 x) = 4 := (nI_eq (a := (v 94 x)) (b := 4) (by omega) (by omega)).mp (Classical.not_not.mp c_7)
    refine R_seg sg_120_10 sk_120_10 (pc' := 11) (lv' := [(0, .ref 57), (1, .int (nI x)), (2, .int (nI n))]) (st' := [.int 1]) (S' := stt (nw v) τ) (kc' := 0) (ks' := 0) rfl ⟨trivial, trivial⟩ ?_
    refine R_iret ck_120_11 rfl rfl ?_
    rw [TT_null (st.1.mp c_7)] at hp
    exact hp
theorem m_isNull (d : Nat) : ∀ k, INS d k
  | 0 => by
    intro n x a v τ Post C ho
    have h1 := (C.2.1.2 n ho.1).1
    have h2 := ho.2.2.2
    omega
  | k + 1 => m_120 (m_isNull d k)
