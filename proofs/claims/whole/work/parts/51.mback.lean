/-! ===== the model takes back ===== -/
theorem m_110 {d : Nat} {a v : WW} {τ : Nat → Nat → Int64} {h t : Nat} (hP : SP a) (hR : RA a v) (hh : h < 5) (ht : t ≤ 100000) {Post : Option Value → Sto → Prop} (h1 : bdn a h t = 1 → Post (some (.int 1)) (stt (nw v) τ)) (h0 : bdn a h t = 0 → Post (some (.int 0)) (stt (nw v) τ)) : Ex (d + 2) 110 [.ref 57, .int (nI h), .int (nI t)] (stt (nw v) τ) 0 0 Post := by
  have e66 := hR.q (66, 8) (by decide)
  have e67 := hR.q (67, 9) (by decide)
  have e68 := hR.q (68, 10) (by decide)
  have key : ∀ j, j < a 6 1 → (mDn (nw v) (nI h) (nI t) j ↔ (a 8 j = h ∧ a 9 j ≤ t ∧ t ≤ a 10 j)) := by
    intro j hj
    have := hP.2 j hj
    unfold mDn
    rw [show nw v 66 j = nI (a 8 j) from congrArg nI (congrFun e66 j), show nw v 67 j = nI (a 9 j) from congrArg nI (congrFun e67 j), show nw v 68 j = nI (a 10 j) from congrArg nI (congrFun e68 j), nI_eq (by omega) (by omega), nI_ltI (by omega) (by omega), nI_ltI (by omega) (by omega), Nat.not_lt, Nat.not_lt]
  refine x_110 (σ := nw v) (n := a 6 1) (congrArg nI hR.2.1) hP.1 (fun j hj e => ?_) (fun e => ?_)
  · exact h1 (bdn_1 ⟨j, hj, (key j hj).mp e⟩)
  · exact h0 (bdn_0 (fun ⟨j, hj, z⟩ => e j hj ((key j hj).mpr z)))
theorem Rl.fin {a v : WW} (hR : Rl a v) (c b : Nat) : Rl (aFin c b a) (up2 v 102 c b) := by
  obtain ⟨h1, h2, h3, h4, ⟨⟨r1, r2, r3, r4, r5⟩, r6, r7⟩, h6, h7, h8⟩ := hR
  refine ⟨h1.fr ⟨fun k k1 _ _ _ _ => aFin_k _ _ _ (by omega), fun g hg i _ => by rw [aFin_k _ _ _ (by omega)], rfl⟩ ((FV.rf v).up rfl), h2, h3.fr (fun k hk => aFin_k _ _ _ (by omega)) (fun k hk => up2_k _ _ _ _ (by omega)), h4, ⟨⟨r1, r2, r3, r4, ?_⟩, r6, r7⟩, h6, h7, h8⟩
  show va_up (v 102) c b = va_up (a 47) c b
  rw [r5]
/-- a helper's breaker changes on both sides -/
theorem Rl.hel {a b v u : WW} (hR : Rl a v) {h : Nat} (hh : h < 5) (eb : ∀ k, k ≠ 11 + h → b k = a k) (e04 : ∀ i, i < 5 → b (11 + h) i = a (11 + h) i) (eu : ∀ k, k ≠ 63 → k ≠ 64 → k ≠ 65 → u k = v k) (eg : ∀ g, g ≠ h → u 63 g = v 63 g ∧ u 64 g = v 64 g ∧ u 65 g = v 65 g) (hn : u 63 h = b (11 + h) 6 ∧ u 65 h = b (11 + h) 8 ∧ u 64 h = (if b (11 + h) 5 = 0 then b (11 + h) 7 else N1)) : Rl b u := by
  obtain ⟨h1, h2, h3, h4, h5, h6, h7, h8⟩ := hR
  have fv : FV v u := ⟨fun k hk => eu k (by omega) (by omega) (by omega), fun i _ _ _ _ => by rw [eu 57 (by decide) (by decide) (by decide)]⟩
  refine ⟨h1.fr ⟨fun k k1 _ _ _ k5 => eb k (by omega), fun g hg i hi => ?_, by rw [eb 50 (by omega)]⟩ fv, ?_, fun g hg => ?_, ?_, ?_, ?_, ?_, ?_⟩
  · by_cases z : g = h
    · subst z; exact e04 i hi
    · rw [eb (11 + g) (by omega)]
  · unfold RT; rw [eb 1 (by omega), eb 5 (by omega), eu 57 (by decide) (by decide) (by decide), eu 85 (by decide) (by decide) (by decide)]; exact h2
  · by_cases z : g = h
    · subst z; exact hn
    · have q := eg g z
      rw [eb (11 + g) (by omega), q.1, q.2.1, q.2.2]
      exact h3 g hg
  · rw [eb 25 (by omega), eb 1 (by omega), eu 81 (by decide) (by decide) (by decide)]; exact h4
  · unfold RC; rw [eb 42 (by omega), eb 43 (by omega), eb 44 (by omega), eb 45 (by omega), eb 46 (by omega), eb 47 (by omega), eb 48 (by omega), eb 49 (by omega), eu 57 (by decide) (by decide) (by decide), eu 98 (by decide) (by decide) (by decide), eu 99 (by decide) (by decide) (by decide), eu 100 (by decide) (by decide) (by decide), eu 101 (by decide) (by decide) (by decide), eu 102 (by decide) (by decide) (by decide), eu 103 (by decide) (by decide) (by decide)]; exact h5
  · unfold RQ; rw [eb 53 (by omega), eb 50 (by omega), eu 57 (by decide) (by decide) (by decide), eu 97 (by decide) (by decide) (by decide)]; exact h6
  · rw [eb 51 (by omega), eu 94 (by decide) (by decide) (by decide), eu 95 (by decide) (by decide) (by decide)]; exact h7
  · rw [eb 52 (by omega), eu 96 (by decide) (by decide) (by decide)]; exact h8
def mOpen (h : Nat) (v : WW) : WW := up2 (up2 (up2 v 64 h (v 57 1 + v 62 h)) 63 h 0) 65 h N1
theorem m_111 {d : Nat} {v : WW} {τ : Nat → Nat → Int64} {h : Nat} (hh : h < 5) {Post : Option Value → Sto → Prop} (hp : Post none (stt (nw (mOpen h v)) τ)) : Ex (d + 1) 111 [.ref 57, .int (nI h)] (stt (nw v) τ) 0 0 Post := by
  refine x_111 (σ := nw v) hh ?_
  rw [show nw v 57 1 = nI (v 57 1) from rfl, show nw v 62 h = nI (v 62 h) from rfl, nw_up (n := v 57 1 + v 62 h) (nI_add _ _), nw_up (v := 0) (n := 0) rfl, nw_up (v := -1) (n := N1) rfl]
  exact hp
theorem up3_o {v : WW} {h g x y z : Nat} (hg : g ≠ h) : (up2 (up2 (up2 v 64 h x) 63 h y) 65 h z) 63 g = v 63 g ∧ (up2 (up2 (up2 v 64 h x) 63 h y) 65 h z) 64 g = v 64 g ∧ (up2 (up2 (up2 v 64 h x) 63 h y) 65 h z) 65 g = v 65 g :=
  ⟨va_up_ne _ _ hg, va_up_ne _ _ hg, va_up_ne _ _ hg⟩
/-- both sides' breaker is opened (whatever failed was) -/
theorem Rl.opn {a b v : WW} (hR : Rl a v) {h : Nat} (hh : h < 5) (eb : ∀ k, k ≠ 11 + h → b k = a k) (e04 : ∀ i, i < 5 → b (11 + h) i = a (11 + h) i) : Rl (aOpen h b) (mOpen h v) := by
  have e : ∀ k, k ≠ 11 + h → aOpen h b k = a k := fun k hk => (aOpen_k h b hk).trans (eb k hk)
  refine hR.hel hh e (fun i hi => ?_) (fun k k1 k2 k3 => ?_) (fun g hg => up3_o hg) ⟨?_, ?_, ?_⟩
  · unfold aOpen
    rw [up2_d _ _ _ _ (by omega), up2_d _ _ _ _ (by omega), up2_d _ _ _ _ (by omega), up2_d _ _ _ _ (by omega)]
    exact e04 i hi
  · unfold mOpen
    rw [up2_k _ _ _ _ k3, up2_k _ _ _ _ k1, up2_k _ _ _ _ k2]
  · show va_up (v 63) h 0 h = _
    rw [va_up_self]
    unfold aOpen
    rw [up2_d _ _ _ _ (by decide), up2_d _ _ _ _ (by decide), up2_c]
  · show va_up (v 65) h N1 h = _
    rw [va_up_self]
    unfold aOpen
    rw [up2_c]
  · show va_up (v 64) h (v 57 1 + v 62 h) h = _
    rw [va_up_self]
    unfold aOpen
    rw [up2_d _ _ _ _ (show 5 ≠ 8 by decide), up2_d _ _ _ _ (show 5 ≠ 7 by decide), up2_d _ _ _ _ (show 5 ≠ 6 by decide), up2_c, if_pos rfl, up2_d _ _ _ _ (show 7 ≠ 8 by decide), up2_c, hR.2.1.1, (hR.1.2.2.1 h hh).2.2.2.2, eb 1 (by omega), e04 4 (by decide)]
theorem aClose_k (h : Nat) (w : WW) {k : Nat} (hk : k ≠ 11 + h) : aClose h w k = w k := by
  unfold aClose
  rw [up2_k _ _ _ _ hk, up2_k _ _ _ _ hk, up2_k _ _ _ _ hk]
theorem aClose_f (h : Nat) (w : WW) : (∀ i, i < 5 → aClose h w (11 + h) i = w (11 + h) i) ∧ aClose h w (11 + h) 5 = 1 ∧ aClose h w (11 + h) 6 = 0 ∧ aClose h w (11 + h) 8 = N1 := by
  unfold aClose
  refine ⟨fun i hi => ?_, ?_, ?_, ?_⟩
  · rw [up2_d _ _ _ _ (by omega), up2_d _ _ _ _ (by omega), up2_d _ _ _ _ (by omega)]
  · rw [up2_d _ _ _ _ (by decide), up2_d _ _ _ _ (by decide), up2_c]
  · rw [up2_d _ _ _ _ (by decide), up2_c]
  · rw [up2_c]
/-- both sides' breaker is closed -/
theorem Rl.cls {a v : WW} (hR : Rl a v) {h : Nat} (hh : h < 5) : Rl (aClose h a) (up2 (up2 (up2 v 64 h N1) 63 h 0) 65 h N1) := by
  have f := aClose_f h a
  refine hR.hel hh (fun k hk => aClose_k h a hk) f.1 (fun k k1 k2 k3 => by rw [up2_k _ _ _ _ k3, up2_k _ _ _ _ k1, up2_k _ _ _ _ k2]) (fun g hg => up3_o hg) ⟨?_, ?_, ?_⟩
  · rw [f.2.2.1]; exact va_up_self _ _ _
  · rw [f.2.2.2]; exact va_up_self _ _ _
  · rw [f.2.1]; exact va_up_self _ _ _
theorem Rl.cls2 {a v : WW} (hR : Rl a v) {h : Nat} (hh : h < 5) (hc : a (11 + h) 5 ≠ 0) (h8 : a (11 + h) 8 = N1) : Rl (aClose h a) (up2 v 63 h 0) := by
  have f := aClose_f h a
  have q := hR.2.2.1 h hh
  refine hR.hel hh (fun k hk => aClose_k h a hk) f.1 (fun k k1 k2 k3 => up2_k _ _ _ _ k1) (fun g hg => ⟨va_up_ne _ _ hg, rfl, rfl⟩) ⟨?_, ?_, ?_⟩
  · rw [f.2.2.1]; exact va_up_self _ _ _
  · rw [f.2.2.2]; exact q.2.1.trans h8
  · rw [f.2.1]; exact q.2.2.trans (if_neg hc)
theorem Rl.fai {a v : WW} (hR : Rl a v) {h : Nat} (hh : h < 5) : Rl (up2 a (11 + h) 6 (a (11 + h) 6 + 1)) (up2 v 63 h (v 63 h + 1)) := by
  have q := hR.2.2.1 h hh
  refine hR.hel hh (fun k hk => up2_k _ _ _ _ hk) (fun i hi => up2_d _ _ _ _ (by omega)) (fun k k1 k2 k3 => up2_k _ _ _ _ k1) (fun g hg => ⟨va_up_ne _ _ hg, rfl, rfl⟩) ⟨?_, ?_, ?_⟩
  · rw [show (up2 v 63 h (v 63 h + 1)) 63 h = v 63 h + 1 from va_up_self _ _ _, up2_c, q.1]
  · rw [up2_d _ _ _ _ (show 8 ≠ 6 by decide)]; exact q.2.1
  · rw [up2_d _ _ _ _ (show 5 ≠ 6 by decide), up2_d _ _ _ _ (show 7 ≠ 6 by decide)]; exact q.2.2
theorem Rl.keep {u v : WW} (hR : Rl u v) {x : Nat} (hk : u 19 (x / 32) = 0 → u 25 x ≤ u 1 4) : Rl (aKeep x u) (up2 (up2 v 94 x 3) 81 x (if 0 < u 19 (x / 32) then u 1 4 + u 19 (x / 32) else N1)) := by
  have e : ∀ k, k ≠ 25 → k ≠ 51 → aKeep x u k = u k := fun k k1 k2 => aKeep_50 x u k1 k2
  obtain ⟨h1, h2, h3, h4, h5, h6, h7, h8⟩ := hR
  refine ⟨h1.fr ⟨fun k k1 _ _ k4 _ => e k k4 (by omega), fun g hg i _ => by rw [e (11 + g) (by omega) (by omega)], by rw [e 50 (by decide) (by decide)]⟩ (((FV.rf v).up rfl).up rfl), ?_, h3.fr (fun k hk => e k (by omega) (by omega)) (fun k hk => by rw [up2_k _ _ _ _ (by omega), up2_k _ _ _ _ (by omega)]), ?_, ?_, ?_, ?_, ?_⟩
  · unfold RT; rw [e 1 (by decide) (by decide), e 5 (by decide) (by decide)]; exact h2
  · rw [e 1 (by decide) (by decide)]
    show RK (aKeep x u 25) (va_up (v 81) x _) (u 1 4)
    intro y hy
    have e25 : aKeep x u 25 = if 0 < u 19 (x / 32) then va_up (u 25) x (u 1 4 + u 19 (x / 32)) else u 25 := by
      unfold aKeep kpw
      show (if 0 < u 19 (x / 32) then _ else _ : WW) 25 = _
      split <;> rfl
    rw [e25]
    by_cases z : y = x
    · subst z
      rw [va_up_self]
      by_cases l : 0 < u 19 (y / 32)
      · rw [if_pos l, if_pos l, va_up_self]; exact Or.inl rfl
      · rw [if_neg l, if_neg l]; exact Or.inr ⟨hk (by omega), Or.inl rfl⟩
    · rw [va_up_ne _ _ z]
      by_cases l : 0 < u 19 (x / 32)
      · rw [if_pos l, va_up_ne _ _ z]; exact h4 y hy
      · rw [if_neg l]; exact h4 y hy
  · unfold RC; rw [e 42 (by decide) (by decide), e 43 (by decide) (by decide), e 44 (by decide) (by decide), e 45 (by decide) (by decide), e 46 (by decide) (by decide), e 47 (by decide) (by decide), e 48 (by decide) (by decide), e 49 (by decide) (by decide)]; exact h5
  · unfold RQ; rw [e 53 (by decide) (by decide), e 50 (by decide) (by decide)]; exact h6
  · rw [aKeep_51]; exact h7.set1 (by decide) (by decide)
  · rw [aKeep_52]; exact h8
set_option maxRecDepth 20000 in
theorem ml_109n {d x i c : Nat} {B H : Int32} {w v0 : WW} {τ : Nat → Nat → Int64} {Post : Option Value → Sto → Prop} (M : MI w) (hx : x < 192) (h0 : w 51 x ≠ 0) (h11 : w 51 x ≠ 11) (hC : CLA w) (hZ : NZ w) (hk : ∀ v, Rl (aLearn x w) v → FV v0 v → RU_109 (d + 11) (0, 0) Post 302 [(5, .int (nI x)), (4, .int (nI i)), (3, .int B), (2, .int H), (0, .ref 57), (1, .int (nI c))] [] (stt (nw v) τ) 0 0) : ∀ (nn : Nat) (n : Nat) (u v : WW), n ≤ w 32 7 → u = itr (lrnS x w) n (aKeep x w) → Rl u v → FV v0 v → w 32 7 - n < nn → RU_109 (d + 11) (0, 0) Post 263 [(6, .int (nI n)), (5, .int (nI x)), (4, .int (nI i)), (3, .int B), (2, .int H), (0, .ref 57), (1, .int (nI c))] [] (stt (nw v) τ) 0 0 := by
  intro nn
  induction nn with
  | zero => intro n u v hn hu hR hV hms; exact absurd hms (by omega)
  | succ nn ih =>
    intro n u v hn hu hR hV hms
    have q := lrn_itr M hx h0 h11 n
    have hL := lrn_cl M hx h0 h11 hC hZ n
    rw [← hu] at q hL
    obtain ⟨Mu, hfr⟩ := q
    have e32 := hfr.1 32 (by decide) (by decide)
    have e36 := hfr.1 36 (by decide) (by decide)
    have hmono := hL.2.1.1
    have hk10 : u 51 x = 10 := by rw [hL.2.1.2.1 x (by rw [aKeep_51, va_up_self]; decide), aKeep_51, va_up_self]
    have e35 : v 57 35 = w 32 7 := by rw [hR.1.2.2.2.1.1, e32]
    have hT1 := M.2.1.1
    refine R_seg sg_109_263 sk_109_263 (pc' := 269) (lv' := [(6, .int (nI n)), (5, .int (nI x)), (4, .int (nI i)), (3, .int B), (2, .int H), (0, .ref 57), (1, .int (nI c))]) (st' := [.int (nI (v 57 35)), .int (nI n)]) (S' := stt (nw v) τ) (kc' := 0) (ks' := 0) rfl ⟨trivial, trivial, rfl, trivial⟩ ?_
    rw [e35]
    refine R_icmp ck_109_269 (fun (c_269 : (nI (w 32 7)) ≤ (nI n)) => ?_) (fun (c_269 : ¬ (nI (w 32 7)) ≤ (nI n)) => ?_)
    · have c_269 : (w 32 7) ≤ n := (nI_leI (a := (w 32 7)) (b := n) (by omega) (by omega)).mp c_269
      refine Runs.lv (lv := [(5, .int (nI x)), (4, .int (nI i)), (3, .int B), (2, .int H), (0, .ref 57), (1, .int (nI c))]) ?_ _ (lvS_l (show ([5, 4, 3, 2, 0, 1] : List Nat).Nodup from by decide) (by intro q hq; simp only [List.mem_cons, List.not_mem_nil, or_false] at hq; rcases hq with rfl | rfl | rfl | rfl | rfl | rfl <;> rfl))
      have en : n = w 32 7 := by omega
      subst en
      subst hu
      exact hk v hR hV
    · have c_269 : n < (w 32 7) := Nat.not_le.mp (fun zq => c_269 ((nI_leI (a := (w 32 7)) (b := n) (by omega) (by omega)).mpr zq))
      have e96 := hR.2.2.2.2.2.2.2 x hx n (by omega)
      have b96 : v 96 (20 * x + n) ≤ 1 := by rw [e96]; split <;> omega
      refine R_seg sg_109_272 sk_109_272 (pc' := 284) (lv' := [(6, .int (nI n)), (5, .int (nI x)), (4, .int (nI i)), (3, .int B), (2, .int H), (0, .ref 57), (1, .int (nI c))]) (st' := [.int ((20 * (nI x)) + (nI n)), .ref 96]) (S' := stt (nw v) τ) (kc' := 0) (ks' := 0) rfl ⟨trivial, rfl, trivial, trivial, trivial, trivial, trivial, trivial⟩ ?_
      refine R_bald ca_109_284 (j := 20 * x + n) rfl (by simp only [nl_0, nl_1, nl_2, nl_3, nl_4, nl_5, nl_6, nl_8, nl_20, nl_31, nl_32, pk_mul, nI_add]) (by omega) ?_
      refine R_if ck_109_285 (fun (c_285 : (nI (v 96 (20 * x + n))) = 0) => ?_) (fun (c_285 : ¬ (nI (v 96 (20 * x + n))) = 0) => ?_)
      · have c_285 : (v 96 (20 * x + n)) = 0 := (nI_eq (a := (v 96 (20 * x + n))) (b := 0) (by omega) (by omega)).mp c_285
        have hbit : ¬ mkd u n x := by intro z; unfold mkd at z; rw [if_pos z] at e96; omega
        refine R_seg sg_109_296 sk_109_296 (pc' := 299) (lv' := [(6, .int ((nI n) + 1)), (5, .int (nI x)), (4, .int (nI i)), (3, .int B), (2, .int H), (0, .ref 57), (1, .int (nI c))]) (st' := []) (S' := stt (nw v) τ) (kc' := 0) (ks' := 0) rfl ⟨(by decide), trivial⟩ ?_
        refine R_goto ck_109_299 ?_
        refine Runs.lv (lv := [(6, .int ((nI n) + 1)), (5, .int (nI x)), (4, .int (nI i)), (3, .int B), (2, .int H), (0, .ref 57), (1, .int (nI c))]) ?_ _ (lvS_l (show ([6, 5, 4, 3, 2, 0, 1] : List Nat).Nodup from by decide) (by intro q hq; simp only [List.mem_cons, List.not_mem_nil, or_false] at hq; rcases hq with rfl | rfl | rfl | rfl | rfl | rfl | rfl <;> rfl))
        rw [nI_1 n]
        exact ih (n + 1) u v (by omega) (by rw [itr_s, ← hu]; unfold lrnS; rw [if_neg (fun y => hbit (hmono n x (by unfold mkd; rw [aKeep_52]; exact y)))]) hR hV (by omega)
      · have c_285 : ¬ (v 96 (20 * x + n)) = 0 := fun zq => c_285 ((nI_eq (a := (v 96 (20 * x + n))) (b := 0) (by omega) (by omega)).mpr zq)
        have hbit : mkd u n x := by unfold mkd; rcases Bool.eq_false_or_eq_true ((u 52 x).testBit n) with z | z; exact z; rw [z] at e96; exact absurd e96 c_285
        have onb := Mu.2.2.2.2.2.2.2.2 x hx n hbit
        have tn := (M.2.1.2 n (by rw [← e32]; exact onb.1)).1
        have ho : OKn u (5 - w 36 n + 1) n x := ⟨onb.1, hx, onb.2, by rw [e36]; omega⟩
        refine R_seg sg_109_288 sk_109_288 (pc' := 293) (lv' := [(6, .int (nI n)), (5, .int (nI x)), (4, .int (nI i)), (3, .int B), (2, .int H), (0, .ref 57), (1, .int (nI c))]) (st' := [.int (nI n), .int (nI x), .ref 57]) (S' := stt (nw v) τ) (kc' := 0) (ks' := 0) rfl ⟨trivial, trivial, trivial, trivial⟩ ?_
        refine R_virt ck_109_293 57 [.int (nI x), .int (nI n)] 0 0 (r := []) rfl rfl rfl (Nat.le_of_ble_eq_true rfl) (Nat.le_refl _) (Nat.le_refl _) ?_
        have hF := m_fol (d + 2 * (4 - (5 - w 36 n))) (5 - w 36 n) n x u v τ
        rw [show d + 2 * (4 - (5 - w 36 n)) + 2 * (5 - w 36 n) + 3 = d + 11 by omega] at hF
        refine hF _ Mu ho hR (fun v2 hR2 hV2 => ?_)
        show RU_109 (d + 11) (0, 0) Post 296 ([(6, .int (nI n)), (5, .int (nI x)), (4, .int (nI i)), (3, .int B), (2, .int H), (0, .ref 57), (1, .int (nI c))]) ([]) (stt (nw v2) τ) 0 0
        refine R_seg sg_109_296 sk_109_296 (pc' := 299) (lv' := [(6, .int ((nI n) + 1)), (5, .int (nI x)), (4, .int (nI i)), (3, .int B), (2, .int H), (0, .ref 57), (1, .int (nI c))]) (st' := []) (S' := stt (nw v2) τ) (kc' := 0) (ks' := 0) rfl ⟨(by decide), trivial⟩ ?_
        refine R_goto ck_109_299 ?_
        refine Runs.lv (lv := [(6, .int ((nI n) + 1)), (5, .int (nI x)), (4, .int (nI i)), (3, .int B), (2, .int H), (0, .ref 57), (1, .int (nI c))]) ?_ _ (lvS_l (show ([6, 5, 4, 3, 2, 0, 1] : List Nat).Nodup from by decide) (by intro q hq; simp only [List.mem_cons, List.not_mem_nil, or_false] at hq; rcases hq with rfl | rfl | rfl | rfl | rfl | rfl | rfl <;> rfl))
        rw [nI_1 n]
        by_cases sb : (w 52 x).testBit n = true
        · exact ih (n + 1) _ v2 (by omega) (by rw [itr_s, ← hu]; unfold lrnS; rw [if_pos sb]) hR2 (hV.tr hV2) (by omega)
        · have hcl : Cl u n x := by rcases hL.2.2 n x hx hbit with y | y; exact absurd y.2.2 sb; exact y
          rw [fol_id hcl hk10] at hR2
          exact ih (n + 1) u v2 (by omega) (by rw [itr_s, ← hu]; unfold lrnS; rw [if_neg sb]) hR2 (hV.tr hV2) (by omega)
set_option maxRecDepth 20000 in
theorem ml_109 {d c b ky : Nat} {H : Int32} {w v0 : WW} {τ : Nat → Nat → Int64} {Post : Option Value → Sto → Prop} (M : MI w) (hI : CI w ky) (h24 : ∀ x, x < 192 → w 24 x ≤ 1) (hc : c < w 42 5) (h3 : w 47 c = 3) (hb : b = bdn w (w 43 c) (w 45 c)) (hp : ∀ v, Rl (aTB c w) v → FV v0 v → Post none (stt (nw v) τ)) : ∀ (nn : Nat) (i : Nat) (u v : WW), i ≤ w 46 c → u = itr (tbS c w) i (aTB0 c (bdn w (w 43 c) (w 45 c)) w) → Rl u v → FV v0 v → w 46 c - i < nn → RU_109 (d + 11) (0, 0) Post 144 [(4, .int (nI i)), (3, .int (nI b)), (2, .int H), (0, .ref 57), (1, .int (nI c))] [] (stt (nw v) τ) 0 0 := by
  intro nn
  induction nn with
  | zero => intro i u v hi hu hR hV hms; exact absurd hms (by omega)
  | succ nn ih =>
    intro i u v hi hu hR hV hms
    have q := tb_itr M hc h3 i hi
    have T := tb_ci M hI hc h3 i hi
    rw [← hu] at q T
    obtain ⟨Mu, hfr⟩ := q
    have hb2 : b < 2 := by rw [hb]; unfold bdn; split <;> omega
    have hh := (M.2.2.2.2.2.1.2.1 c hc).1
    have e : ∀ j, j < 50 → j ≠ 25 → j ≠ 42 → j ≠ 47 → (j < 11 ∨ 16 ≤ j) → u j = w j := fun j j1 j2 j3 j4 j5 => by rw [hfr.1 j j1 j2]; exact aTB0_k hh j5 j3 j4
    have e44 := e 44 (by decide) (by decide) (by decide) (by decide) (by decide)
    have e46 := e 46 (by decide) (by decide) (by decide) (by decide) (by decide)
    have e48 := e 48 (by decide) (by decide) (by decide) (by decide) (by decide)
    have e49 := e 49 (by decide) (by decide) (by decide) (by decide) (by decide)
    have e24 := e 24 (by decide) (by decide) (by decide) (by decide) (by decide)
    have e19 := e 19 (by decide) (by decide) (by decide) (by decide) (by decide)
    have e1 := e 1 (by decide) (by decide) (by decide) (by decide) (by decide)
    have e14 : u 1 4 = w 1 4 := by rw [e1]
    have e42 : u 42 5 = w 42 5 := by rw [hfr.1 42 (by decide) (by decide)]; unfold aTB0; rw [aCame_k _ _ _ _ (by omega)]; rfl
    have hn := M.2.2.2.1.2.2.2.2.2.2.2.2.1
    have hkk := M.2.2.2.1.2.2.2.2.2.2.2.1
    have hk3 : w 42 9 ≤ 192 := by unfold NIk at hkk; omega
    have c46 := (M.2.2.2.1.2.2.2.2.2.2.2.2.2 c hc).1
    have e101 : v 101 c = w 46 c := by rw [hR.2.2.2.2.1.1.2.2.2.1, e46]
    have e99 : v 99 c = w 44 c := by rw [hR.2.2.2.2.1.1.2.1, e44]
    have e71 : v 71 = w 19 := by rw [hR.1.q (71, 19) (by decide), e19]
    have e76 : v 76 = w 24 := by rw [hR.1.q (76, 24) (by decide), e24]
    have e57 : v 57 1 = w 1 4 := by rw [hR.2.1.1, e14]
    refine R_seg sg_109_144 sk_109_144 (pc' := 151) (lv' := [(4, .int (nI i)), (3, .int (nI b)), (2, .int H), (0, .ref 57), (1, .int (nI c))]) (st' := [.int (nI c), .ref 101, .int (nI i)]) (S' := stt (nw v) τ) (kc' := 0) (ks' := 0) rfl ⟨trivial, trivial, rfl, trivial, trivial⟩ ?_
    refine R_iald ca_109_151 (j := c) rfl rfl (by omega) ?_
    show RU_109 (d + 11) (0, 0) Post 152 ([(4, .int (nI i)), (3, .int (nI b)), (2, .int H), (0, .ref 57), (1, .int (nI c))]) ([.int (nI (v 101 c)), .int (nI i)]) (stt (nw v) τ) 0 0
    rw [e101]
    refine R_icmp ck_109_152 (fun (c_152 : (nI (w 46 c)) ≤ (nI i)) => ?_) (fun (c_152 : ¬ (nI (w 46 c)) ≤ (nI i)) => ?_)
    · have c_152 : (w 46 c) ≤ i := (nI_leI (a := (w 46 c)) (b := i) (by omega) (by omega)).mp c_152
      refine R_ret ck_109_308 rfl ?_
      have ei : i = w 46 c := by omega
      subst ei
      subst hu
      exact hp v hR hV
    · have c_152 : i < (w 46 c) := Nat.not_le.mp (fun zq => c_152 ((nI_leI (a := (w 46 c)) (b := i) (by omega) (by omega)).mpr zq))
      have cc := tb_call Mu (k := c) (i := i) (by rw [e42]; exact hc) (by rw [e46]; exact c_152)
      rw [e44, e46, e48, e49] at cc
      have e103 : v 103 (8 * c + i) = w 49 (w 48 c + i) := by rw [hR.2.2.2.2.1.2.2 c (by rw [e42]; exact hc) i (by rw [e46]; exact c_152), e48, e49]
      have e44x : (w 44 c * 32 + w 49 (w 48 c + i)) / 32 = w 44 c := by omega
      have b24 := h24 (w 44 c * 32 + w 49 (w 48 c + i)) (by omega)
      have hlife : u 19 ((w 44 c * 32 + w 49 (w 48 c + i)) / 32) = 0 → u 25 (w 44 c * 32 + w 49 (w 48 c + i)) ≤ u 1 4 := by
        have z := (Mu.2.2.2.1.2.2.2.2.2.2.2.2.2 c (by rw [e42]; exact hc)).2 i (by rw [e46]; exact c_152)
        rw [e44, e48, e49] at z
        rw [e44x]
        exact z.2.2.2
      refine R_seg sg_109_155 sk_109_155 (pc' := 162) (lv' := [(4, .int (nI i)), (3, .int (nI b)), (2, .int H), (0, .ref 57), (1, .int (nI c))]) (st' := [.int (nI c), .ref 99, .int 32]) (S' := stt (nw v) τ) (kc' := 0) (ks' := 0) rfl ⟨trivial, trivial, rfl, trivial, trivial⟩ ?_
      refine R_iald ca_109_162 (j := c) rfl rfl (by omega) ?_
      show RU_109 (d + 11) (0, 0) Post 163 ([(4, .int (nI i)), (3, .int (nI b)), (2, .int H), (0, .ref 57), (1, .int (nI c))]) ([.int (nI (v 99 c)), .int 32]) (stt (nw v) τ) 0 0
      rw [e99]
      refine R_seg sg_109_163 sk_109_163 (pc' := 175) (lv' := [(4, .int (nI i)), (3, .int (nI b)), (2, .int H), (0, .ref 57), (1, .int (nI c))]) (st' := [.int ((8 * (nI c)) + (nI i)), .ref 103, .int (32 * (nI (w 44 c)))]) (S' := stt (nw v) τ) (kc' := 0) (ks' := 0) rfl ⟨trivial, trivial, rfl, trivial, trivial, trivial, trivial, trivial, trivial⟩ ?_
      refine R_iald ca_109_175 (j := 8 * c + i) rfl (by rw [show (8 : Int32) = nI 8 from rfl, pk_mul, nI_add]) (by omega) ?_
      show RU_109 (d + 11) (0, 0) Post 176 ([(4, .int (nI i)), (3, .int (nI b)), (2, .int H), (0, .ref 57), (1, .int (nI c))]) ([.int (nI (v 103 (8 * c + i))), .int (32 * (nI (w 44 c)))]) (stt (nw v) τ) 0 0
      rw [e103]
      refine R_seg sg_109_176 sk_109_176 (pc' := 180) (lv' := [(5, .int ((32 * (nI (w 44 c))) + (nI (w 49 (w 48 c + i))))), (4, .int (nI i)), (3, .int (nI b)), (2, .int H), (0, .ref 57), (1, .int (nI c))]) (st' := [.int (nI b)]) (S' := stt (nw v) τ) (kc' := 0) (ks' := 0) rfl ⟨trivial, (by decide), trivial, trivial⟩ ?_
      rw [show (32 : Int32) * nI (w 44 c) + nI (w 49 (w 48 c + i)) = nI (w 44 c * 32 + w 49 (w 48 c + i)) from by rw [show (32 : Int32) = nI 32 from rfl, pk_mul, nI_add, Nat.mul_comm]]
      refine R_if ck_109_180 (fun (c_180 : (nI b) = 0) => ?_) (fun (c_180 : ¬ (nI b) = 0) => ?_)
      · have c_180 : b = 0 := (nI_eq (a := b) (b := 0) (by omega) (by omega)).mp c_180
        skip
        refine R_seg sg_109_193 sk_109_193 (pc' := 199) (lv' := [(5, .int (nI (w 44 c * 32 + w 49 (w 48 c + i)))), (4, .int (nI i)), (3, .int (nI b)), (2, .int H), (0, .ref 57), (1, .int (nI c))]) (st' := [.int (nI (w 44 c * 32 + w 49 (w 48 c + i))), .ref 76]) (S' := stt (nw v) τ) (kc' := 0) (ks' := 0) rfl ⟨trivial, rfl, trivial, trivial⟩ ?_
        refine R_bald ca_109_199 (j := w 44 c * 32 + w 49 (w 48 c + i)) rfl rfl (by omega) ?_
        show RU_109 (d + 11) (0, 0) Post 200 ([(5, .int (nI (w 44 c * 32 + w 49 (w 48 c + i)))), (4, .int (nI i)), (3, .int (nI b)), (2, .int H), (0, .ref 57), (1, .int (nI c))]) ([.int (nI (v 76 (w 44 c * 32 + w 49 (w 48 c + i))))]) (stt (nw v) τ) 0 0
        rw [e76]
        refine R_if ck_109_200 (fun (c_200 : ¬ (nI (w 24 (w 44 c * 32 + w 49 (w 48 c + i)))) = 0) => ?_) (fun (c_200 : ¬ ¬ (nI (w 24 (w 44 c * 32 + w 49 (w 48 c + i)))) = 0) => ?_)
        · have c_200 : ¬ (w 24 (w 44 c * 32 + w 49 (w 48 c + i))) = 0 := fun zq => c_200 ((nI_eq (a := (w 24 (w 44 c * 32 + w 49 (w 48 c + i)))) (b := 0) (by omega) (by omega)).mpr zq)
          have b19 := (M.1.1 (w 44 c) (by omega)).2
          refine R_seg sg_109_213 sk_109_213 (pc' := 220) (lv' := [(5, .int (nI (w 44 c * 32 + w 49 (w 48 c + i)))), (4, .int (nI i)), (3, .int (nI b)), (2, .int H), (0, .ref 57), (1, .int (nI c))]) (st' := [.int 3, .int (nI (w 44 c * 32 + w 49 (w 48 c + i))), .ref 94]) (S' := stt (nw v) τ) (kc' := 0) (ks' := 0) rfl ⟨trivial, rfl, trivial, trivial, trivial⟩ ?_
          refine R_iast ca_109_220 (j := w 44 c * 32 + w 49 (w 48 c + i)) rfl rfl (by omega) ?_
          show RU_109 (d + 11) (0, 0) Post 221 ([(5, .int (nI (w 44 c * 32 + w 49 (w 48 c + i)))), (4, .int (nI i)), (3, .int (nI b)), (2, .int H), (0, .ref 57), (1, .int (nI c))]) ([]) (stt (up2 (nw v) 94 (w 44 c * 32 + w 49 (w 48 c + i)) 3) τ) 0 0
          rw [nw_up (w := v) (k := 94) (i := (w 44 c * 32 + w 49 (w 48 c + i))) (v := 3) (n := 3) rfl]
          refine R_seg sg_109_221 sk_109_221 (pc' := 236) (lv' := [(5, .int (nI (w 44 c * 32 + w 49 (w 48 c + i)))), (4, .int (nI i)), (3, .int (nI b)), (2, .int H), (0, .ref 57), (1, .int (nI c))]) (st' := [.int ((nI (w 44 c * 32 + w 49 (w 48 c + i))) / 32), .ref 71, .int (nI (w 44 c * 32 + w 49 (w 48 c + i))), .ref 81]) (S' := stt (nw (up2 v 94 (w 44 c * 32 + w 49 (w 48 c + i)) 3)) τ) (kc' := 0) (ks' := 0) rfl ⟨trivial, rfl, trivial, trivial, rfl, trivial, trivial, (by decide), trivial⟩ ?_
          rw [show nI (w 44 c * 32 + w 49 (w 48 c + i)) / 32 = nI (w 44 c) from by rw [show (32 : Int32) = nI 32 from rfl, pk_div (by omega) (by omega) (by omega), e44x]]
          refine R_iald ca_109_236 (j := w 44 c) rfl rfl (by omega) ?_
          show RU_109 (d + 11) (0, 0) Post 237 ([(5, .int (nI (w 44 c * 32 + w 49 (w 48 c + i)))), (4, .int (nI i)), (3, .int (nI b)), (2, .int H), (0, .ref 57), (1, .int (nI c))]) ([.int (nI (v 71 (w 44 c))), .int (nI (w 44 c * 32 + w 49 (w 48 c + i))), .ref 81]) (stt (nw (up2 v 94 (w 44 c * 32 + w 49 (w 48 c + i)) 3)) τ) 0 0
          rw [e71]
          refine R_if ck_109_237 (fun (c_237 : (nI (w 19 (w 44 c))) ≤ 0) => ?_) (fun (c_237 : ¬ (nI (w 19 (w 44 c))) ≤ 0) => ?_)
          · have c_237 : (w 19 (w 44 c)) ≤ 0 := (nI_leI (a := (w 19 (w 44 c))) (b := 0) (by omega) (by omega)).mp c_237
            refine R_seg sg_109_258 sk_109_258 (pc' := 259) (lv' := [(5, .int (nI (w 44 c * 32 + w 49 (w 48 c + i)))), (4, .int (nI i)), (3, .int (nI b)), (2, .int H), (0, .ref 57), (1, .int (nI c))]) (st' := [.int (-1), .int (nI (w 44 c * 32 + w 49 (w 48 c + i))), .ref 81]) (S' := stt (nw (up2 v 94 (w 44 c * 32 + w 49 (w 48 c + i)) 3)) τ) (kc' := 0) (ks' := 0) rfl ⟨trivial, trivial⟩ ?_
            refine R_iast ca_109_259 (j := w 44 c * 32 + w 49 (w 48 c + i)) rfl rfl (by omega) ?_
            show RU_109 (d + 11) (0, 0) Post 260 ([(5, .int (nI (w 44 c * 32 + w 49 (w 48 c + i)))), (4, .int (nI i)), (3, .int (nI b)), (2, .int H), (0, .ref 57), (1, .int (nI c))]) ([]) (stt (up2 (nw (up2 v 94 (w 44 c * 32 + w 49 (w 48 c + i)) 3)) 81 (w 44 c * 32 + w 49 (w 48 c + i)) (-1)) τ) 0 0
            rw [nw_up (w := up2 v 94 (w 44 c * 32 + w 49 (w 48 c + i)) 3) (k := 81) (i := (w 44 c * 32 + w 49 (w 48 c + i))) (v := (-1)) (n := N1) rfl]
            refine R_seg sg_109_260 sk_109_260 (pc' := 263) (lv' := [(6, .int 0), (5, .int (nI (w 44 c * 32 + w 49 (w 48 c + i)))), (4, .int (nI i)), (3, .int (nI b)), (2, .int H), (0, .ref 57), (1, .int (nI c))]) (st' := []) (S' := stt (nw (up2 (up2 v 94 (w 44 c * 32 + w 49 (w 48 c + i)) 3) 81 (w 44 c * 32 + w 49 (w 48 c + i)) N1)) τ) (kc' := 0) (ks' := 0) rfl ⟨trivial, (by decide), trivial⟩ ?_
            refine Runs.lv (lv := [(6, .int 0), (5, .int (nI (w 44 c * 32 + w 49 (w 48 c + i)))), (4, .int (nI i)), (3, .int (nI b)), (2, .int H), (0, .ref 57), (1, .int (nI c))]) ?_ _ (lvS_l (show ([6, 5, 4, 3, 2, 0, 1] : List Nat).Nodup from by decide) (by intro q hq; simp only [List.mem_cons, List.not_mem_nil, or_false] at hq; rcases hq with rfl | rfl | rfl | rfl | rfl | rfl | rfl <;> rfl))
            rw [← nI_0]
            refine ml_109n (x := w 44 c * 32 + w 49 (w 48 c + i)) (w := u) (v0 := v0) Mu (by omega) cc.2.1 cc.2.2 T.1.1.1 T.1.1.2 (fun v3 hR3 hV3 => ?_) (u 32 7 + 1) 0 _ _ (Nat.zero_le _) rfl (show Rl (aKeep (w 44 c * 32 + w 49 (w 48 c + i)) u) _ from ?_) ((hV.up rfl).up rfl) (by omega)
            rotate_left
            · have hkp := hR.keep (x := w 44 c * 32 + w 49 (w 48 c + i)) hlife
              rw [if_neg (show ¬ 0 < u 19 ((w 44 c * 32 + w 49 (w 48 c + i)) / 32) by rw [e44x, e19]; omega)] at hkp
              exact hkp
            have hR3 : Rl (tbS c w i u) v3 := by unfold tbS aGot; rw [← hb, if_neg (by omega), if_neg (show ¬ u 24 (w 44 c * 32 + w 49 (w 48 c + i)) = 0 by rw [e24]; exact c_200)]; exact hR3
            refine R_seg sg_109_302 sk_109_302 (pc' := 305) (lv' := [(4, .int ((nI i) + 1)), (5, .int (nI (w 44 c * 32 + w 49 (w 48 c + i)))), (3, .int (nI b)), (2, .int H), (0, .ref 57), (1, .int (nI c))]) (st' := []) (S' := stt (nw v3) τ) (kc' := 0) (ks' := 0) rfl ⟨(by decide), trivial⟩ ?_
            refine R_goto ck_109_305 ?_
            refine Runs.lv (lv := [(4, .int ((nI i) + 1)), (3, .int (nI b)), (2, .int H), (0, .ref 57), (1, .int (nI c))]) ?_ _ (lvS_l (show ([4, 3, 2, 0, 1] : List Nat).Nodup from by decide) (by intro q hq; simp only [List.mem_cons, List.not_mem_nil, or_false] at hq; rcases hq with rfl | rfl | rfl | rfl | rfl <;> rfl))
            rw [nI_1 i]
            exact ih (i + 1) _ v3 (by omega) (by rw [itr_s, ← hu]) hR3 hV3 (by omega)
          · have c_237 : 0 < (w 19 (w 44 c)) := Nat.not_le.mp (fun zq => c_237 ((nI_leI (a := (w 19 (w 44 c))) (b := 0) (by omega) (by omega)).mpr zq))
            have b19 := (M.1.1 (w 44 c) (by omega)).2
            refine R_seg sg_109_240 sk_109_240 (pc' := 253) (lv' := [(5, .int (nI (w 44 c * 32 + w 49 (w 48 c + i)))), (4, .int (nI i)), (3, .int (nI b)), (2, .int H), (0, .ref 57), (1, .int (nI c))]) (st' := [.int ((nI (w 44 c * 32 + w 49 (w 48 c + i))) / 32), .ref 71, .int (nI (v 57 1)), .int (nI (w 44 c * 32 + w 49 (w 48 c + i))), .ref 81]) (S' := stt (nw (up2 v 94 (w 44 c * 32 + w 49 (w 48 c + i)) 3)) τ) (kc' := 0) (ks' := 0) rfl ⟨trivial, rfl, trivial, rfl, trivial, trivial, (by decide), trivial⟩ ?_
            rw [show nI (w 44 c * 32 + w 49 (w 48 c + i)) / 32 = nI (w 44 c) from by rw [show (32 : Int32) = nI 32 from rfl, pk_div (by omega) (by omega) (by omega), e44x]]
            rw [e57]
            refine R_iald ca_109_253 (j := w 44 c) rfl rfl (by omega) ?_
            show RU_109 (d + 11) (0, 0) Post 254 ([(5, .int (nI (w 44 c * 32 + w 49 (w 48 c + i)))), (4, .int (nI i)), (3, .int (nI b)), (2, .int H), (0, .ref 57), (1, .int (nI c))]) ([.int (nI (v 71 (w 44 c))), .int (nI (w 1 4)), .int (nI (w 44 c * 32 + w 49 (w 48 c + i))), .ref 81]) (stt (nw (up2 v 94 (w 44 c * 32 + w 49 (w 48 c + i)) 3)) τ) 0 0
            rw [e71]
            refine R_seg sg_109_254 sk_109_254 (pc' := 255) (lv' := [(5, .int (nI (w 44 c * 32 + w 49 (w 48 c + i)))), (4, .int (nI i)), (3, .int (nI b)), (2, .int H), (0, .ref 57), (1, .int (nI c))]) (st' := [.int ((nI (w 1 4)) + (nI (w 19 (w 44 c)))), .int (nI (w 44 c * 32 + w 49 (w 48 c + i))), .ref 81]) (S' := stt (nw (up2 v 94 (w 44 c * 32 + w 49 (w 48 c + i)) 3)) τ) (kc' := 0) (ks' := 0) rfl ⟨trivial, trivial⟩ ?_
            refine R_goto ck_109_255 ?_
            refine R_iast ca_109_259 (j := w 44 c * 32 + w 49 (w 48 c + i)) rfl rfl (by omega) ?_
            show RU_109 (d + 11) (0, 0) Post 260 ([(5, .int (nI (w 44 c * 32 + w 49 (w 48 c + i)))), (4, .int (nI i)), (3, .int (nI b)), (2, .int H), (0, .ref 57), (1, .int (nI c))]) ([]) (stt (up2 (nw (up2 v 94 (w 44 c * 32 + w 49 (w 48 c + i)) 3)) 81 (w 44 c * 32 + w 49 (w 48 c + i)) ((nI (w 1 4)) + (nI (w 19 (w 44 c))))) τ) 0 0
            rw [nw_up (w := up2 v 94 (w 44 c * 32 + w 49 (w 48 c + i)) 3) (k := 81) (i := (w 44 c * 32 + w 49 (w 48 c + i))) (v := (nI (w 1 4)) + (nI (w 19 (w 44 c)))) (n := w 1 4 + w 19 (w 44 c)) (by rw [nI_add])]
            refine R_seg sg_109_260 sk_109_260 (pc' := 263) (lv' := [(6, .int 0), (5, .int (nI (w 44 c * 32 + w 49 (w 48 c + i)))), (4, .int (nI i)), (3, .int (nI b)), (2, .int H), (0, .ref 57), (1, .int (nI c))]) (st' := []) (S' := stt (nw (up2 (up2 v 94 (w 44 c * 32 + w 49 (w 48 c + i)) 3) 81 (w 44 c * 32 + w 49 (w 48 c + i)) (w 1 4 + w 19 (w 44 c)))) τ) (kc' := 0) (ks' := 0) rfl ⟨trivial, (by decide), trivial⟩ ?_
            refine Runs.lv (lv := [(6, .int 0), (5, .int (nI (w 44 c * 32 + w 49 (w 48 c + i)))), (4, .int (nI i)), (3, .int (nI b)), (2, .int H), (0, .ref 57), (1, .int (nI c))]) ?_ _ (lvS_l (show ([6, 5, 4, 3, 2, 0, 1] : List Nat).Nodup from by decide) (by intro q hq; simp only [List.mem_cons, List.not_mem_nil, or_false] at hq; rcases hq with rfl | rfl | rfl | rfl | rfl | rfl | rfl <;> rfl))
            rw [← nI_0]
            refine ml_109n (x := w 44 c * 32 + w 49 (w 48 c + i)) (w := u) (v0 := v0) Mu (by omega) cc.2.1 cc.2.2 T.1.1.1 T.1.1.2 (fun v3 hR3 hV3 => ?_) (u 32 7 + 1) 0 _ _ (Nat.zero_le _) rfl (show Rl (aKeep (w 44 c * 32 + w 49 (w 48 c + i)) u) _ from ?_) ((hV.up rfl).up rfl) (by omega)
            rotate_left
            · have hkp := hR.keep (x := w 44 c * 32 + w 49 (w 48 c + i)) hlife
              rw [if_pos (show 0 < u 19 ((w 44 c * 32 + w 49 (w 48 c + i)) / 32) by rw [e44x, e19]; omega), e44x, e19, e14] at hkp
              exact hkp
            have hR3 : Rl (tbS c w i u) v3 := by unfold tbS aGot; rw [← hb, if_neg (by omega), if_neg (show ¬ u 24 (w 44 c * 32 + w 49 (w 48 c + i)) = 0 by rw [e24]; exact c_200)]; exact hR3
            refine R_seg sg_109_302 sk_109_302 (pc' := 305) (lv' := [(4, .int ((nI i) + 1)), (5, .int (nI (w 44 c * 32 + w 49 (w 48 c + i)))), (3, .int (nI b)), (2, .int H), (0, .ref 57), (1, .int (nI c))]) (st' := []) (S' := stt (nw v3) τ) (kc' := 0) (ks' := 0) rfl ⟨(by decide), trivial⟩ ?_
            refine R_goto ck_109_305 ?_
            refine Runs.lv (lv := [(4, .int ((nI i) + 1)), (3, .int (nI b)), (2, .int H), (0, .ref 57), (1, .int (nI c))]) ?_ _ (lvS_l (show ([4, 3, 2, 0, 1] : List Nat).Nodup from by decide) (by intro q hq; simp only [List.mem_cons, List.not_mem_nil, or_false] at hq; rcases hq with rfl | rfl | rfl | rfl | rfl <;> rfl))
            rw [nI_1 i]
            exact ih (i + 1) _ v3 (by omega) (by rw [itr_s, ← hu]) hR3 hV3 (by omega)
        · have c_200 : (w 24 (w 44 c * 32 + w 49 (w 48 c + i))) = 0 := (nI_eq (a := (w 24 (w 44 c * 32 + w 49 (w 48 c + i)))) (b := 0) (by omega) (by omega)).mp (Classical.not_not.mp c_200)
          have b19 := (M.1.1 (w 44 c) (by omega)).2
          refine R_seg sg_109_203 sk_109_203 (pc' := 207) (lv' := [(5, .int (nI (w 44 c * 32 + w 49 (w 48 c + i)))), (4, .int (nI i)), (3, .int (nI b)), (2, .int H), (0, .ref 57), (1, .int (nI c))]) (st' := [.int 2, .int (nI (w 44 c * 32 + w 49 (w 48 c + i))), .ref 57]) (S' := stt (nw v) τ) (kc' := 0) (ks' := 0) rfl ⟨trivial, trivial, trivial, trivial⟩ ?_
          refine R_virt ck_109_207 57 [.int (nI (w 44 c * 32 + w 49 (w 48 c + i))), .int 2] 0 0 (r := []) rfl rfl rfl (Nat.le_of_ble_eq_true rfl) (Nat.le_refl _) (Nat.le_refl _) ?_
          refine x_104 (d := d + 10) (σ := nw v) (x := w 44 c * 32 + w 49 (w 48 c + i)) (by omega) ?_
          rw [nw_up (v := 4) (n := 4) rfl, nw_up (v := 2) (n := 2) rfl]
          show RU_109 (d + 11) (0, 0) Post 210 ([(5, .int (nI (w 44 c * 32 + w 49 (w 48 c + i)))), (4, .int (nI i)), (3, .int (nI b)), (2, .int H), (0, .ref 57), (1, .int (nI c))]) ([]) (stt (nw (up2 (up2 v 94 (w 44 c * 32 + w 49 (w 48 c + i)) 4) 95 (w 44 c * 32 + w 49 (w 48 c + i)) 2)) τ) 0 0
          refine R_goto ck_109_210 ?_
          refine R_seg sg_109_302 sk_109_302 (pc' := 305) (lv' := [(4, .int ((nI i) + 1)), (5, .int (nI (w 44 c * 32 + w 49 (w 48 c + i)))), (3, .int (nI b)), (2, .int H), (0, .ref 57), (1, .int (nI c))]) (st' := []) (S' := stt (nw (up2 (up2 v 94 (w 44 c * 32 + w 49 (w 48 c + i)) 4) 95 (w 44 c * 32 + w 49 (w 48 c + i)) 2)) τ) (kc' := 0) (ks' := 0) rfl ⟨(by decide), trivial⟩ ?_
          refine R_goto ck_109_305 ?_
          refine Runs.lv (lv := [(4, .int ((nI i) + 1)), (3, .int (nI b)), (2, .int H), (0, .ref 57), (1, .int (nI c))]) ?_ _ (lvS_l (show ([4, 3, 2, 0, 1] : List Nat).Nodup from by decide) (by intro q hq; simp only [List.mem_cons, List.not_mem_nil, or_false] at hq; rcases hq with rfl | rfl | rfl | rfl | rfl <;> rfl))
          rw [nI_1 i]
          refine ih (i + 1) _ _ (by omega) (by rw [itr_s, ← hu]) ?_ ((hV.up rfl).up rfl) (by omega)
          unfold tbS aGot
          rw [← hb, if_neg (by omega), if_pos (show u 24 (w 44 c * 32 + w 49 (w 48 c + i)) = 0 by rw [e24]; exact c_200)]
          exact hR.null _ rfl
      · have c_180 : ¬ b = 0 := fun zq => c_180 ((nI_eq (a := b) (b := 0) (by omega) (by omega)).mpr zq)
        refine R_seg sg_109_183 sk_109_183 (pc' := 187) (lv' := [(5, .int (nI (w 44 c * 32 + w 49 (w 48 c + i)))), (4, .int (nI i)), (3, .int (nI b)), (2, .int H), (0, .ref 57), (1, .int (nI c))]) (st' := [.int 3, .int (nI (w 44 c * 32 + w 49 (w 48 c + i))), .ref 57]) (S' := stt (nw v) τ) (kc' := 0) (ks' := 0) rfl ⟨trivial, trivial, trivial, trivial⟩ ?_
        refine R_virt ck_109_187 57 [.int (nI (w 44 c * 32 + w 49 (w 48 c + i))), .int 3] 0 0 (r := []) rfl rfl rfl (Nat.le_of_ble_eq_true rfl) (Nat.le_refl _) (Nat.le_refl _) ?_
        refine x_104 (d := d + 10) (σ := nw v) (x := w 44 c * 32 + w 49 (w 48 c + i)) (by omega) ?_
        rw [nw_up (v := 4) (n := 4) rfl, nw_up (v := 3) (n := 3) rfl]
        show RU_109 (d + 11) (0, 0) Post 190 ([(5, .int (nI (w 44 c * 32 + w 49 (w 48 c + i)))), (4, .int (nI i)), (3, .int (nI b)), (2, .int H), (0, .ref 57), (1, .int (nI c))]) ([]) (stt (nw (up2 (up2 v 94 (w 44 c * 32 + w 49 (w 48 c + i)) 4) 95 (w 44 c * 32 + w 49 (w 48 c + i)) 3)) τ) 0 0
        refine R_goto ck_109_190 ?_
        refine R_seg sg_109_302 sk_109_302 (pc' := 305) (lv' := [(4, .int ((nI i) + 1)), (5, .int (nI (w 44 c * 32 + w 49 (w 48 c + i)))), (3, .int (nI b)), (2, .int H), (0, .ref 57), (1, .int (nI c))]) (st' := []) (S' := stt (nw (up2 (up2 v 94 (w 44 c * 32 + w 49 (w 48 c + i)) 4) 95 (w 44 c * 32 + w 49 (w 48 c + i)) 3)) τ) (kc' := 0) (ks' := 0) rfl ⟨(by decide), trivial⟩ ?_
        refine R_goto ck_109_305 ?_
        refine Runs.lv (lv := [(4, .int ((nI i) + 1)), (3, .int (nI b)), (2, .int H), (0, .ref 57), (1, .int (nI c))]) ?_ _ (lvS_l (show ([4, 3, 2, 0, 1] : List Nat).Nodup from by decide) (by intro q hq; simp only [List.mem_cons, List.not_mem_nil, or_false] at hq; rcases hq with rfl | rfl | rfl | rfl | rfl <;> rfl))
        rw [nI_1 i]
        refine ih (i + 1) _ _ (by omega) (by rw [itr_s, ← hu]) ?_ ((hV.up rfl).up rfl) (by omega)
        unfold tbS aGot
        rw [← hb, if_pos c_180]
        exact hR.null _ rfl
set_option maxRecDepth 20000 in
theorem m_109 {d c ky : Nat} {w v : WW} {τ : Nat → Nat → Int64} {Post : Option Value → Sto → Prop} (M : MI w) (hI : CI w ky) (h24 : ∀ x, x < 192 → w 24 x ≤ 1) (hc : c < w 42 5) (h3 : w 47 c = 3) (hR : Rl w v) (hp : ∀ v', Rl (aTB c w) v' → FV v v' → Post none (stt (nw v') τ)) : Ex (d + 12) 109 [.ref 57, .int (nI c)] (stt (nw v) τ) 0 0 Post := by
  obtain ⟨hS, h2, hK, hN, h5, hC, h7, hP, h9⟩ := id M
  have hcc := hC.2.1 c hc
  have hh := hcc.1
  have hH := h5 (w 43 c) hh
  have hk1 := hK.1
  have hn := hN.2.2.2.2.2.2.2.2.1
  have hkk := hN.2.2.2.2.2.2.2.1
  have hk3 : w 42 9 ≤ 192 := by unfold NIk at hkk; omega
  have e98 : v 98 c = w 43 c := by rw [hR.2.2.2.2.1.1.1]
  have e100 : v 100 c = w 45 c := by rw [hR.2.2.2.2.1.1.2.2.1]
  have hRT := hR.2.2.1 (w 43 c) hh
  have hRH := hR.1.2.2.1 (w 43 c) hh
  have h8b : w (11 + w 43 c) 8 < 2147483648 ∨ w (11 + w 43 c) 8 = N1 := by rcases h7 (w 43 c) hh with z | z; exact Or.inr z; exact Or.inl (by omega)
  have b3 := hH.2.2.2.1
  have b6 := hH.2.2.2.2.2.2.1
  have b7 := hH.2.2.2.2.2.2.2.1
  have b5 := hH.2.2.2.2.2.1
  refine en_109 (Nat.le_of_ble_eq_true rfl) ?_
  show RU_109 (d + 11) (0, 0) Post 0 ([(0, .ref 57), (1, .int (nI c))]) ([]) (stt (nw v) τ) 0 0
  refine R_seg sg_109_0 sk_109_0 (pc' := 5) (lv' := [(0, .ref 57), (1, .int (nI c))]) (st' := [.int (nI c), .ref 98]) (S' := stt (nw v) τ) (kc' := 0) (ks' := 0) rfl ⟨trivial, rfl, trivial, trivial⟩ ?_
  refine R_iald ca_109_5 (j := c) rfl rfl (by omega) ?_
  show RU_109 (d + 11) (0, 0) Post 6 ([(0, .ref 57), (1, .int (nI c))]) ([.int (nI (v 98 c))]) (stt (nw v) τ) 0 0
  rw [e98]
  refine R_seg sg_109_6 sk_109_6 (pc' := 14) (lv' := [(2, .int (nI (w 43 c))), (0, .ref 57), (1, .int (nI c))]) (st' := [.int (nI c), .ref 100, .int (nI (w 43 c)), .ref 57]) (S' := stt (nw v) τ) (kc' := 0) (ks' := 0) rfl ⟨(by decide), trivial, trivial, trivial, rfl, trivial, trivial⟩ ?_
  refine R_iald ca_109_14 (j := c) rfl rfl (by omega) ?_
  show RU_109 (d + 11) (0, 0) Post 15 ([(2, .int (nI (w 43 c))), (0, .ref 57), (1, .int (nI c))]) ([.int (nI (v 100 c)), .int (nI (w 43 c)), .ref 57]) (stt (nw v) τ) 0 0
  rw [e100]
  refine R_virt ck_109_15 57 [.int (nI (w 43 c)), .int (nI (w 45 c))] 0 0 (r := []) rfl rfl rfl (Nat.le_of_ble_eq_true rfl) (Nat.le_refl _) (Nat.le_refl _) ?_
  refine m_110 (d := d + 9) hP hR.1 hh (by omega) (fun hb => ?_) (fun hb => ?_)
  · have hF := hR.fin c 1
    have eF : ∀ j, j ≠ 42 ∧ j ≠ 47 → aFin c 1 w j = w j := fun j hj => aFin_k _ _ _ hj
    show RU_109 (d + 11) (0, 0) Post 18 ([(2, .int (nI (w 43 c))), (0, .ref 57), (1, .int (nI c))]) ([.int 1]) (stt (nw v) τ) 0 0
    refine R_seg sg_109_18 sk_109_18 (pc' := 25) (lv' := [(3, .int 1), (2, .int (nI (w 43 c))), (0, .ref 57), (1, .int (nI c))]) (st' := [.int 1, .int (nI c), .ref 102]) (S' := stt (nw v) τ) (kc' := 0) (ks' := 0) rfl ⟨(by decide), trivial, rfl, trivial, trivial, trivial⟩ ?_
    refine R_if ck_109_25 (fun c => absurd c (show ¬ (1 : Int32) = 0 from by decide)) (fun _ => ?_)
    refine R_seg sg_109_28 sk_109_28 (pc' := 29) (lv' := [(3, .int 1), (2, .int (nI (w 43 c))), (0, .ref 57), (1, .int (nI c))]) (st' := [.int 1, .int (nI c), .ref 102]) (S' := stt (nw v) τ) (kc' := 0) (ks' := 0) rfl ⟨trivial, trivial⟩ ?_
    refine R_goto ck_109_29 ?_
    refine R_iast ca_109_33 (j := c) rfl rfl (by omega) ?_
    show RU_109 (d + 11) (0, 0) Post 34 ([(3, .int 1), (2, .int (nI (w 43 c))), (0, .ref 57), (1, .int (nI c))]) ([]) (stt (up2 (nw v) 102 c 1) τ) 0 0
    rw [nw_up (w := v) (k := 102) (i := c) (v := 1) (n := 1) rfl]
    refine R_seg sg_109_34 sk_109_34 (pc' := 39) (lv' := [(3, .int 1), (2, .int (nI (w 43 c))), (0, .ref 57), (1, .int (nI c))]) (st' := [.int (nI (w 43 c)), .ref 65]) (S' := stt (nw (up2 v 102 c 1)) τ) (kc' := 0) (ks' := 0) rfl ⟨trivial, rfl, trivial, trivial⟩ ?_
    refine R_iald ca_109_39 (j := w 43 c) rfl rfl (by omega) ?_
    show RU_109 (d + 11) (0, 0) Post 40 ([(3, .int 1), (2, .int (nI (w 43 c))), (0, .ref 57), (1, .int (nI c))]) ([.int (nI (v 65 (w 43 c)))]) (stt (nw (up2 v 102 c 1)) τ) 0 0
    skip
    refine R_seg sg_109_40 sk_109_40 (pc' := 41) (lv' := [(3, .int 1), (2, .int (nI (w 43 c))), (0, .ref 57), (1, .int (nI c))]) (st' := [.int (nI c), .int (nI (v 65 (w 43 c)))]) (S' := stt (nw (up2 v 102 c 1)) τ) (kc' := 0) (ks' := 0) rfl ⟨trivial, trivial⟩ ?_
    skip
    refine R_icmp ck_109_41 (fun (c_41 : ¬ (nI (v 65 (w 43 c))) = (nI c)) => ?_) (fun (c_41 : ¬ ¬ (nI (v 65 (w 43 c))) = (nI c)) => ?_)
    · have e65 : v 65 (w 43 c) = w (11 + w 43 c) 8 := hRT.2.1
      have c_41 : ¬ w (11 + w 43 c) 8 = c := fun y => c_41 (by show nI (v 65 (w 43 c)) = nI c; rw [e65, y])
      refine R_seg sg_109_80 sk_109_80 (pc' := 85) (lv' := [(3, .int 1), (2, .int (nI (w 43 c))), (0, .ref 57), (1, .int (nI c))]) (st' := [.int (nI (w 43 c)), .ref 64]) (S' := stt (nw (up2 v 102 c 1)) τ) (kc' := 0) (ks' := 0) rfl ⟨trivial, rfl, trivial, trivial⟩ ?_
      refine R_iald ca_109_85 (j := w 43 c) rfl rfl (by omega) ?_
      refine R_seg sg_109_86 sk_109_86 (pc' := 87) (lv' := [(3, .int 1), (2, .int (nI (w 43 c))), (0, .ref 57), (1, .int (nI c))]) (st' := [.int (-1), .int (nI (v 64 (w 43 c)))]) (S' := stt (nw (up2 v 102 c 1)) τ) (kc' := 0) (ks' := 0) rfl ⟨trivial, trivial⟩ ?_
      refine R_icmp ck_109_87 (fun (c_87 : ¬ (nI (v 64 (w 43 c))) = (-1)) => ?_) (fun (c_87 : ¬ ¬ (nI (v 64 (w 43 c))) = (-1)) => ?_)
      · have hcl : w (11 + w 43 c) 5 = 0 := by rcases Nat.eq_zero_or_pos (w (11 + w 43 c) 5) with y | y; exact y; exact absurd (show nI (v 64 (w 43 c)) = -1 by rw [hRT.2.2, if_neg (by omega)]; rfl) c_87
        refine R_seg sg_109_141 sk_109_141 (pc' := 144) (lv' := [(4, .int 0), (3, .int 1), (2, .int (nI (w 43 c))), (0, .ref 57), (1, .int (nI c))]) (st' := []) (S' := stt (nw (up2 v 102 c 1)) τ) (kc' := 0) (ks' := 0) rfl ⟨trivial, (by decide), trivial⟩ ?_
        refine Runs.lv (lv := [(4, .int 0), (3, .int 1), (2, .int (nI (w 43 c))), (0, .ref 57), (1, .int (nI c))]) ?_ _ (lvS_l (show ([4, 3, 2, 0, 1] : List Nat).Nodup from by decide) (by intro q hq; simp only [List.mem_cons, List.not_mem_nil, or_false] at hq; rcases hq with rfl | rfl | rfl | rfl | rfl <;> rfl))
        rw [← nI_0]
        refine ml_109 (d := d) (b := 1) M hI h24 hc h3 hb.symm hp (w 46 c + 1) 0 _ _ (Nat.zero_le _) rfl (show Rl (aTB0 c (bdn w (w 43 c) (w 45 c)) w) _ from ?_) ((FV.rf v).up rfl) (by omega)
        rw [hb]
        unfold aTB0 aCame
        rw [if_neg (fun z => by unfold cwC at z; rw [eF _ (by omega)] at z; first | omega | (rcases z.2 with y | y; omega; exact c_41 y.symm))]
        exact hF
      · have hcl : w (11 + w 43 c) 5 ≠ 0 := by
          intro y
          have z : nI (v 64 (w 43 c)) = -1 := Classical.not_not.mp c_87
          rw [hRT.2.2, if_pos y] at z
          exact nI_m1 (by omega) z
        have e61 : v 61 (w 43 c) = w (11 + w 43 c) 3 := hRH.2.2.2.1
        have e63 : v 63 (w 43 c) = w (11 + w 43 c) 6 := hRT.1
        have htn : w (11 + w 43 c) 8 = N1 := by rcases h7 (w 43 c) hh with q | q; exact q; exact absurd q.2.2.2 hcl
        have hc1 : w (11 + w 43 c) 5 = 1 := by omega
        have hfl := hH.2.2.2.2.2.2.2.2.1 hc1
        refine R_seg sg_109_90 sk_109_90 (pc' := 95) (lv' := [(3, .int 1), (2, .int (nI (w 43 c))), (0, .ref 57), (1, .int (nI c))]) (st' := [.int (nI (w 43 c)), .ref 61]) (S' := stt (nw (up2 v 102 c 1)) τ) (kc' := 0) (ks' := 0) rfl ⟨trivial, rfl, trivial, trivial⟩ ?_
        refine R_iald ca_109_95 (j := w 43 c) rfl rfl (by omega) ?_
        refine R_if ck_109_96 (fun (c_96 : (nI (v 61 (w 43 c))) ≤ 0) => ?_) (fun (c_96 : ¬ (nI (v 61 (w 43 c))) ≤ 0) => ?_)
        · have c_96 : (v 61 (w 43 c)) ≤ 0 := (nI_leI (a := (v 61 (w 43 c))) (b := 0) (by omega) (by omega)).mp c_96
          refine R_seg sg_109_141 sk_109_141 (pc' := 144) (lv' := [(4, .int 0), (3, .int 1), (2, .int (nI (w 43 c))), (0, .ref 57), (1, .int (nI c))]) (st' := []) (S' := stt (nw (up2 v 102 c 1)) τ) (kc' := 0) (ks' := 0) rfl ⟨trivial, (by decide), trivial⟩ ?_
          refine Runs.lv (lv := [(4, .int 0), (3, .int 1), (2, .int (nI (w 43 c))), (0, .ref 57), (1, .int (nI c))]) ?_ _ (lvS_l (show ([4, 3, 2, 0, 1] : List Nat).Nodup from by decide) (by intro q hq; simp only [List.mem_cons, List.not_mem_nil, or_false] at hq; rcases hq with rfl | rfl | rfl | rfl | rfl <;> rfl))
          rw [← nI_0]
          refine ml_109 (d := d) (b := 1) M hI h24 hc h3 hb.symm hp (w 46 c + 1) 0 _ _ (Nat.zero_le _) rfl (show Rl (aTB0 c (bdn w (w 43 c) (w 45 c)) w) _ from ?_) ((FV.rf v).up rfl) (by omega)
          rw [hb]
          unfold aTB0 aCame
          rw [if_neg (fun z => by unfold cwC at z; rw [eF _ (by omega)] at z; first | omega | (rcases z.2 with y | y; omega; exact c_41 y.symm))]
          exact hF
        · have c_96 : 0 < (v 61 (w 43 c)) := Nat.not_le.mp (fun zq => c_96 ((nI_leI (a := (v 61 (w 43 c))) (b := 0) (by omega) (by omega)).mpr zq))
          have c_96 : 0 < w (11 + w 43 c) 3 := by omega
          have hfl := hfl c_96
          refine R_seg sg_109_99 sk_109_99 (pc' := 105) (lv' := [(3, .int 1), (2, .int (nI (w 43 c))), (0, .ref 57), (1, .int (nI c))]) (st' := [.int 1, .int (nI (w 43 c)), .ref 63]) (S' := stt (nw (up2 v 102 c 1)) τ) (kc' := 0) (ks' := 0) rfl ⟨trivial, rfl, trivial, trivial, trivial⟩ ?_
          refine R_if ck_109_105 (fun c => absurd c (show ¬ (1 : Int32) = 0 from by decide)) (fun _ => ?_)
          refine R_seg sg_109_108 sk_109_108 (pc' := 113) (lv' := [(3, .int 1), (2, .int (nI (w 43 c))), (0, .ref 57), (1, .int (nI c))]) (st' := [.int (nI (w 43 c)), .ref 63, .int (nI (w 43 c)), .ref 63]) (S' := stt (nw (up2 v 102 c 1)) τ) (kc' := 0) (ks' := 0) rfl ⟨trivial, rfl, trivial, trivial⟩ ?_
          refine R_iald ca_109_113 (j := w 43 c) rfl rfl (by omega) ?_
          refine R_seg sg_109_114 sk_109_114 (pc' := 116) (lv' := [(3, .int 1), (2, .int (nI (w 43 c))), (0, .ref 57), (1, .int (nI c))]) (st' := [.int ((nI (v 63 (w 43 c))) + 1), .int (nI (w 43 c)), .ref 63]) (S' := stt (nw (up2 v 102 c 1)) τ) (kc' := 0) (ks' := 0) rfl ⟨trivial, trivial, trivial⟩ ?_
          refine R_goto ck_109_116 ?_
          refine R_iast ca_109_120 (j := w 43 c) rfl rfl (by omega) ?_
          show RU_109 (d + 11) (0, 0) Post 121 ([(3, .int 1), (2, .int (nI (w 43 c))), (0, .ref 57), (1, .int (nI c))]) ([]) (stt (up2 (nw (up2 v 102 c 1)) 63 (w 43 c) ((nI (v 63 (w 43 c))) + 1)) τ) 0 0
          rw [nw_up (w := up2 v 102 c 1) (k := 63) (i := (w 43 c)) (v := (nI (v 63 (w 43 c))) + 1) (n := v 63 (w 43 c) + 1) (nI_1 _)]
          refine R_seg sg_109_121 sk_109_121 (pc' := 126) (lv' := [(3, .int 1), (2, .int (nI (w 43 c))), (0, .ref 57), (1, .int (nI c))]) (st' := [.int (nI (w 43 c)), .ref 63]) (S' := stt (nw (up2 (up2 v 102 c 1) 63 (w 43 c) (v 63 (w 43 c) + 1))) τ) (kc' := 0) (ks' := 0) rfl ⟨trivial, rfl, trivial, trivial⟩ ?_
          refine R_iald ca_109_126 (j := w 43 c) rfl rfl (by omega) ?_
          show RU_109 (d + 11) (0, 0) Post 127 ([(3, .int 1), (2, .int (nI (w 43 c))), (0, .ref 57), (1, .int (nI c))]) ([.int (nI ((up2 (up2 v 102 c 1) 63 (w 43 c) (v 63 (w 43 c) + 1)) 63 (w 43 c)))]) (stt (nw (up2 (up2 v 102 c 1) 63 (w 43 c) (v 63 (w 43 c) + 1))) τ) 0 0
          rw [show (up2 (up2 v 102 c 1) 63 (w 43 c) (v 63 (w 43 c) + 1)) 63 (w 43 c) = v 63 (w 43 c) + 1 from va_up_self _ _ _]
          refine R_seg sg_109_127 sk_109_127 (pc' := 132) (lv' := [(3, .int 1), (2, .int (nI (w 43 c))), (0, .ref 57), (1, .int (nI c))]) (st' := [.int (nI (w 43 c)), .ref 61, .int (nI (v 63 (w 43 c) + 1))]) (S' := stt (nw (up2 (up2 v 102 c 1) 63 (w 43 c) (v 63 (w 43 c) + 1))) τ) (kc' := 0) (ks' := 0) rfl ⟨trivial, rfl, trivial, trivial⟩ ?_
          refine R_iald ca_109_132 (j := w 43 c) rfl rfl (by omega) ?_
          refine R_icmp ck_109_133 (fun (c_133 : ¬ (nI (v 63 (w 43 c) + 1)) = (nI (v 61 (w 43 c)))) => ?_) (fun (c_133 : ¬ ¬ (nI (v 63 (w 43 c) + 1)) = (nI (v 61 (w 43 c)))) => ?_)
          · have c_133 : ¬ (v 63 (w 43 c) + 1) = (v 61 (w 43 c)) := fun zq => c_133 ((nI_eq (a := (v 63 (w 43 c) + 1)) (b := (v 61 (w 43 c))) (by omega) (by omega)).mpr zq)
            skip
            refine R_seg sg_109_141 sk_109_141 (pc' := 144) (lv' := [(4, .int 0), (3, .int 1), (2, .int (nI (w 43 c))), (0, .ref 57), (1, .int (nI c))]) (st' := []) (S' := stt (nw (up2 (up2 v 102 c 1) 63 (w 43 c) (v 63 (w 43 c) + 1))) τ) (kc' := 0) (ks' := 0) rfl ⟨trivial, (by decide), trivial⟩ ?_
            refine Runs.lv (lv := [(4, .int 0), (3, .int 1), (2, .int (nI (w 43 c))), (0, .ref 57), (1, .int (nI c))]) ?_ _ (lvS_l (show ([4, 3, 2, 0, 1] : List Nat).Nodup from by decide) (by intro q hq; simp only [List.mem_cons, List.not_mem_nil, or_false] at hq; rcases hq with rfl | rfl | rfl | rfl | rfl <;> rfl))
            rw [← nI_0]
            refine ml_109 (d := d) (b := 1) M hI h24 hc h3 hb.symm hp (w 46 c + 1) 0 _ _ (Nat.zero_le _) rfl (show Rl (aTB0 c (bdn w (w 43 c) (w 45 c)) w) _ from ?_) (((FV.rf v).up rfl).up rfl) (by omega)
            rw [hb]
            unfold aTB0 aCame
            rw [if_pos (show cwC (w 43 c) c (aFin c 1 w) from ⟨by rw [eF _ (by omega)]; exact c_96, Or.inl (by rw [eF _ (by omega)]; exact hcl)⟩), if_neg (by decide), if_neg (by rw [eF _ (by omega)]; omega)]
            exact hF.fai hh
          · have c_133 : (v 63 (w 43 c) + 1) = (v 61 (w 43 c)) := (nI_eq (a := (v 63 (w 43 c) + 1)) (b := (v 61 (w 43 c))) (by omega) (by omega)).mp (Classical.not_not.mp c_133)
            skip
            refine R_seg sg_109_136 sk_109_136 (pc' := 138) (lv' := [(3, .int 1), (2, .int (nI (w 43 c))), (0, .ref 57), (1, .int (nI c))]) (st' := [.int (nI (w 43 c)), .ref 57]) (S' := stt (nw (up2 (up2 v 102 c 1) 63 (w 43 c) (v 63 (w 43 c) + 1))) τ) (kc' := 0) (ks' := 0) rfl ⟨trivial, trivial, trivial⟩ ?_
            refine R_virt ck_109_138 57 [.int (nI (w 43 c))] 0 0 (r := []) rfl rfl rfl (Nat.le_of_ble_eq_true rfl) (Nat.le_refl _) (Nat.le_refl _) ?_
            refine m_111 (d := d + 10) (v := up2 (up2 v 102 c 1) 63 (w 43 c) (v 63 (w 43 c) + 1)) hh ?_
            show RU_109 (d + 11) (0, 0) Post 141 ([(3, .int 1), (2, .int (nI (w 43 c))), (0, .ref 57), (1, .int (nI c))]) ([]) (stt (nw (mOpen (w 43 c) (up2 (up2 v 102 c 1) 63 (w 43 c) (v 63 (w 43 c) + 1)))) τ) 0 0
            refine R_seg sg_109_141 sk_109_141 (pc' := 144) (lv' := [(4, .int 0), (3, .int 1), (2, .int (nI (w 43 c))), (0, .ref 57), (1, .int (nI c))]) (st' := []) (S' := stt (nw (mOpen (w 43 c) (up2 (up2 v 102 c 1) 63 (w 43 c) (v 63 (w 43 c) + 1)))) τ) (kc' := 0) (ks' := 0) rfl ⟨trivial, (by decide), trivial⟩ ?_
            refine Runs.lv (lv := [(4, .int 0), (3, .int 1), (2, .int (nI (w 43 c))), (0, .ref 57), (1, .int (nI c))]) ?_ _ (lvS_l (show ([4, 3, 2, 0, 1] : List Nat).Nodup from by decide) (by intro q hq; simp only [List.mem_cons, List.not_mem_nil, or_false] at hq; rcases hq with rfl | rfl | rfl | rfl | rfl <;> rfl))
            rw [← nI_0]
            refine ml_109 (d := d) (b := 1) M hI h24 hc h3 hb.symm hp (w 46 c + 1) 0 _ _ (Nat.zero_le _) rfl (show Rl (aTB0 c (bdn w (w 43 c) (w 45 c)) w) _ from ?_) (((((FV.rf v).up rfl).up rfl).up rfl).up rfl |>.up rfl) (by omega)
            rw [hb]
            unfold aTB0 aCame
            rw [if_pos (show cwC (w 43 c) c (aFin c 1 w) from ⟨by rw [eF _ (by omega)]; exact c_96, Or.inl (by rw [eF _ (by omega)]; exact hcl)⟩), if_neg (by decide), if_pos (Or.inr (by rw [eF _ (by omega)]; omega))]
            have hff := (hF.fai hh).opn hh (b := up2 (aFin c 1 w) (11 + w 43 c) 6 ((aFin c 1 w) (11 + w 43 c) 6 + 1)) (fun _ _ => rfl) (fun _ _ => rfl)
            exact hff
    · have e65 : v 65 (w 43 c) = w (11 + w 43 c) 8 := hRT.2.1
      have c_41 : w (11 + w 43 c) 8 = c := by
        have y := Classical.not_not.mp c_41
        have y : nI (v 65 (w 43 c)) = nI c := y
        rw [e65] at y
        rcases h8b with q | q
        · exact (nI_eq q (by omega)).mp y
        · rw [q] at y; exact absurd y.symm (nI_m1 (by omega))
      have hcl : w (11 + w 43 c) 5 = 0 ∧ 0 < w (11 + w 43 c) 3 := by
        rcases h7 (w 43 c) hh with q | q
        · rw [c_41] at q; exact absurd (show c = 4294967295 from q) (by omega)
        · exact ⟨q.2.2.2, hH.2.2.2.2.2.2.2.2.2 q.2.2.2⟩
      refine R_seg sg_109_44 sk_109_44 (pc' := 45) (lv' := [(3, .int 1), (2, .int (nI (w 43 c))), (0, .ref 57), (1, .int (nI c))]) (st' := [.int 1]) (S' := stt (nw (up2 v 102 c 1)) τ) (kc' := 0) (ks' := 0) rfl ⟨trivial, trivial⟩ ?_
      refine R_if ck_109_45 (fun c => absurd c (show ¬ (1 : Int32) = 0 from by decide)) (fun _ => ?_)
      refine R_seg sg_109_48 sk_109_48 (pc' := 50) (lv' := [(3, .int 1), (2, .int (nI (w 43 c))), (0, .ref 57), (1, .int (nI c))]) (st' := [.int (nI (w 43 c)), .ref 57]) (S' := stt (nw (up2 v 102 c 1)) τ) (kc' := 0) (ks' := 0) rfl ⟨trivial, trivial, trivial⟩ ?_
      refine R_virt ck_109_50 57 [.int (nI (w 43 c))] 0 0 (r := []) rfl rfl rfl (Nat.le_of_ble_eq_true rfl) (Nat.le_refl _) (Nat.le_refl _) ?_
      refine m_111 (d := d + 10) (v := up2 v 102 c 1) hh ?_
      show RU_109 (d + 11) (0, 0) Post 53 ([(3, .int 1), (2, .int (nI (w 43 c))), (0, .ref 57), (1, .int (nI c))]) ([]) (stt (nw (mOpen (w 43 c) (up2 v 102 c 1))) τ) 0 0
      refine R_goto ck_109_53 ?_
      refine R_seg sg_109_141 sk_109_141 (pc' := 144) (lv' := [(4, .int 0), (3, .int 1), (2, .int (nI (w 43 c))), (0, .ref 57), (1, .int (nI c))]) (st' := []) (S' := stt (nw (mOpen (w 43 c) (up2 v 102 c 1))) τ) (kc' := 0) (ks' := 0) rfl ⟨trivial, (by decide), trivial⟩ ?_
      refine Runs.lv (lv := [(4, .int 0), (3, .int 1), (2, .int (nI (w 43 c))), (0, .ref 57), (1, .int (nI c))]) ?_ _ (lvS_l (show ([4, 3, 2, 0, 1] : List Nat).Nodup from by decide) (by intro q hq; simp only [List.mem_cons, List.not_mem_nil, or_false] at hq; rcases hq with rfl | rfl | rfl | rfl | rfl <;> rfl))
      rw [← nI_0]
      refine ml_109 (d := d) (b := 1) M hI h24 hc h3 hb.symm hp (w 46 c + 1) 0 _ _ (Nat.zero_le _) rfl (show Rl (aTB0 c (bdn w (w 43 c) (w 45 c)) w) _ from ?_) ((((FV.rf v).up rfl).up rfl).up rfl |>.up rfl) (by omega)
      rw [hb]
      unfold aTB0 aCame
      rw [if_pos (show cwC (w 43 c) c (aFin c 1 w) from ⟨by rw [eF _ (by omega)]; exact hcl.2, Or.inr (by rw [eF _ (by omega)]; exact c_41.symm)⟩), if_neg (by decide), if_pos (Or.inl (by rw [eF _ (by omega)]; exact hcl.1))]
      exact hF.opn hh (fun k hk => up2_k _ _ _ _ hk) (fun i hi => up2_d _ _ _ _ (by omega))
  · have hF := hR.fin c 0
    have eF : ∀ j, j ≠ 42 ∧ j ≠ 47 → aFin c 0 w j = w j := fun j hj => aFin_k _ _ _ hj
    show RU_109 (d + 11) (0, 0) Post 18 ([(2, .int (nI (w 43 c))), (0, .ref 57), (1, .int (nI c))]) ([.int 0]) (stt (nw v) τ) 0 0
    refine R_seg sg_109_18 sk_109_18 (pc' := 25) (lv' := [(3, .int 0), (2, .int (nI (w 43 c))), (0, .ref 57), (1, .int (nI c))]) (st' := [.int 0, .int (nI c), .ref 102]) (S' := stt (nw v) τ) (kc' := 0) (ks' := 0) rfl ⟨(by decide), trivial, rfl, trivial, trivial, trivial⟩ ?_
    refine R_if ck_109_25 (fun _ => ?_) (fun c => absurd (show (0 : Int32) = 0 from by decide) c)
    refine R_seg sg_109_32 sk_109_32 (pc' := 33) (lv' := [(3, .int 0), (2, .int (nI (w 43 c))), (0, .ref 57), (1, .int (nI c))]) (st' := [.int 0, .int (nI c), .ref 102]) (S' := stt (nw v) τ) (kc' := 0) (ks' := 0) rfl ⟨trivial, trivial⟩ ?_
    refine R_iast ca_109_33 (j := c) rfl rfl (by omega) ?_
    show RU_109 (d + 11) (0, 0) Post 34 ([(3, .int 0), (2, .int (nI (w 43 c))), (0, .ref 57), (1, .int (nI c))]) ([]) (stt (up2 (nw v) 102 c 0) τ) 0 0
    rw [nw_up (w := v) (k := 102) (i := c) (v := 0) (n := 0) rfl]
    refine R_seg sg_109_34 sk_109_34 (pc' := 39) (lv' := [(3, .int 0), (2, .int (nI (w 43 c))), (0, .ref 57), (1, .int (nI c))]) (st' := [.int (nI (w 43 c)), .ref 65]) (S' := stt (nw (up2 v 102 c 0)) τ) (kc' := 0) (ks' := 0) rfl ⟨trivial, rfl, trivial, trivial⟩ ?_
    refine R_iald ca_109_39 (j := w 43 c) rfl rfl (by omega) ?_
    show RU_109 (d + 11) (0, 0) Post 40 ([(3, .int 0), (2, .int (nI (w 43 c))), (0, .ref 57), (1, .int (nI c))]) ([.int (nI (v 65 (w 43 c)))]) (stt (nw (up2 v 102 c 0)) τ) 0 0
    skip
    refine R_seg sg_109_40 sk_109_40 (pc' := 41) (lv' := [(3, .int 0), (2, .int (nI (w 43 c))), (0, .ref 57), (1, .int (nI c))]) (st' := [.int (nI c), .int (nI (v 65 (w 43 c)))]) (S' := stt (nw (up2 v 102 c 0)) τ) (kc' := 0) (ks' := 0) rfl ⟨trivial, trivial⟩ ?_
    skip
    refine R_icmp ck_109_41 (fun (c_41 : ¬ (nI (v 65 (w 43 c))) = (nI c)) => ?_) (fun (c_41 : ¬ ¬ (nI (v 65 (w 43 c))) = (nI c)) => ?_)
    · have e65 : v 65 (w 43 c) = w (11 + w 43 c) 8 := hRT.2.1
      have c_41 : ¬ w (11 + w 43 c) 8 = c := fun y => c_41 (by show nI (v 65 (w 43 c)) = nI c; rw [e65, y])
      refine R_seg sg_109_80 sk_109_80 (pc' := 85) (lv' := [(3, .int 0), (2, .int (nI (w 43 c))), (0, .ref 57), (1, .int (nI c))]) (st' := [.int (nI (w 43 c)), .ref 64]) (S' := stt (nw (up2 v 102 c 0)) τ) (kc' := 0) (ks' := 0) rfl ⟨trivial, rfl, trivial, trivial⟩ ?_
      refine R_iald ca_109_85 (j := w 43 c) rfl rfl (by omega) ?_
      refine R_seg sg_109_86 sk_109_86 (pc' := 87) (lv' := [(3, .int 0), (2, .int (nI (w 43 c))), (0, .ref 57), (1, .int (nI c))]) (st' := [.int (-1), .int (nI (v 64 (w 43 c)))]) (S' := stt (nw (up2 v 102 c 0)) τ) (kc' := 0) (ks' := 0) rfl ⟨trivial, trivial⟩ ?_
      refine R_icmp ck_109_87 (fun (c_87 : ¬ (nI (v 64 (w 43 c))) = (-1)) => ?_) (fun (c_87 : ¬ ¬ (nI (v 64 (w 43 c))) = (-1)) => ?_)
      · have hcl : w (11 + w 43 c) 5 = 0 := by rcases Nat.eq_zero_or_pos (w (11 + w 43 c) 5) with y | y; exact y; exact absurd (show nI (v 64 (w 43 c)) = -1 by rw [hRT.2.2, if_neg (by omega)]; rfl) c_87
        refine R_seg sg_109_141 sk_109_141 (pc' := 144) (lv' := [(4, .int 0), (3, .int 0), (2, .int (nI (w 43 c))), (0, .ref 57), (1, .int (nI c))]) (st' := []) (S' := stt (nw (up2 v 102 c 0)) τ) (kc' := 0) (ks' := 0) rfl ⟨trivial, (by decide), trivial⟩ ?_
        refine Runs.lv (lv := [(4, .int 0), (3, .int 0), (2, .int (nI (w 43 c))), (0, .ref 57), (1, .int (nI c))]) ?_ _ (lvS_l (show ([4, 3, 2, 0, 1] : List Nat).Nodup from by decide) (by intro q hq; simp only [List.mem_cons, List.not_mem_nil, or_false] at hq; rcases hq with rfl | rfl | rfl | rfl | rfl <;> rfl))
        rw [← nI_0]
        refine ml_109 (d := d) (b := 0) M hI h24 hc h3 hb.symm hp (w 46 c + 1) 0 _ _ (Nat.zero_le _) rfl (show Rl (aTB0 c (bdn w (w 43 c) (w 45 c)) w) _ from ?_) ((FV.rf v).up rfl) (by omega)
        rw [hb]
        unfold aTB0 aCame
        rw [if_neg (fun z => by unfold cwC at z; rw [eF _ (by omega)] at z; first | omega | (rcases z.2 with y | y; omega; exact c_41 y.symm))]
        exact hF
      · have hcl : w (11 + w 43 c) 5 ≠ 0 := by
          intro y
          have z : nI (v 64 (w 43 c)) = -1 := Classical.not_not.mp c_87
          rw [hRT.2.2, if_pos y] at z
          exact nI_m1 (by omega) z
        have e61 : v 61 (w 43 c) = w (11 + w 43 c) 3 := hRH.2.2.2.1
        have e63 : v 63 (w 43 c) = w (11 + w 43 c) 6 := hRT.1
        have htn : w (11 + w 43 c) 8 = N1 := by rcases h7 (w 43 c) hh with q | q; exact q; exact absurd q.2.2.2 hcl
        have hc1 : w (11 + w 43 c) 5 = 1 := by omega
        have hfl := hH.2.2.2.2.2.2.2.2.1 hc1
        refine R_seg sg_109_90 sk_109_90 (pc' := 95) (lv' := [(3, .int 0), (2, .int (nI (w 43 c))), (0, .ref 57), (1, .int (nI c))]) (st' := [.int (nI (w 43 c)), .ref 61]) (S' := stt (nw (up2 v 102 c 0)) τ) (kc' := 0) (ks' := 0) rfl ⟨trivial, rfl, trivial, trivial⟩ ?_
        refine R_iald ca_109_95 (j := w 43 c) rfl rfl (by omega) ?_
        refine R_if ck_109_96 (fun (c_96 : (nI (v 61 (w 43 c))) ≤ 0) => ?_) (fun (c_96 : ¬ (nI (v 61 (w 43 c))) ≤ 0) => ?_)
        · have c_96 : (v 61 (w 43 c)) ≤ 0 := (nI_leI (a := (v 61 (w 43 c))) (b := 0) (by omega) (by omega)).mp c_96
          refine R_seg sg_109_141 sk_109_141 (pc' := 144) (lv' := [(4, .int 0), (3, .int 0), (2, .int (nI (w 43 c))), (0, .ref 57), (1, .int (nI c))]) (st' := []) (S' := stt (nw (up2 v 102 c 0)) τ) (kc' := 0) (ks' := 0) rfl ⟨trivial, (by decide), trivial⟩ ?_
          refine Runs.lv (lv := [(4, .int 0), (3, .int 0), (2, .int (nI (w 43 c))), (0, .ref 57), (1, .int (nI c))]) ?_ _ (lvS_l (show ([4, 3, 2, 0, 1] : List Nat).Nodup from by decide) (by intro q hq; simp only [List.mem_cons, List.not_mem_nil, or_false] at hq; rcases hq with rfl | rfl | rfl | rfl | rfl <;> rfl))
          rw [← nI_0]
          refine ml_109 (d := d) (b := 0) M hI h24 hc h3 hb.symm hp (w 46 c + 1) 0 _ _ (Nat.zero_le _) rfl (show Rl (aTB0 c (bdn w (w 43 c) (w 45 c)) w) _ from ?_) ((FV.rf v).up rfl) (by omega)
          rw [hb]
          unfold aTB0 aCame
          rw [if_neg (fun z => by unfold cwC at z; rw [eF _ (by omega)] at z; first | omega | (rcases z.2 with y | y; omega; exact c_41 y.symm))]
          exact hF
        · have c_96 : 0 < (v 61 (w 43 c)) := Nat.not_le.mp (fun zq => c_96 ((nI_leI (a := (v 61 (w 43 c))) (b := 0) (by omega) (by omega)).mpr zq))
          have c_96 : 0 < w (11 + w 43 c) 3 := by omega
          have hfl := hfl c_96
          refine R_seg sg_109_99 sk_109_99 (pc' := 105) (lv' := [(3, .int 0), (2, .int (nI (w 43 c))), (0, .ref 57), (1, .int (nI c))]) (st' := [.int 0, .int (nI (w 43 c)), .ref 63]) (S' := stt (nw (up2 v 102 c 0)) τ) (kc' := 0) (ks' := 0) rfl ⟨trivial, rfl, trivial, trivial, trivial⟩ ?_
          refine R_if ck_109_105 (fun _ => ?_) (fun c => absurd (show (0 : Int32) = 0 from by decide) c)
          refine R_seg sg_109_119 sk_109_119 (pc' := 120) (lv' := [(3, .int 0), (2, .int (nI (w 43 c))), (0, .ref 57), (1, .int (nI c))]) (st' := [.int 0, .int (nI (w 43 c)), .ref 63]) (S' := stt (nw (up2 v 102 c 0)) τ) (kc' := 0) (ks' := 0) rfl ⟨trivial, trivial⟩ ?_
          refine R_iast ca_109_120 (j := w 43 c) rfl rfl (by omega) ?_
          show RU_109 (d + 11) (0, 0) Post 121 ([(3, .int 0), (2, .int (nI (w 43 c))), (0, .ref 57), (1, .int (nI c))]) ([]) (stt (up2 (nw (up2 v 102 c 0)) 63 (w 43 c) 0) τ) 0 0
          rw [nw_up (w := up2 v 102 c 0) (k := 63) (i := (w 43 c)) (v := 0) (n := 0) rfl]
          refine R_seg sg_109_121 sk_109_121 (pc' := 126) (lv' := [(3, .int 0), (2, .int (nI (w 43 c))), (0, .ref 57), (1, .int (nI c))]) (st' := [.int (nI (w 43 c)), .ref 63]) (S' := stt (nw (up2 (up2 v 102 c 0) 63 (w 43 c) 0)) τ) (kc' := 0) (ks' := 0) rfl ⟨trivial, rfl, trivial, trivial⟩ ?_
          refine R_iald ca_109_126 (j := w 43 c) rfl rfl (by omega) ?_
          show RU_109 (d + 11) (0, 0) Post 127 ([(3, .int 0), (2, .int (nI (w 43 c))), (0, .ref 57), (1, .int (nI c))]) ([.int (nI ((up2 (up2 v 102 c 0) 63 (w 43 c) 0) 63 (w 43 c)))]) (stt (nw (up2 (up2 v 102 c 0) 63 (w 43 c) 0)) τ) 0 0
          rw [show (up2 (up2 v 102 c 0) 63 (w 43 c) 0) 63 (w 43 c) = 0 from va_up_self _ _ _]
          refine R_seg sg_109_127 sk_109_127 (pc' := 132) (lv' := [(3, .int 0), (2, .int (nI (w 43 c))), (0, .ref 57), (1, .int (nI c))]) (st' := [.int (nI (w 43 c)), .ref 61, .int (nI 0)]) (S' := stt (nw (up2 (up2 v 102 c 0) 63 (w 43 c) 0)) τ) (kc' := 0) (ks' := 0) rfl ⟨trivial, rfl, trivial, trivial⟩ ?_
          refine R_iald ca_109_132 (j := w 43 c) rfl rfl (by omega) ?_
          refine R_icmp ck_109_133 (fun (c_133 : ¬ (nI 0) = (nI (v 61 (w 43 c)))) => ?_) (fun (c_133 : ¬ ¬ (nI 0) = (nI (v 61 (w 43 c)))) => ?_)
          · have c_133 : ¬ 0 = (v 61 (w 43 c)) := fun zq => c_133 ((nI_eq (a := 0) (b := (v 61 (w 43 c))) (by omega) (by omega)).mpr zq)
            skip
            refine R_seg sg_109_141 sk_109_141 (pc' := 144) (lv' := [(4, .int 0), (3, .int 0), (2, .int (nI (w 43 c))), (0, .ref 57), (1, .int (nI c))]) (st' := []) (S' := stt (nw (up2 (up2 v 102 c 0) 63 (w 43 c) 0)) τ) (kc' := 0) (ks' := 0) rfl ⟨trivial, (by decide), trivial⟩ ?_
            refine Runs.lv (lv := [(4, .int 0), (3, .int 0), (2, .int (nI (w 43 c))), (0, .ref 57), (1, .int (nI c))]) ?_ _ (lvS_l (show ([4, 3, 2, 0, 1] : List Nat).Nodup from by decide) (by intro q hq; simp only [List.mem_cons, List.not_mem_nil, or_false] at hq; rcases hq with rfl | rfl | rfl | rfl | rfl <;> rfl))
            rw [← nI_0]
            refine ml_109 (d := d) (b := 0) M hI h24 hc h3 hb.symm hp (w 46 c + 1) 0 _ _ (Nat.zero_le _) rfl (show Rl (aTB0 c (bdn w (w 43 c) (w 45 c)) w) _ from ?_) (((FV.rf v).up rfl).up rfl) (by omega)
            rw [hb]
            unfold aTB0 aCame
            rw [if_pos (show cwC (w 43 c) c (aFin c 0 w) from ⟨by rw [eF _ (by omega)]; exact c_96, Or.inl (by rw [eF _ (by omega)]; exact hcl)⟩), if_pos rfl]
            exact hF.cls2 hh (by rw [eF _ (by omega)]; exact hcl) (by rw [eF _ (by omega)]; exact htn)
          · have c_133 : 0 = (v 61 (w 43 c)) := (nI_eq (a := 0) (b := (v 61 (w 43 c))) (by omega) (by omega)).mp (Classical.not_not.mp c_133)
            omega
    · have e65 : v 65 (w 43 c) = w (11 + w 43 c) 8 := hRT.2.1
      have c_41 : w (11 + w 43 c) 8 = c := by
        have y := Classical.not_not.mp c_41
        have y : nI (v 65 (w 43 c)) = nI c := y
        rw [e65] at y
        rcases h8b with q | q
        · exact (nI_eq q (by omega)).mp y
        · rw [q] at y; exact absurd y.symm (nI_m1 (by omega))
      have hcl : w (11 + w 43 c) 5 = 0 ∧ 0 < w (11 + w 43 c) 3 := by
        rcases h7 (w 43 c) hh with q | q
        · rw [c_41] at q; exact absurd (show c = 4294967295 from q) (by omega)
        · exact ⟨q.2.2.2, hH.2.2.2.2.2.2.2.2.2 q.2.2.2⟩
      refine R_seg sg_109_44 sk_109_44 (pc' := 45) (lv' := [(3, .int 0), (2, .int (nI (w 43 c))), (0, .ref 57), (1, .int (nI c))]) (st' := [.int 0]) (S' := stt (nw (up2 v 102 c 0)) τ) (kc' := 0) (ks' := 0) rfl ⟨trivial, trivial⟩ ?_
      refine R_if ck_109_45 (fun _ => ?_) (fun c => absurd (show (0 : Int32) = 0 from by decide) c)
      refine R_seg sg_109_56 sk_109_56 (pc' := 62) (lv' := [(3, .int 0), (2, .int (nI (w 43 c))), (0, .ref 57), (1, .int (nI c))]) (st' := [.int (-1), .int (nI (w 43 c)), .ref 64]) (S' := stt (nw (up2 v 102 c 0)) τ) (kc' := 0) (ks' := 0) rfl ⟨trivial, rfl, trivial, trivial, trivial⟩ ?_
      refine R_iast ca_109_62 (j := w 43 c) rfl rfl (by omega) ?_
      show RU_109 (d + 11) (0, 0) Post 63 ([(3, .int 0), (2, .int (nI (w 43 c))), (0, .ref 57), (1, .int (nI c))]) ([]) (stt (up2 (nw (up2 v 102 c 0)) 64 (w 43 c) (-1)) τ) 0 0
      rw [nw_up (w := up2 v 102 c 0) (k := 64) (i := (w 43 c)) (v := (-1)) (n := N1) rfl]
      refine R_seg sg_109_63 sk_109_63 (pc' := 69) (lv' := [(3, .int 0), (2, .int (nI (w 43 c))), (0, .ref 57), (1, .int (nI c))]) (st' := [.int 0, .int (nI (w 43 c)), .ref 63]) (S' := stt (nw (up2 (up2 v 102 c 0) 64 (w 43 c) N1)) τ) (kc' := 0) (ks' := 0) rfl ⟨trivial, rfl, trivial, trivial, trivial⟩ ?_
      refine R_iast ca_109_69 (j := w 43 c) rfl rfl (by omega) ?_
      show RU_109 (d + 11) (0, 0) Post 70 ([(3, .int 0), (2, .int (nI (w 43 c))), (0, .ref 57), (1, .int (nI c))]) ([]) (stt (up2 (nw (up2 (up2 v 102 c 0) 64 (w 43 c) N1)) 63 (w 43 c) 0) τ) 0 0
      rw [nw_up (w := up2 (up2 v 102 c 0) 64 (w 43 c) N1) (k := 63) (i := (w 43 c)) (v := 0) (n := 0) rfl]
      refine R_seg sg_109_70 sk_109_70 (pc' := 76) (lv' := [(3, .int 0), (2, .int (nI (w 43 c))), (0, .ref 57), (1, .int (nI c))]) (st' := [.int (-1), .int (nI (w 43 c)), .ref 65]) (S' := stt (nw (up2 (up2 (up2 v 102 c 0) 64 (w 43 c) N1) 63 (w 43 c) 0)) τ) (kc' := 0) (ks' := 0) rfl ⟨trivial, rfl, trivial, trivial, trivial⟩ ?_
      refine R_iast ca_109_76 (j := w 43 c) rfl rfl (by omega) ?_
      show RU_109 (d + 11) (0, 0) Post 77 ([(3, .int 0), (2, .int (nI (w 43 c))), (0, .ref 57), (1, .int (nI c))]) ([]) (stt (up2 (nw (up2 (up2 (up2 v 102 c 0) 64 (w 43 c) N1) 63 (w 43 c) 0)) 65 (w 43 c) (-1)) τ) 0 0
      rw [nw_up (w := up2 (up2 (up2 v 102 c 0) 64 (w 43 c) N1) 63 (w 43 c) 0) (k := 65) (i := (w 43 c)) (v := (-1)) (n := N1) rfl]
      refine R_goto ck_109_77 ?_
      refine R_seg sg_109_141 sk_109_141 (pc' := 144) (lv' := [(4, .int 0), (3, .int 0), (2, .int (nI (w 43 c))), (0, .ref 57), (1, .int (nI c))]) (st' := []) (S' := stt (nw (up2 (up2 (up2 (up2 v 102 c 0) 64 (w 43 c) N1) 63 (w 43 c) 0) 65 (w 43 c) N1)) τ) (kc' := 0) (ks' := 0) rfl ⟨trivial, (by decide), trivial⟩ ?_
      refine Runs.lv (lv := [(4, .int 0), (3, .int 0), (2, .int (nI (w 43 c))), (0, .ref 57), (1, .int (nI c))]) ?_ _ (lvS_l (show ([4, 3, 2, 0, 1] : List Nat).Nodup from by decide) (by intro q hq; simp only [List.mem_cons, List.not_mem_nil, or_false] at hq; rcases hq with rfl | rfl | rfl | rfl | rfl <;> rfl))
      rw [← nI_0]
      refine ml_109 (d := d) (b := 0) M hI h24 hc h3 hb.symm hp (w 46 c + 1) 0 _ _ (Nat.zero_le _) rfl (show Rl (aTB0 c (bdn w (w 43 c) (w 45 c)) w) _ from ?_) ((((FV.rf v).up rfl).up rfl).up rfl |>.up rfl) (by omega)
      rw [hb]
      unfold aTB0 aCame
      rw [if_pos (show cwC (w 43 c) c (aFin c 0 w) from ⟨by rw [eF _ (by omega)]; exact hcl.2, Or.inr (by rw [eF _ (by omega)]; exact c_41.symm)⟩), if_pos rfl]
      exact hF.cls hh
